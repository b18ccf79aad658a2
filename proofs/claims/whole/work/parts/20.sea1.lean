abbrev mX2_rest : zM := (cX2_rest, 2, (some .int), RX2, wsX2_rest, "rest")
theorem hiX2_rest_X2 : ∀ w ∈ wsX20, w ∈ wsX2_rest := fun w h => List.mem_cons_of_mem _ (List.mem_append_right _ h)
theorem lkX2_rest_9 : Cond.fieldLink RX2 9 "ConfigSearch$Plane" "field" "I" ∈ wsX2_rest := by decide +kernel
theorem okk_J9_floorMod_7cf53 : zOk yJ9_floorMod_7cf53 2 := by unfold zOk; decide +kernel
def X2_rest_v (fld : Int32) (v : Int32) : Int32 := if fld = 0 then v else (fmod v fld)
set_option maxRecDepth 100000 in
set_option maxHeartbeats 4000000 in
theorem c_X2_rest (G : zG) (ex : Bool) (g : Nat → va_E) (fld : Int32) (psz : Nat) (v : Int32)  (h41 : g 41 = (oPln G fld (nI psz))) : zC G yX2_rest wsX2_rest (zrm 1 22) ex [.ref (zB G + 41), .int v] (zN, g) (fun r h => r = some (.int (X2_rest_v fld v)) ∧ h = (zN, g)) := by
  refine zC_of mX2_rest (lv := [some (.ref (zB G + 41)), some (.int v)]) rfl rfl (by decide) (by intro v hv; simp at hv; rcases hv with rfl | rfl <;> rfl) (Nat.le_of_ble_eq_true rfl) rfl ?_
  refine z_0 ?_
  refine z_aload_n dX2_rest_0 rfl rfl ?_
  refine z_get dX2_rest_1 rfl hiX2_rest_X2 0 lkX2_rest_9 (Nat.le_of_ble_eq_true rfl) h41 rfl (by decide) rfl ?_
  refine z_if_ne (tgt := 11) dX2_rest_4 rfl (by decide) (fun c4 => ?_) (fun c4 => ?_)
  · refine z_iload_n dX2_rest_11 rfl rfl ?_
    refine z_aload_n dX2_rest_12 rfl rfl ?_
    refine z_get dX2_rest_13 rfl hiX2_rest_X2 0 lkX2_rest_9 (Nat.le_of_ble_eq_true rfl) h41 rfl (by decide) rfl ?_
    refine z_callSi (c_floorMod G ex _ v fld (by assumption)) gX2_rest_J9_floorMod_7cf53 rfl dX2_rest_16 rfl rfl okk_J9_floorMod_7cf53 ⟨Nat.le_of_ble_eq_true rfl, Nat.le_of_ble_eq_true rfl⟩ ⟨Nat.le_of_ble_eq_true rfl, Nat.le_of_ble_eq_true rfl⟩ (Nat.le_of_ble_eq_true rfl) ?_
    exact z_ireturn dX2_rest_19 rfl rfl (Nat.le_refl _) (Nat.le_refl _) (fun _ => rfl) ⟨by simp only [X2_rest_v, if_neg c4], rfl⟩
  · refine z_iload_n dX2_rest_7 rfl rfl ?_
    refine z_goto (tgt := 19) dX2_rest_8 (by decide) ?_
    exact z_ireturn dX2_rest_19 rfl rfl (Nat.le_refl _) (Nat.le_refl _) (fun _ => rfl) ⟨by simp only [X2_rest_v, if_pos c4], rfl⟩
abbrev mX2_add : zM := (cX2_add, 4, none, RX2, wsX2_add, "add")
theorem hiX2_add_X2 : ∀ w ∈ wsX20, w ∈ wsX2_add := fun w h => List.mem_cons_of_mem _ (List.mem_append_right _ h)
theorem lkX2_add_15 : Cond.fieldLink RX2 15 "ConfigSearch$Plane" "size" "I" ∈ wsX2_add := by decide +kernel
theorem lkX2_add_20 : Cond.fieldLink RX2 20 "ConfigSearch$Plane" "numbers" "[[I" ∈ wsX2_add := by decide +kernel
set_option maxRecDepth 100000 in
set_option maxHeartbeats 4000000 in
theorem c_X2_add (G : zG) (ex : Bool) (g : Nat → va_E) (fld : Int32) (psz : Nat) (n0 n1 n2 : Nat → Int32) (x y z : Int32) (hs : psz < 183) (h41 : g 41 = (oPln G fld (nI psz))) (h42 : g 42 = (zR G 3 (zrw G 3 43))) (h43 : g 43 = (zI G 183 n0)) (h44 : g 44 = (zI G 183 n1)) (h45 : g 45 = (zI G 183 n2)) : zC G yX2_add wsX2_add (zrm 0 0) ex [.ref (zB G + 41), .int x, .int y, .int z] (zN, g) (fun r h => r = none ∧ h = (zN, zus g [(41, (oPln G fld (nI (psz + 1)))), (43, zI G 183 (upd n0 psz x)), (44, zI G 183 (upd n1 psz y)), (45, zI G 183 (upd n2 psz z))])) := by
  refine zC_of mX2_add (lv := [some (.ref (zB G + 41)), some (.int x), some (.int y), some (.int z)]) rfl rfl (by decide) (by intro v hv; simp at hv; rcases hv with rfl | rfl | rfl | rfl <;> rfl) (Nat.le_of_ble_eq_true rfl) rfl ?_
  refine z_0 ?_
  refine z_heap (g' := zu (zus g []) 41 (oPln G fld (nI psz))) (zu_self (zus g []) 41 _ h41).symm ?_
  refine z_n (L' := [(41, (oPln G fld (nI psz)))]) rfl ?_
  refine z_heap (g' := zu (zus g [(41, (oPln G fld (nI psz)))]) 43 (zI G 183 n0)) (zu_self (zus g [(41, (oPln G fld (nI psz)))]) 43 _ h43).symm ?_
  refine z_n (L' := [(41, (oPln G fld (nI psz))), (43, (zI G 183 n0))]) rfl ?_
  refine z_heap (g' := zu (zus g [(41, (oPln G fld (nI psz))), (43, (zI G 183 n0))]) 44 (zI G 183 n1)) (zu_self (zus g [(41, (oPln G fld (nI psz))), (43, (zI G 183 n0))]) 44 _ h44).symm ?_
  refine z_n (L' := [(41, (oPln G fld (nI psz))), (43, (zI G 183 n0)), (44, (zI G 183 n1))]) rfl ?_
  refine z_heap (g' := zu (zus g [(41, (oPln G fld (nI psz))), (43, (zI G 183 n0)), (44, (zI G 183 n1))]) 45 (zI G 183 n2)) (zu_self (zus g [(41, (oPln G fld (nI psz))), (43, (zI G 183 n0)), (44, (zI G 183 n1))]) 45 _ h45).symm ?_
  refine z_n (L' := [(41, (oPln G fld (nI psz))), (43, (zI G 183 n0)), (44, (zI G 183 n1)), (45, (zI G 183 n2))]) rfl ?_
  refine z_aload_n dX2_add_0 rfl rfl ?_
  refine z_get dX2_add_1 rfl hiX2_add_X2 1 lkX2_add_15 (Nat.le_of_ble_eq_true rfl) rfl rfl (by decide) rfl ?_
  refine z_sipush (v := nI 183) dX2_add_4 rfl (by decide) ?_
  refine z_icmp_ge (tgt := 56) dX2_add_7 rfl (by decide) (fun c7 => ?_) (fun c7 => ?_)
  · exact absurd c7 (nI_ge hs (by decide))
  · refine z_aload_n dX2_add_10 rfl rfl ?_
    refine z_get dX2_add_11 rfl hiX2_add_X2 2 lkX2_add_20 (Nat.le_of_ble_eq_true rfl) rfl rfl (by decide) rfl ?_
    refine z_iconst (v := nI 0) dX2_add_14 rfl (by decide) ?_
    refine z_aaldN (j := 0) (a := zB G + 43) dX2_add_15 rfl (Nat.le_of_ble_eq_true rfl) h42 (rfl) (by omega) (by decide) rfl ?_
    refine z_aload_n dX2_add_16 rfl rfl ?_
    refine z_get dX2_add_17 rfl hiX2_add_X2 1 lkX2_add_15 (Nat.le_of_ble_eq_true rfl) rfl rfl (by decide) rfl ?_
    refine z_iload_n dX2_add_20 rfl rfl ?_
    refine z_iastN (j := psz) dX2_add_21 rfl (Nat.le_of_ble_eq_true rfl) rfl (rfl) (by omega) (by decide) ?_
    refine z_n (L' := [(41, (oPln G fld (nI psz))), (43, (zI G 183 (upd n0 psz x))), (44, (zI G 183 n1)), (45, (zI G 183 n2))]) rfl ?_
    refine z_aload_n dX2_add_22 rfl rfl ?_
    refine z_get dX2_add_23 rfl hiX2_add_X2 2 lkX2_add_20 (Nat.le_of_ble_eq_true rfl) rfl rfl (by decide) rfl ?_
    refine z_iconst (v := nI 1) dX2_add_26 rfl (by decide) ?_
    refine z_aaldN (j := 1) (a := zB G + 44) dX2_add_27 rfl (Nat.le_of_ble_eq_true rfl) h42 (rfl) (by omega) (by decide) rfl ?_
    refine z_aload_n dX2_add_28 rfl rfl ?_
    refine z_get dX2_add_29 rfl hiX2_add_X2 1 lkX2_add_15 (Nat.le_of_ble_eq_true rfl) rfl rfl (by decide) rfl ?_
    refine z_iload_n dX2_add_32 rfl rfl ?_
    refine z_iastN (j := psz) dX2_add_33 rfl (Nat.le_of_ble_eq_true rfl) rfl (rfl) (by omega) (by decide) ?_
    refine z_n (L' := [(41, (oPln G fld (nI psz))), (43, (zI G 183 (upd n0 psz x))), (44, (zI G 183 (upd n1 psz y))), (45, (zI G 183 n2))]) rfl ?_
    refine z_aload_n dX2_add_34 rfl rfl ?_
    refine z_get dX2_add_35 rfl hiX2_add_X2 2 lkX2_add_20 (Nat.le_of_ble_eq_true rfl) rfl rfl (by decide) rfl ?_
    refine z_iconst (v := nI 2) dX2_add_38 rfl (by decide) ?_
    refine z_aaldN (j := 2) (a := zB G + 45) dX2_add_39 rfl (Nat.le_of_ble_eq_true rfl) h42 (rfl) (by omega) (by decide) rfl ?_
    refine z_aload_n dX2_add_40 rfl rfl ?_
    refine z_get dX2_add_41 rfl hiX2_add_X2 1 lkX2_add_15 (Nat.le_of_ble_eq_true rfl) rfl rfl (by decide) rfl ?_
    refine z_iload_n dX2_add_44 rfl rfl ?_
    refine z_iastN (j := psz) dX2_add_45 rfl (Nat.le_of_ble_eq_true rfl) rfl (rfl) (by omega) (by decide) ?_
    refine z_n (L' := [(41, (oPln G fld (nI psz))), (43, (zI G 183 (upd n0 psz x))), (44, (zI G 183 (upd n1 psz y))), (45, (zI G 183 (upd n2 psz z)))]) rfl ?_
    refine z_aload_n dX2_add_46 rfl rfl ?_
    refine z_dup dX2_add_47 rfl rfl ?_
    refine z_get dX2_add_48 rfl hiX2_add_X2 1 lkX2_add_15 (Nat.le_of_ble_eq_true rfl) rfl rfl (by decide) rfl ?_
    refine z_iconst (v := nI 1) dX2_add_51 rfl (by decide) ?_
    refine z_iadd dX2_add_52 rfl ?_
    refine z_top (show (nI psz) + (nI 1) = nI (psz + 1) from (zq_add rfl rfl)) ?_
    refine z_putN (e9 := (oPln G fld (nI (psz + 1)))) tyX2 tyX2_ok nmX2 dX2_add_53 rfl hiX2_add_X2 1 lkX2_add_15 rfl (by decide +kernel) (Nat.le_of_ble_eq_true rfl) rfl rfl (by decide) (Nat.le_of_ble_eq_true rfl) rfl rfl rfl ?_
    refine z_n (L' := [(41, (oPln G fld (nI (psz + 1)))), (43, (zI G 183 (upd n0 psz x))), (44, (zI G 183 (upd n1 psz y))), (45, (zI G 183 (upd n2 psz z)))]) rfl ?_
    exact z_return dX2_add_56 rfl (Nat.le_refl _) (Nat.le_refl _) (fun _ => rfl) ⟨rfl, rfl⟩
abbrev mX2_quotient : zM := (cX2_quotient, 6, (some .int), RX2, wsX2_quotient, "quotient")
def X2_quotient_L23_F (pr : Nat) (v : Int32) (d : Int32) (r : Nat) (a9 : Unit) : Unit := if (fmod d (nI pr)) = 0 then () else (if (((nI r) * (fmod d (nI pr))) - ((nI r) * (fmod d (nI pr))) / (nI pr) * (nI pr)) = (fmod v (nI pr)) then () else ())
def X2_quotient_L23_B (pr : Nat) (v : Int32) (d : Int32) (r : Nat) (a9 : Unit) : Option (((Int32)) ⊕ (Unit)) := if (fmod d (nI pr)) = 0 then (some (.inr ())) else (if (((nI r) * (fmod d (nI pr))) - ((nI r) * (fmod d (nI pr))) / (nI pr) * (nI pr)) = (fmod v (nI pr)) then (some (.inl (nI r))) else none)
def X2_quotient_v (pr : Nat) (v d : Int32) : Int32 := zpickY (zfoldY (X2_quotient_L23_B pr v d) (X2_quotient_L23_F pr v d) pr 0 ()) (fun b => b) (fun am23 => (-4))
set_option maxRecDepth 100000 in
set_option maxHeartbeats 4000000 in
theorem c_X2_quotient (G : zG) (ex : Bool) (g : Nat → va_E) (pr : Nat) (v d : Int32) (hp1 : 1 ≤ pr) (hp : pr ≤ 13)  : zC G yX2_quotient wsX2_quotient (zrm 1 22) ex [.int (nI pr), .int v, .int d] (zN, g) (fun r h => r = some (.int (X2_quotient_v pr v d)) ∧ h = (zN, g)) := by
  refine zC_of mX2_quotient (lv := [some (.int (nI pr)), some (.int v), some (.int d), none, none, none]) rfl rfl (by decide) (by intro v hv; simp at hv; rcases hv with rfl | rfl | rfl <;> rfl) (Nat.le_of_ble_eq_true rfl) rfl ?_
  refine z_0 ?_
  refine z_iload_n dX2_quotient_0 rfl rfl ?_
  refine z_if_gt (tgt := 7) dX2_quotient_1 rfl (by decide) (fun c1 => ?_) (fun c1 => ?_)
  · have hpr : ¬ nI pr = 0 := nI_ne0 (by omega) (by omega)
    refine z_iload_n dX2_quotient_7 rfl rfl ?_
    refine z_iload_n dX2_quotient_8 rfl rfl ?_
    refine z_callSi (c_floorMod G ex _ v (nI pr) (by assumption)) gX2_quotient_J9_floorMod_7cf53 rfl dX2_quotient_9 rfl rfl okk_J9_floorMod_7cf53 ⟨Nat.le_of_ble_eq_true rfl, Nat.le_of_ble_eq_true rfl⟩ ⟨Nat.le_of_ble_eq_true rfl, Nat.le_of_ble_eq_true rfl⟩ (Nat.le_of_ble_eq_true rfl) ?_
    refine z_istore_3 dX2_quotient_12 rfl ?_
    refine z_iload_n dX2_quotient_13 rfl rfl ?_
    refine z_iload_n dX2_quotient_14 rfl rfl ?_
    refine z_callSi (c_floorMod G ex _ d (nI pr) (by assumption)) gX2_quotient_J9_floorMod_7cf53 rfl dX2_quotient_15 rfl rfl okk_J9_floorMod_7cf53 ⟨Nat.le_of_ble_eq_true rfl, Nat.le_of_ble_eq_true rfl⟩ ⟨Nat.le_of_ble_eq_true rfl, Nat.le_of_ble_eq_true rfl⟩ (Nat.le_of_ble_eq_true rfl) ?_
    refine z_istore_4 dX2_quotient_18 rfl ?_
    refine z_iconst (v := nI 0) dX2_quotient_20 rfl (by decide) ?_
    refine z_istore_5 dX2_quotient_21 rfl ?_
    refine z_forY (head := fun r (st9 : Unit) => Z G mX2_quotient (zrm 1 22) ex _ 23 [some (.int (nI pr)), some (.int v), some (.int d), some (.int (fmod v (nI pr))), some (.int (fmod d (nI pr))), some (.int (nI r))] [] (zN, zus g []) 0 0) (ret := fun b => (some (Value.int b) = some (Value.int (X2_quotient_v pr v d))) ∧ ((zN, zus g []) : zAH) = (zN, g)) (out := fun (st9 : Unit) => ∀ yc : Option Value, Z G mX2_quotient (zrm 1 22) ex (fun r h => r = some (.int (X2_quotient_v pr v d)) ∧ h = (zN, g)) 54 [some (.int (nI pr)), some (.int v), some (.int d), some (.int (fmod v (nI pr))), some (.int (fmod d (nI pr))), yc] [] (zN, zus g []) 0 0) (B := (X2_quotient_L23_B pr v d)) (F := (X2_quotient_L23_F pr v d)) (n := pr) (fun _ _ => True) (fun _ => True) (fun _ _ _ _ _ => trivial) (fun _ _ _ _ _ _ => trivial) (fun _ _ => trivial) ?_ ?_ pr 0 () (by omega) trivial ?_ ?_
    · intro r _ hi _ Ko Kx K
      refine z_iload dX2_quotient_23 rfl rfl ?_
      refine z_iload_n dX2_quotient_25 rfl rfl ?_
      refine z_icmp_ge (tgt := 54) dX2_quotient_26 rfl (by decide) (fun c26 => ?_) (fun c26 => ?_)
      · exact absurd c26 (nI_ge hi (by omega))
      · refine z_iload dX2_quotient_29 rfl rfl ?_
        refine z_if_eq (tgt := 54) dX2_quotient_31 rfl (by decide) (fun c31 => ?_) (fun c31 => ?_)
        · exact Kx () (by simp only [X2_quotient_L23_B, if_pos c31]) _
        · refine z_iload dX2_quotient_34 rfl rfl ?_
          refine z_iload dX2_quotient_36 rfl rfl ?_
          refine z_imul dX2_quotient_38 rfl ?_
          refine z_iload_n dX2_quotient_39 rfl rfl ?_
          refine z_irem dX2_quotient_40 rfl hpr ?_
          refine z_iload_n dX2_quotient_41 rfl rfl ?_
          refine z_icmp_ne (tgt := 48) dX2_quotient_42 rfl (by decide) (fun c42 => ?_) (fun c42 => ?_)
          · refine z_iinc_5 (v := nI (r + 1)) dX2_quotient_48 rfl (zinc _) ?_
            refine z_goto (tgt := 23) dX2_quotient_51 (by decide) ?_
            have K9 := (K (by simp only [X2_quotient_L23_B, if_neg c31, if_neg c42]))
            try simp only [X2_quotient_L23_F, if_neg c31, if_neg c42] at K9
            exact K9
          · refine z_iload dX2_quotient_45 rfl rfl ?_
            exact z_ireturn dX2_quotient_47 rfl rfl (Nat.le_refl _) (Nat.le_refl _) (fun _ => rfl) (Ko (nI r) (by simp only [X2_quotient_L23_B, if_neg c31, if_pos c42]))
    · intro _ _ K
      refine z_iload dX2_quotient_23 rfl rfl ?_
      refine z_iload_n dX2_quotient_25 rfl rfl ?_
      refine z_icmp_ge (tgt := 54) dX2_quotient_26 rfl (by decide) (fun c26 => ?_) (fun c26 => ?_)
      · exact K _
      · exact absurd (nI_le (Nat.le_refl _) (by omega)) c26
    · intro b hz23
      exact ⟨by simp only [X2_quotient_v, hz23, zpickY_l], rfl⟩
    · intro _ hz23 hJ23
      intro yc23
      refine z_bipush (v := (-4)) dX2_quotient_54 rfl (by decide) ?_
      exact z_ireturn dX2_quotient_56 rfl rfl (Nat.le_refl _) (Nat.le_refl _) (fun _ => rfl) ⟨by simp only [X2_quotient_v, hz23, zpickY_r], rfl⟩
  · exact absurd ((by
          rw [show (0 : Int32) = nI 0 from rfl]
          exact nI_lt (by omega) (by omega))) c1
abbrev mX3_numbersOf : zM := (cX3_numbersOf, 4, none, RX3, wsX3_numbersOf, "numbersOf")
theorem hiX3_numbersOf_X3 : ∀ w ∈ wsX30, w ∈ wsX3_numbersOf := fun w h => List.mem_cons_of_mem _ (List.mem_append_left _ (List.mem_append_right _ h))
theorem lkX3_numbersOf_12 : Cond.fieldLink RX3 12 "ConfigSearch$Search" "plane" "LConfigSearch$Plane;" ∈ wsX3_numbersOf := by decide +kernel
theorem hiX3_numbersOf_X2 : ∀ w ∈ wsX20, w ∈ wsX3_numbersOf := fun w h => List.mem_cons_of_mem _ (List.mem_append_right _ h)
theorem lkX3_numbersOf_86 : Cond.fieldLink RX3 86 "ConfigSearch$Plane" "numbers" "[[I" ∈ wsX3_numbersOf := by decide +kernel
theorem lkX3_numbersOf_26 : Cond.fieldLink RX3 26 "ConfigSearch$Search" "places" "[I" ∈ wsX3_numbersOf := by decide +kernel
def X3_numbersOf_c55_55 (n0 n1 n2 plc it : Nat → Int32) (pt : Nat) : Nat → Int32 := upd (upd (upd it 0 (n0 (plc pt).toNatClampNeg)) 1 (n1 (plc pt).toNatClampNeg)) 2 (n2 (plc pt).toNatClampNeg)
set_option maxRecDepth 100000 in
set_option maxHeartbeats 4000000 in
theorem c_X3_numbersOf_55 (G : zG) (ex : Bool) (g : Nat → va_E) (fnd stp : Int32) (fld : Int32) (psz : Nat) (n0 n1 n2 plc it : Nat → Int32) (pt : Nat) (hpt : pt < 10) (hpc : vp_in (plc pt) 183) (h40 : g 40 = (oSch G fnd stp)) (h41 : g 41 = (oPln G fld (nI psz))) (h42 : g 42 = (zR G 3 (zrw G 3 43))) (h43 : g 43 = (zI G 183 n0)) (h44 : g 44 = (zI G 183 n1)) (h45 : g 45 = (zI G 183 n2)) (h46 : g 46 = (zI G 10 plc)) (h55 : g 55 = (zI G 3 it)) : zC G yX3_numbersOf wsX3_numbersOf (zrm 0 0) ex [.ref (zB G + 40), .int (nI pt), .ref (zB G + 55)] (zN, g) (fun r h => r = none ∧ h = (zN, zus g [(55, zI G 3 (X3_numbersOf_c55_55 n0 n1 n2 plc it pt))])) := by
  refine zC_of mX3_numbersOf (lv := [some (.ref (zB G + 40)), some (.int (nI pt)), some (.ref (zB G + 55)), none]) rfl rfl (by decide) (by intro v hv; simp at hv; rcases hv with rfl | rfl | rfl <;> rfl) (Nat.le_of_ble_eq_true rfl) rfl ?_
  refine z_0 ?_
  refine z_heap (g' := zu (zus g []) 55 (zI G 3 it)) (zu_self (zus g []) 55 _ h55).symm ?_
  refine z_n (L' := [(55, (zI G 3 it))]) rfl ?_
  refine z_iconst (v := nI 0) dX3_numbersOf_0 rfl (by decide) ?_
  refine z_istore_3 dX3_numbersOf_1 rfl ?_
  refine z_iload_n dX3_numbersOf_2 rfl rfl ?_
  refine z_iconst (v := nI 3) dX3_numbersOf_3 rfl (by decide) ?_
  refine z_icmp_ge (tgt := 32) dX3_numbersOf_4 rfl (by decide) (fun c4 => ?_) (fun c4 => ?_)
  · exact absurd c4 (by decide)
  · refine z_aload_n dX3_numbersOf_7 rfl rfl ?_
    refine z_iload_n dX3_numbersOf_8 rfl rfl ?_
    refine z_aload_n dX3_numbersOf_9 rfl rfl ?_
    refine z_get dX3_numbersOf_10 rfl hiX3_numbersOf_X3 0 lkX3_numbersOf_12 (Nat.le_of_ble_eq_true rfl) h40 rfl (by decide) rfl ?_
    refine z_get dX3_numbersOf_13 rfl hiX3_numbersOf_X2 2 lkX3_numbersOf_86 (Nat.le_of_ble_eq_true rfl) h41 rfl (by decide) rfl ?_
    refine z_iload_n dX3_numbersOf_16 rfl rfl ?_
    refine z_aaldN (j := 0) (a := zB G + 43) dX3_numbersOf_17 rfl (Nat.le_of_ble_eq_true rfl) h42 (rfl) (by omega) (by decide) rfl ?_
    refine z_aload_n dX3_numbersOf_18 rfl rfl ?_
    refine z_get dX3_numbersOf_19 rfl hiX3_numbersOf_X3 4 lkX3_numbersOf_26 (Nat.le_of_ble_eq_true rfl) h40 rfl (by decide) rfl ?_
    refine z_iload_n dX3_numbersOf_22 rfl rfl ?_
    refine z_ialdN (j := pt) dX3_numbersOf_23 rfl (Nat.le_of_ble_eq_true rfl) h46 (rfl) (by omega) (by decide) ?_
    refine z_iald dX3_numbersOf_24 rfl (Nat.le_of_ble_eq_true rfl) h43 hpc ?_
    refine z_iastN (j := 0) dX3_numbersOf_25 rfl (Nat.le_of_ble_eq_true rfl) rfl (rfl) (by omega) (by decide) ?_
    refine z_n (L' := [(55, (zI G 3 (upd it 0 (n0 (plc pt).toNatClampNeg))))]) rfl ?_
    refine z_iinc_3 (v := nI 1) dX3_numbersOf_26 rfl (zinc _) ?_
    refine z_goto (tgt := 2) dX3_numbersOf_29 (by decide) ?_
    refine z_iload_n dX3_numbersOf_2 rfl rfl ?_
    refine z_iconst (v := nI 3) dX3_numbersOf_3 rfl (by decide) ?_
    refine z_icmp_ge (tgt := 32) dX3_numbersOf_4 rfl (by decide) (fun c4_2 => ?_) (fun c4_2 => ?_)
    · exact absurd c4_2 (by decide)
    · refine z_aload_n dX3_numbersOf_7 rfl rfl ?_
      refine z_iload_n dX3_numbersOf_8 rfl rfl ?_
      refine z_aload_n dX3_numbersOf_9 rfl rfl ?_
      refine z_get dX3_numbersOf_10 rfl hiX3_numbersOf_X3 0 lkX3_numbersOf_12 (Nat.le_of_ble_eq_true rfl) h40 rfl (by decide) rfl ?_
      refine z_get dX3_numbersOf_13 rfl hiX3_numbersOf_X2 2 lkX3_numbersOf_86 (Nat.le_of_ble_eq_true rfl) h41 rfl (by decide) rfl ?_
      refine z_iload_n dX3_numbersOf_16 rfl rfl ?_
      refine z_aaldN (j := 1) (a := zB G + 44) dX3_numbersOf_17 rfl (Nat.le_of_ble_eq_true rfl) h42 (rfl) (by omega) (by decide) rfl ?_
      refine z_aload_n dX3_numbersOf_18 rfl rfl ?_
      refine z_get dX3_numbersOf_19 rfl hiX3_numbersOf_X3 4 lkX3_numbersOf_26 (Nat.le_of_ble_eq_true rfl) h40 rfl (by decide) rfl ?_
      refine z_iload_n dX3_numbersOf_22 rfl rfl ?_
      refine z_ialdN (j := pt) dX3_numbersOf_23 rfl (Nat.le_of_ble_eq_true rfl) h46 (rfl) (by omega) (by decide) ?_
      refine z_iald dX3_numbersOf_24 rfl (Nat.le_of_ble_eq_true rfl) h44 hpc ?_
      refine z_iastN (j := 1) dX3_numbersOf_25 rfl (Nat.le_of_ble_eq_true rfl) rfl (rfl) (by omega) (by decide) ?_
      refine z_n (L' := [(55, (zI G 3 (upd (upd it 0 (n0 (plc pt).toNatClampNeg)) 1 (n1 (plc pt).toNatClampNeg))))]) rfl ?_
      refine z_iinc_3 (v := nI 2) dX3_numbersOf_26 rfl (zinc _) ?_
      refine z_goto (tgt := 2) dX3_numbersOf_29 (by decide) ?_
      refine z_iload_n dX3_numbersOf_2 rfl rfl ?_
      refine z_iconst (v := nI 3) dX3_numbersOf_3 rfl (by decide) ?_
      refine z_icmp_ge (tgt := 32) dX3_numbersOf_4 rfl (by decide) (fun c4_3 => ?_) (fun c4_3 => ?_)
      · exact absurd c4_3 (by decide)
      · refine z_aload_n dX3_numbersOf_7 rfl rfl ?_
        refine z_iload_n dX3_numbersOf_8 rfl rfl ?_
        refine z_aload_n dX3_numbersOf_9 rfl rfl ?_
        refine z_get dX3_numbersOf_10 rfl hiX3_numbersOf_X3 0 lkX3_numbersOf_12 (Nat.le_of_ble_eq_true rfl) h40 rfl (by decide) rfl ?_
        refine z_get dX3_numbersOf_13 rfl hiX3_numbersOf_X2 2 lkX3_numbersOf_86 (Nat.le_of_ble_eq_true rfl) h41 rfl (by decide) rfl ?_
        refine z_iload_n dX3_numbersOf_16 rfl rfl ?_
        refine z_aaldN (j := 2) (a := zB G + 45) dX3_numbersOf_17 rfl (Nat.le_of_ble_eq_true rfl) h42 (rfl) (by omega) (by decide) rfl ?_
        refine z_aload_n dX3_numbersOf_18 rfl rfl ?_
        refine z_get dX3_numbersOf_19 rfl hiX3_numbersOf_X3 4 lkX3_numbersOf_26 (Nat.le_of_ble_eq_true rfl) h40 rfl (by decide) rfl ?_
        refine z_iload_n dX3_numbersOf_22 rfl rfl ?_
        refine z_ialdN (j := pt) dX3_numbersOf_23 rfl (Nat.le_of_ble_eq_true rfl) h46 (rfl) (by omega) (by decide) ?_
        refine z_iald dX3_numbersOf_24 rfl (Nat.le_of_ble_eq_true rfl) h45 hpc ?_
        refine z_iastN (j := 2) dX3_numbersOf_25 rfl (Nat.le_of_ble_eq_true rfl) rfl (rfl) (by omega) (by decide) ?_
        refine z_n (L' := [(55, (zI G 3 (upd (upd (upd it 0 (n0 (plc pt).toNatClampNeg)) 1 (n1 (plc pt).toNatClampNeg)) 2 (n2 (plc pt).toNatClampNeg))))]) rfl ?_
        refine z_iinc_3 (v := nI 3) dX3_numbersOf_26 rfl (zinc _) ?_
        refine z_goto (tgt := 2) dX3_numbersOf_29 (by decide) ?_
        refine z_iload_n dX3_numbersOf_2 rfl rfl ?_
        refine z_iconst (v := nI 3) dX3_numbersOf_3 rfl (by decide) ?_
        refine z_icmp_ge (tgt := 32) dX3_numbersOf_4 rfl (by decide) (fun c4_4 => ?_) (fun c4_4 => ?_)
        · exact z_return dX3_numbersOf_32 rfl (Nat.le_refl _) (Nat.le_refl _) (fun _ => rfl) ⟨rfl, by simp only [X3_numbersOf_c55_55]⟩
        · exact absurd (by decide) c4_4
def X3_numbersOf_c56_56 (n0 n1 n2 plc it : Nat → Int32) (pt : Nat) : Nat → Int32 := upd (upd (upd it 0 (n0 (plc pt).toNatClampNeg)) 1 (n1 (plc pt).toNatClampNeg)) 2 (n2 (plc pt).toNatClampNeg)
set_option maxRecDepth 100000 in
set_option maxHeartbeats 4000000 in
theorem c_X3_numbersOf_56 (G : zG) (ex : Bool) (g : Nat → va_E) (fnd stp : Int32) (fld : Int32) (psz : Nat) (n0 n1 n2 plc it : Nat → Int32) (pt : Nat) (hpt : pt < 10) (hpc : vp_in (plc pt) 183) (h40 : g 40 = (oSch G fnd stp)) (h41 : g 41 = (oPln G fld (nI psz))) (h42 : g 42 = (zR G 3 (zrw G 3 43))) (h43 : g 43 = (zI G 183 n0)) (h44 : g 44 = (zI G 183 n1)) (h45 : g 45 = (zI G 183 n2)) (h46 : g 46 = (zI G 10 plc)) (h56 : g 56 = (zI G 3 it)) : zC G yX3_numbersOf wsX3_numbersOf (zrm 0 0) ex [.ref (zB G + 40), .int (nI pt), .ref (zB G + 56)] (zN, g) (fun r h => r = none ∧ h = (zN, zus g [(56, zI G 3 (X3_numbersOf_c56_56 n0 n1 n2 plc it pt))])) := by
  refine zC_of mX3_numbersOf (lv := [some (.ref (zB G + 40)), some (.int (nI pt)), some (.ref (zB G + 56)), none]) rfl rfl (by decide) (by intro v hv; simp at hv; rcases hv with rfl | rfl | rfl <;> rfl) (Nat.le_of_ble_eq_true rfl) rfl ?_
  refine z_0 ?_
  refine z_heap (g' := zu (zus g []) 56 (zI G 3 it)) (zu_self (zus g []) 56 _ h56).symm ?_
  refine z_n (L' := [(56, (zI G 3 it))]) rfl ?_
  refine z_iconst (v := nI 0) dX3_numbersOf_0 rfl (by decide) ?_
  refine z_istore_3 dX3_numbersOf_1 rfl ?_
  refine z_iload_n dX3_numbersOf_2 rfl rfl ?_
  refine z_iconst (v := nI 3) dX3_numbersOf_3 rfl (by decide) ?_
  refine z_icmp_ge (tgt := 32) dX3_numbersOf_4 rfl (by decide) (fun c4 => ?_) (fun c4 => ?_)
  · exact absurd c4 (by decide)
  · refine z_aload_n dX3_numbersOf_7 rfl rfl ?_
    refine z_iload_n dX3_numbersOf_8 rfl rfl ?_
    refine z_aload_n dX3_numbersOf_9 rfl rfl ?_
    refine z_get dX3_numbersOf_10 rfl hiX3_numbersOf_X3 0 lkX3_numbersOf_12 (Nat.le_of_ble_eq_true rfl) h40 rfl (by decide) rfl ?_
    refine z_get dX3_numbersOf_13 rfl hiX3_numbersOf_X2 2 lkX3_numbersOf_86 (Nat.le_of_ble_eq_true rfl) h41 rfl (by decide) rfl ?_
    refine z_iload_n dX3_numbersOf_16 rfl rfl ?_
    refine z_aaldN (j := 0) (a := zB G + 43) dX3_numbersOf_17 rfl (Nat.le_of_ble_eq_true rfl) h42 (rfl) (by omega) (by decide) rfl ?_
    refine z_aload_n dX3_numbersOf_18 rfl rfl ?_
    refine z_get dX3_numbersOf_19 rfl hiX3_numbersOf_X3 4 lkX3_numbersOf_26 (Nat.le_of_ble_eq_true rfl) h40 rfl (by decide) rfl ?_
    refine z_iload_n dX3_numbersOf_22 rfl rfl ?_
    refine z_ialdN (j := pt) dX3_numbersOf_23 rfl (Nat.le_of_ble_eq_true rfl) h46 (rfl) (by omega) (by decide) ?_
    refine z_iald dX3_numbersOf_24 rfl (Nat.le_of_ble_eq_true rfl) h43 hpc ?_
    refine z_iastN (j := 0) dX3_numbersOf_25 rfl (Nat.le_of_ble_eq_true rfl) rfl (rfl) (by omega) (by decide) ?_
    refine z_n (L' := [(56, (zI G 3 (upd it 0 (n0 (plc pt).toNatClampNeg))))]) rfl ?_
    refine z_iinc_3 (v := nI 1) dX3_numbersOf_26 rfl (zinc _) ?_
    refine z_goto (tgt := 2) dX3_numbersOf_29 (by decide) ?_
    refine z_iload_n dX3_numbersOf_2 rfl rfl ?_
    refine z_iconst (v := nI 3) dX3_numbersOf_3 rfl (by decide) ?_
    refine z_icmp_ge (tgt := 32) dX3_numbersOf_4 rfl (by decide) (fun c4_2 => ?_) (fun c4_2 => ?_)
    · exact absurd c4_2 (by decide)
    · refine z_aload_n dX3_numbersOf_7 rfl rfl ?_
      refine z_iload_n dX3_numbersOf_8 rfl rfl ?_
      refine z_aload_n dX3_numbersOf_9 rfl rfl ?_
      refine z_get dX3_numbersOf_10 rfl hiX3_numbersOf_X3 0 lkX3_numbersOf_12 (Nat.le_of_ble_eq_true rfl) h40 rfl (by decide) rfl ?_
      refine z_get dX3_numbersOf_13 rfl hiX3_numbersOf_X2 2 lkX3_numbersOf_86 (Nat.le_of_ble_eq_true rfl) h41 rfl (by decide) rfl ?_
      refine z_iload_n dX3_numbersOf_16 rfl rfl ?_
      refine z_aaldN (j := 1) (a := zB G + 44) dX3_numbersOf_17 rfl (Nat.le_of_ble_eq_true rfl) h42 (rfl) (by omega) (by decide) rfl ?_
      refine z_aload_n dX3_numbersOf_18 rfl rfl ?_
      refine z_get dX3_numbersOf_19 rfl hiX3_numbersOf_X3 4 lkX3_numbersOf_26 (Nat.le_of_ble_eq_true rfl) h40 rfl (by decide) rfl ?_
      refine z_iload_n dX3_numbersOf_22 rfl rfl ?_
      refine z_ialdN (j := pt) dX3_numbersOf_23 rfl (Nat.le_of_ble_eq_true rfl) h46 (rfl) (by omega) (by decide) ?_
      refine z_iald dX3_numbersOf_24 rfl (Nat.le_of_ble_eq_true rfl) h44 hpc ?_
      refine z_iastN (j := 1) dX3_numbersOf_25 rfl (Nat.le_of_ble_eq_true rfl) rfl (rfl) (by omega) (by decide) ?_
      refine z_n (L' := [(56, (zI G 3 (upd (upd it 0 (n0 (plc pt).toNatClampNeg)) 1 (n1 (plc pt).toNatClampNeg))))]) rfl ?_
      refine z_iinc_3 (v := nI 2) dX3_numbersOf_26 rfl (zinc _) ?_
      refine z_goto (tgt := 2) dX3_numbersOf_29 (by decide) ?_
      refine z_iload_n dX3_numbersOf_2 rfl rfl ?_
      refine z_iconst (v := nI 3) dX3_numbersOf_3 rfl (by decide) ?_
      refine z_icmp_ge (tgt := 32) dX3_numbersOf_4 rfl (by decide) (fun c4_3 => ?_) (fun c4_3 => ?_)
      · exact absurd c4_3 (by decide)
      · refine z_aload_n dX3_numbersOf_7 rfl rfl ?_
        refine z_iload_n dX3_numbersOf_8 rfl rfl ?_
        refine z_aload_n dX3_numbersOf_9 rfl rfl ?_
        refine z_get dX3_numbersOf_10 rfl hiX3_numbersOf_X3 0 lkX3_numbersOf_12 (Nat.le_of_ble_eq_true rfl) h40 rfl (by decide) rfl ?_
        refine z_get dX3_numbersOf_13 rfl hiX3_numbersOf_X2 2 lkX3_numbersOf_86 (Nat.le_of_ble_eq_true rfl) h41 rfl (by decide) rfl ?_
        refine z_iload_n dX3_numbersOf_16 rfl rfl ?_
        refine z_aaldN (j := 2) (a := zB G + 45) dX3_numbersOf_17 rfl (Nat.le_of_ble_eq_true rfl) h42 (rfl) (by omega) (by decide) rfl ?_
        refine z_aload_n dX3_numbersOf_18 rfl rfl ?_
        refine z_get dX3_numbersOf_19 rfl hiX3_numbersOf_X3 4 lkX3_numbersOf_26 (Nat.le_of_ble_eq_true rfl) h40 rfl (by decide) rfl ?_
        refine z_iload_n dX3_numbersOf_22 rfl rfl ?_
        refine z_ialdN (j := pt) dX3_numbersOf_23 rfl (Nat.le_of_ble_eq_true rfl) h46 (rfl) (by omega) (by decide) ?_
        refine z_iald dX3_numbersOf_24 rfl (Nat.le_of_ble_eq_true rfl) h45 hpc ?_
        refine z_iastN (j := 2) dX3_numbersOf_25 rfl (Nat.le_of_ble_eq_true rfl) rfl (rfl) (by omega) (by decide) ?_
        refine z_n (L' := [(56, (zI G 3 (upd (upd (upd it 0 (n0 (plc pt).toNatClampNeg)) 1 (n1 (plc pt).toNatClampNeg)) 2 (n2 (plc pt).toNatClampNeg))))]) rfl ?_
        refine z_iinc_3 (v := nI 3) dX3_numbersOf_26 rfl (zinc _) ?_
        refine z_goto (tgt := 2) dX3_numbersOf_29 (by decide) ?_
        refine z_iload_n dX3_numbersOf_2 rfl rfl ?_
        refine z_iconst (v := nI 3) dX3_numbersOf_3 rfl (by decide) ?_
        refine z_icmp_ge (tgt := 32) dX3_numbersOf_4 rfl (by decide) (fun c4_4 => ?_) (fun c4_4 => ?_)
        · exact z_return dX3_numbersOf_32 rfl (Nat.le_refl _) (Nat.le_refl _) (fun _ => rfl) ⟨rfl, by simp only [X3_numbersOf_c56_56]⟩
        · exact absurd (by decide) c4_4
abbrev mX3_cross : zM := (cX3_cross, 4, none, RX3, wsX3_cross, "cross")
theorem hiX3_cross_X3 : ∀ w ∈ wsX30, w ∈ wsX3_cross := fun w h => List.mem_cons_of_mem _ (List.mem_append_left _ (List.mem_append_right _ h))
theorem lkX3_cross_12 : Cond.fieldLink RX3 12 "ConfigSearch$Search" "plane" "LConfigSearch$Plane;" ∈ wsX3_cross := by decide +kernel
theorem okk_X2_rest : zOk yX2_rest 1 := by unfold zOk; decide +kernel
def X3_cross_c57_57 (fld : Int32) (uu vv ww : Nat → Int32) : Nat → Int32 := upd (upd (upd ww 0 (X2_rest_v fld (((uu 1) * (vv 2)) - ((uu 2) * (vv 1))))) 1 (X2_rest_v fld (((uu 2) * (vv 0)) - ((uu 0) * (vv 2))))) 2 (X2_rest_v fld (((uu 0) * (vv 1)) - ((uu 1) * (vv 0))))
set_option maxRecDepth 100000 in
set_option maxHeartbeats 4000000 in
theorem c_X3_cross_57 (G : zG) (ex : Bool) (g : Nat → va_E) (fnd stp : Int32) (fld : Int32) (psz : Nat) (uu vv ww : Nat → Int32)  (h40 : g 40 = (oSch G fnd stp)) (h41 : g 41 = (oPln G fld (nI psz))) (h55 : g 55 = (zI G 3 uu)) (h56 : g 56 = (zI G 3 vv)) (h57 : g 57 = (zI G 3 ww)) : zC G yX3_cross wsX3_cross (zrm 2 43) ex [.ref (zB G + 40), .ref (zB G + 55), .ref (zB G + 56), .ref (zB G + 57)] (zN, g) (fun r h => r = none ∧ h = (zN, zus g [(57, zI G 3 (X3_cross_c57_57 fld uu vv ww))])) := by
  refine zC_of mX3_cross (lv := [some (.ref (zB G + 40)), some (.ref (zB G + 55)), some (.ref (zB G + 56)), some (.ref (zB G + 57))]) rfl rfl (by decide) (by intro v hv; simp at hv; rcases hv with rfl | rfl | rfl | rfl <;> rfl) (Nat.le_of_ble_eq_true rfl) rfl ?_
  refine z_0 ?_
  refine z_heap (g' := zu (zus g []) 57 (zI G 3 ww)) (zu_self (zus g []) 57 _ h57).symm ?_
  refine z_n (L' := [(57, (zI G 3 ww))]) rfl ?_
  refine z_aload_n dX3_cross_0 rfl rfl ?_
  refine z_iconst (v := nI 0) dX3_cross_1 rfl (by decide) ?_
  refine z_aload_n dX3_cross_2 rfl rfl ?_
  refine z_get dX3_cross_3 rfl hiX3_cross_X3 0 lkX3_cross_12 (Nat.le_of_ble_eq_true rfl) h40 rfl (by decide) rfl ?_
  refine z_aload_n dX3_cross_6 rfl rfl ?_
  refine z_iconst (v := nI 1) dX3_cross_7 rfl (by decide) ?_
  refine z_ialdN (j := 1) dX3_cross_8 rfl (Nat.le_of_ble_eq_true rfl) h55 (rfl) (by omega) (by decide) ?_
  refine z_aload_n dX3_cross_9 rfl rfl ?_
  refine z_iconst (v := nI 2) dX3_cross_10 rfl (by decide) ?_
  refine z_ialdN (j := 2) dX3_cross_11 rfl (Nat.le_of_ble_eq_true rfl) h56 (rfl) (by omega) (by decide) ?_
  refine z_imul dX3_cross_12 rfl ?_
  refine z_aload_n dX3_cross_13 rfl rfl ?_
  refine z_iconst (v := nI 2) dX3_cross_14 rfl (by decide) ?_
  refine z_ialdN (j := 2) dX3_cross_15 rfl (Nat.le_of_ble_eq_true rfl) h55 (rfl) (by omega) (by decide) ?_
  refine z_aload_n dX3_cross_16 rfl rfl ?_
  refine z_iconst (v := nI 1) dX3_cross_17 rfl (by decide) ?_
  refine z_ialdN (j := 1) dX3_cross_18 rfl (Nat.le_of_ble_eq_true rfl) h56 (rfl) (by omega) (by decide) ?_
  refine z_imul dX3_cross_19 rfl ?_
  refine z_isub dX3_cross_20 rfl ?_
  refine z_callVi (c_X2_rest G ex _ fld psz (((uu 1) * (vv 2)) - ((uu 2) * (vv 1))) h41) gX3_cross_X2_rest rfl dX3_cross_21 rfl rfl rfl okk_X2_rest (Nat.le_of_ble_eq_true rfl) h41 rfl ⟨Nat.le_of_ble_eq_true rfl, Nat.le_of_ble_eq_true rfl⟩ ⟨Nat.le_of_ble_eq_true rfl, Nat.le_of_ble_eq_true rfl⟩ (Nat.le_of_ble_eq_true rfl) ?_
  refine z_iastN (j := 0) dX3_cross_24 rfl (Nat.le_of_ble_eq_true rfl) rfl (rfl) (by omega) (by decide) ?_
  refine z_n (L' := [(57, (zI G 3 (upd ww 0 (X2_rest_v fld (((uu 1) * (vv 2)) - ((uu 2) * (vv 1)))))))]) rfl ?_
  refine z_aload_n dX3_cross_25 rfl rfl ?_
  refine z_iconst (v := nI 1) dX3_cross_26 rfl (by decide) ?_
  refine z_aload_n dX3_cross_27 rfl rfl ?_
  refine z_get dX3_cross_28 rfl hiX3_cross_X3 0 lkX3_cross_12 (Nat.le_of_ble_eq_true rfl) h40 rfl (by decide) rfl ?_
  refine z_aload_n dX3_cross_31 rfl rfl ?_
  refine z_iconst (v := nI 2) dX3_cross_32 rfl (by decide) ?_
  refine z_ialdN (j := 2) dX3_cross_33 rfl (Nat.le_of_ble_eq_true rfl) h55 (rfl) (by omega) (by decide) ?_
  refine z_aload_n dX3_cross_34 rfl rfl ?_
  refine z_iconst (v := nI 0) dX3_cross_35 rfl (by decide) ?_
  refine z_ialdN (j := 0) dX3_cross_36 rfl (Nat.le_of_ble_eq_true rfl) h56 (rfl) (by omega) (by decide) ?_
  refine z_imul dX3_cross_37 rfl ?_
  refine z_aload_n dX3_cross_38 rfl rfl ?_
  refine z_iconst (v := nI 0) dX3_cross_39 rfl (by decide) ?_
  refine z_ialdN (j := 0) dX3_cross_40 rfl (Nat.le_of_ble_eq_true rfl) h55 (rfl) (by omega) (by decide) ?_
  refine z_aload_n dX3_cross_41 rfl rfl ?_
  refine z_iconst (v := nI 2) dX3_cross_42 rfl (by decide) ?_
  refine z_ialdN (j := 2) dX3_cross_43 rfl (Nat.le_of_ble_eq_true rfl) h56 (rfl) (by omega) (by decide) ?_
  refine z_imul dX3_cross_44 rfl ?_
  refine z_isub dX3_cross_45 rfl ?_
  refine z_callVi (c_X2_rest G ex _ fld psz (((uu 2) * (vv 0)) - ((uu 0) * (vv 2))) h41) gX3_cross_X2_rest rfl dX3_cross_46 rfl rfl rfl okk_X2_rest (Nat.le_of_ble_eq_true rfl) h41 rfl ⟨Nat.le_of_ble_eq_true rfl, Nat.le_of_ble_eq_true rfl⟩ ⟨Nat.le_of_ble_eq_true rfl, Nat.le_of_ble_eq_true rfl⟩ (Nat.le_of_ble_eq_true rfl) ?_
  refine z_iastN (j := 1) dX3_cross_49 rfl (Nat.le_of_ble_eq_true rfl) rfl (rfl) (by omega) (by decide) ?_
  refine z_n (L' := [(57, (zI G 3 (upd (upd ww 0 (X2_rest_v fld (((uu 1) * (vv 2)) - ((uu 2) * (vv 1))))) 1 (X2_rest_v fld (((uu 2) * (vv 0)) - ((uu 0) * (vv 2)))))))]) rfl ?_
  refine z_aload_n dX3_cross_50 rfl rfl ?_
  refine z_iconst (v := nI 2) dX3_cross_51 rfl (by decide) ?_
  refine z_aload_n dX3_cross_52 rfl rfl ?_
  refine z_get dX3_cross_53 rfl hiX3_cross_X3 0 lkX3_cross_12 (Nat.le_of_ble_eq_true rfl) h40 rfl (by decide) rfl ?_
  refine z_aload_n dX3_cross_56 rfl rfl ?_
  refine z_iconst (v := nI 0) dX3_cross_57 rfl (by decide) ?_
  refine z_ialdN (j := 0) dX3_cross_58 rfl (Nat.le_of_ble_eq_true rfl) h55 (rfl) (by omega) (by decide) ?_
  refine z_aload_n dX3_cross_59 rfl rfl ?_
  refine z_iconst (v := nI 1) dX3_cross_60 rfl (by decide) ?_
  refine z_ialdN (j := 1) dX3_cross_61 rfl (Nat.le_of_ble_eq_true rfl) h56 (rfl) (by omega) (by decide) ?_
  refine z_imul dX3_cross_62 rfl ?_
  refine z_aload_n dX3_cross_63 rfl rfl ?_
  refine z_iconst (v := nI 1) dX3_cross_64 rfl (by decide) ?_
  refine z_ialdN (j := 1) dX3_cross_65 rfl (Nat.le_of_ble_eq_true rfl) h55 (rfl) (by omega) (by decide) ?_
  refine z_aload_n dX3_cross_66 rfl rfl ?_
  refine z_iconst (v := nI 0) dX3_cross_67 rfl (by decide) ?_
  refine z_ialdN (j := 0) dX3_cross_68 rfl (Nat.le_of_ble_eq_true rfl) h56 (rfl) (by omega) (by decide) ?_
  refine z_imul dX3_cross_69 rfl ?_
  refine z_isub dX3_cross_70 rfl ?_
  refine z_callVi (c_X2_rest G ex _ fld psz (((uu 0) * (vv 1)) - ((uu 1) * (vv 0))) h41) gX3_cross_X2_rest rfl dX3_cross_71 rfl rfl rfl okk_X2_rest (Nat.le_of_ble_eq_true rfl) h41 rfl ⟨Nat.le_of_ble_eq_true rfl, Nat.le_of_ble_eq_true rfl⟩ ⟨Nat.le_of_ble_eq_true rfl, Nat.le_of_ble_eq_true rfl⟩ (Nat.le_of_ble_eq_true rfl) ?_
  refine z_iastN (j := 2) dX3_cross_74 rfl (Nat.le_of_ble_eq_true rfl) rfl (rfl) (by omega) (by decide) ?_
  refine z_n (L' := [(57, (zI G 3 (upd (upd (upd ww 0 (X2_rest_v fld (((uu 1) * (vv 2)) - ((uu 2) * (vv 1))))) 1 (X2_rest_v fld (((uu 2) * (vv 0)) - ((uu 0) * (vv 2))))) 2 (X2_rest_v fld (((uu 0) * (vv 1)) - ((uu 1) * (vv 0)))))))]) rfl ?_
  exact z_return dX3_cross_75 rfl (Nat.le_refl _) (Nat.le_refl _) (fun _ => rfl) ⟨rfl, by simp only [X3_cross_c57_57]⟩
def X3_cross_c58_58 (fld : Int32) (uu vv ww : Nat → Int32) : Nat → Int32 := upd (upd (upd ww 0 (X2_rest_v fld (((uu 1) * (vv 2)) - ((uu 2) * (vv 1))))) 1 (X2_rest_v fld (((uu 2) * (vv 0)) - ((uu 0) * (vv 2))))) 2 (X2_rest_v fld (((uu 0) * (vv 1)) - ((uu 1) * (vv 0))))
set_option maxRecDepth 100000 in
set_option maxHeartbeats 4000000 in
theorem c_X3_cross_58 (G : zG) (ex : Bool) (g : Nat → va_E) (fnd stp : Int32) (fld : Int32) (psz : Nat) (uu vv ww : Nat → Int32)  (h40 : g 40 = (oSch G fnd stp)) (h41 : g 41 = (oPln G fld (nI psz))) (h55 : g 55 = (zI G 3 uu)) (h56 : g 56 = (zI G 3 vv)) (h58 : g 58 = (zI G 3 ww)) : zC G yX3_cross wsX3_cross (zrm 2 43) ex [.ref (zB G + 40), .ref (zB G + 55), .ref (zB G + 56), .ref (zB G + 58)] (zN, g) (fun r h => r = none ∧ h = (zN, zus g [(58, zI G 3 (X3_cross_c58_58 fld uu vv ww))])) := by
  refine zC_of mX3_cross (lv := [some (.ref (zB G + 40)), some (.ref (zB G + 55)), some (.ref (zB G + 56)), some (.ref (zB G + 58))]) rfl rfl (by decide) (by intro v hv; simp at hv; rcases hv with rfl | rfl | rfl | rfl <;> rfl) (Nat.le_of_ble_eq_true rfl) rfl ?_
  refine z_0 ?_
  refine z_heap (g' := zu (zus g []) 58 (zI G 3 ww)) (zu_self (zus g []) 58 _ h58).symm ?_
  refine z_n (L' := [(58, (zI G 3 ww))]) rfl ?_
  refine z_aload_n dX3_cross_0 rfl rfl ?_
  refine z_iconst (v := nI 0) dX3_cross_1 rfl (by decide) ?_
  refine z_aload_n dX3_cross_2 rfl rfl ?_
  refine z_get dX3_cross_3 rfl hiX3_cross_X3 0 lkX3_cross_12 (Nat.le_of_ble_eq_true rfl) h40 rfl (by decide) rfl ?_
  refine z_aload_n dX3_cross_6 rfl rfl ?_
  refine z_iconst (v := nI 1) dX3_cross_7 rfl (by decide) ?_
  refine z_ialdN (j := 1) dX3_cross_8 rfl (Nat.le_of_ble_eq_true rfl) h55 (rfl) (by omega) (by decide) ?_
  refine z_aload_n dX3_cross_9 rfl rfl ?_
  refine z_iconst (v := nI 2) dX3_cross_10 rfl (by decide) ?_
  refine z_ialdN (j := 2) dX3_cross_11 rfl (Nat.le_of_ble_eq_true rfl) h56 (rfl) (by omega) (by decide) ?_
  refine z_imul dX3_cross_12 rfl ?_
  refine z_aload_n dX3_cross_13 rfl rfl ?_
  refine z_iconst (v := nI 2) dX3_cross_14 rfl (by decide) ?_
  refine z_ialdN (j := 2) dX3_cross_15 rfl (Nat.le_of_ble_eq_true rfl) h55 (rfl) (by omega) (by decide) ?_
  refine z_aload_n dX3_cross_16 rfl rfl ?_
  refine z_iconst (v := nI 1) dX3_cross_17 rfl (by decide) ?_
  refine z_ialdN (j := 1) dX3_cross_18 rfl (Nat.le_of_ble_eq_true rfl) h56 (rfl) (by omega) (by decide) ?_
  refine z_imul dX3_cross_19 rfl ?_
  refine z_isub dX3_cross_20 rfl ?_
  refine z_callVi (c_X2_rest G ex _ fld psz (((uu 1) * (vv 2)) - ((uu 2) * (vv 1))) h41) gX3_cross_X2_rest rfl dX3_cross_21 rfl rfl rfl okk_X2_rest (Nat.le_of_ble_eq_true rfl) h41 rfl ⟨Nat.le_of_ble_eq_true rfl, Nat.le_of_ble_eq_true rfl⟩ ⟨Nat.le_of_ble_eq_true rfl, Nat.le_of_ble_eq_true rfl⟩ (Nat.le_of_ble_eq_true rfl) ?_
  refine z_iastN (j := 0) dX3_cross_24 rfl (Nat.le_of_ble_eq_true rfl) rfl (rfl) (by omega) (by decide) ?_
  refine z_n (L' := [(58, (zI G 3 (upd ww 0 (X2_rest_v fld (((uu 1) * (vv 2)) - ((uu 2) * (vv 1)))))))]) rfl ?_
  refine z_aload_n dX3_cross_25 rfl rfl ?_
  refine z_iconst (v := nI 1) dX3_cross_26 rfl (by decide) ?_
  refine z_aload_n dX3_cross_27 rfl rfl ?_
  refine z_get dX3_cross_28 rfl hiX3_cross_X3 0 lkX3_cross_12 (Nat.le_of_ble_eq_true rfl) h40 rfl (by decide) rfl ?_
  refine z_aload_n dX3_cross_31 rfl rfl ?_
  refine z_iconst (v := nI 2) dX3_cross_32 rfl (by decide) ?_
  refine z_ialdN (j := 2) dX3_cross_33 rfl (Nat.le_of_ble_eq_true rfl) h55 (rfl) (by omega) (by decide) ?_
  refine z_aload_n dX3_cross_34 rfl rfl ?_
  refine z_iconst (v := nI 0) dX3_cross_35 rfl (by decide) ?_
  refine z_ialdN (j := 0) dX3_cross_36 rfl (Nat.le_of_ble_eq_true rfl) h56 (rfl) (by omega) (by decide) ?_
  refine z_imul dX3_cross_37 rfl ?_
  refine z_aload_n dX3_cross_38 rfl rfl ?_
  refine z_iconst (v := nI 0) dX3_cross_39 rfl (by decide) ?_
  refine z_ialdN (j := 0) dX3_cross_40 rfl (Nat.le_of_ble_eq_true rfl) h55 (rfl) (by omega) (by decide) ?_
  refine z_aload_n dX3_cross_41 rfl rfl ?_
  refine z_iconst (v := nI 2) dX3_cross_42 rfl (by decide) ?_
  refine z_ialdN (j := 2) dX3_cross_43 rfl (Nat.le_of_ble_eq_true rfl) h56 (rfl) (by omega) (by decide) ?_
  refine z_imul dX3_cross_44 rfl ?_
  refine z_isub dX3_cross_45 rfl ?_
  refine z_callVi (c_X2_rest G ex _ fld psz (((uu 2) * (vv 0)) - ((uu 0) * (vv 2))) h41) gX3_cross_X2_rest rfl dX3_cross_46 rfl rfl rfl okk_X2_rest (Nat.le_of_ble_eq_true rfl) h41 rfl ⟨Nat.le_of_ble_eq_true rfl, Nat.le_of_ble_eq_true rfl⟩ ⟨Nat.le_of_ble_eq_true rfl, Nat.le_of_ble_eq_true rfl⟩ (Nat.le_of_ble_eq_true rfl) ?_
  refine z_iastN (j := 1) dX3_cross_49 rfl (Nat.le_of_ble_eq_true rfl) rfl (rfl) (by omega) (by decide) ?_
  refine z_n (L' := [(58, (zI G 3 (upd (upd ww 0 (X2_rest_v fld (((uu 1) * (vv 2)) - ((uu 2) * (vv 1))))) 1 (X2_rest_v fld (((uu 2) * (vv 0)) - ((uu 0) * (vv 2)))))))]) rfl ?_
  refine z_aload_n dX3_cross_50 rfl rfl ?_
  refine z_iconst (v := nI 2) dX3_cross_51 rfl (by decide) ?_
  refine z_aload_n dX3_cross_52 rfl rfl ?_
  refine z_get dX3_cross_53 rfl hiX3_cross_X3 0 lkX3_cross_12 (Nat.le_of_ble_eq_true rfl) h40 rfl (by decide) rfl ?_
  refine z_aload_n dX3_cross_56 rfl rfl ?_
  refine z_iconst (v := nI 0) dX3_cross_57 rfl (by decide) ?_
  refine z_ialdN (j := 0) dX3_cross_58 rfl (Nat.le_of_ble_eq_true rfl) h55 (rfl) (by omega) (by decide) ?_
  refine z_aload_n dX3_cross_59 rfl rfl ?_
  refine z_iconst (v := nI 1) dX3_cross_60 rfl (by decide) ?_
  refine z_ialdN (j := 1) dX3_cross_61 rfl (Nat.le_of_ble_eq_true rfl) h56 (rfl) (by omega) (by decide) ?_
  refine z_imul dX3_cross_62 rfl ?_
  refine z_aload_n dX3_cross_63 rfl rfl ?_
  refine z_iconst (v := nI 1) dX3_cross_64 rfl (by decide) ?_
  refine z_ialdN (j := 1) dX3_cross_65 rfl (Nat.le_of_ble_eq_true rfl) h55 (rfl) (by omega) (by decide) ?_
  refine z_aload_n dX3_cross_66 rfl rfl ?_
  refine z_iconst (v := nI 0) dX3_cross_67 rfl (by decide) ?_
  refine z_ialdN (j := 0) dX3_cross_68 rfl (Nat.le_of_ble_eq_true rfl) h56 (rfl) (by omega) (by decide) ?_
  refine z_imul dX3_cross_69 rfl ?_
  refine z_isub dX3_cross_70 rfl ?_
  refine z_callVi (c_X2_rest G ex _ fld psz (((uu 0) * (vv 1)) - ((uu 1) * (vv 0))) h41) gX3_cross_X2_rest rfl dX3_cross_71 rfl rfl rfl okk_X2_rest (Nat.le_of_ble_eq_true rfl) h41 rfl ⟨Nat.le_of_ble_eq_true rfl, Nat.le_of_ble_eq_true rfl⟩ ⟨Nat.le_of_ble_eq_true rfl, Nat.le_of_ble_eq_true rfl⟩ (Nat.le_of_ble_eq_true rfl) ?_
  refine z_iastN (j := 2) dX3_cross_74 rfl (Nat.le_of_ble_eq_true rfl) rfl (rfl) (by omega) (by decide) ?_
  refine z_n (L' := [(58, (zI G 3 (upd (upd (upd ww 0 (X2_rest_v fld (((uu 1) * (vv 2)) - ((uu 2) * (vv 1))))) 1 (X2_rest_v fld (((uu 2) * (vv 0)) - ((uu 0) * (vv 2))))) 2 (X2_rest_v fld (((uu 0) * (vv 1)) - ((uu 1) * (vv 0)))))))]) rfl ?_
  exact z_return dX3_cross_75 rfl (Nat.le_refl _) (Nat.le_refl _) (fun _ => rfl) ⟨rfl, by simp only [X3_cross_c58_58]⟩
def X3_cross_c55_55 (fld : Int32) (uu vv ww : Nat → Int32) : Nat → Int32 := upd (upd (upd ww 0 (X2_rest_v fld (((uu 1) * (vv 2)) - ((uu 2) * (vv 1))))) 1 (X2_rest_v fld (((uu 2) * (vv 0)) - ((uu 0) * (vv 2))))) 2 (X2_rest_v fld (((uu 0) * (vv 1)) - ((uu 1) * (vv 0))))
set_option maxRecDepth 100000 in
set_option maxHeartbeats 4000000 in
theorem c_X3_cross_55 (G : zG) (ex : Bool) (g : Nat → va_E) (fnd stp : Int32) (fld : Int32) (psz : Nat) (uu vv ww : Nat → Int32)  (h40 : g 40 = (oSch G fnd stp)) (h41 : g 41 = (oPln G fld (nI psz))) (h57 : g 57 = (zI G 3 uu)) (h58 : g 58 = (zI G 3 vv)) (h55 : g 55 = (zI G 3 ww)) : zC G yX3_cross wsX3_cross (zrm 2 43) ex [.ref (zB G + 40), .ref (zB G + 57), .ref (zB G + 58), .ref (zB G + 55)] (zN, g) (fun r h => r = none ∧ h = (zN, zus g [(55, zI G 3 (X3_cross_c55_55 fld uu vv ww))])) := by
  refine zC_of mX3_cross (lv := [some (.ref (zB G + 40)), some (.ref (zB G + 57)), some (.ref (zB G + 58)), some (.ref (zB G + 55))]) rfl rfl (by decide) (by intro v hv; simp at hv; rcases hv with rfl | rfl | rfl | rfl <;> rfl) (Nat.le_of_ble_eq_true rfl) rfl ?_
  refine z_0 ?_
  refine z_heap (g' := zu (zus g []) 55 (zI G 3 ww)) (zu_self (zus g []) 55 _ h55).symm ?_
  refine z_n (L' := [(55, (zI G 3 ww))]) rfl ?_
  refine z_aload_n dX3_cross_0 rfl rfl ?_
  refine z_iconst (v := nI 0) dX3_cross_1 rfl (by decide) ?_
  refine z_aload_n dX3_cross_2 rfl rfl ?_
  refine z_get dX3_cross_3 rfl hiX3_cross_X3 0 lkX3_cross_12 (Nat.le_of_ble_eq_true rfl) h40 rfl (by decide) rfl ?_
  refine z_aload_n dX3_cross_6 rfl rfl ?_
  refine z_iconst (v := nI 1) dX3_cross_7 rfl (by decide) ?_
  refine z_ialdN (j := 1) dX3_cross_8 rfl (Nat.le_of_ble_eq_true rfl) h57 (rfl) (by omega) (by decide) ?_
  refine z_aload_n dX3_cross_9 rfl rfl ?_
  refine z_iconst (v := nI 2) dX3_cross_10 rfl (by decide) ?_
  refine z_ialdN (j := 2) dX3_cross_11 rfl (Nat.le_of_ble_eq_true rfl) h58 (rfl) (by omega) (by decide) ?_
  refine z_imul dX3_cross_12 rfl ?_
  refine z_aload_n dX3_cross_13 rfl rfl ?_
  refine z_iconst (v := nI 2) dX3_cross_14 rfl (by decide) ?_
  refine z_ialdN (j := 2) dX3_cross_15 rfl (Nat.le_of_ble_eq_true rfl) h57 (rfl) (by omega) (by decide) ?_
  refine z_aload_n dX3_cross_16 rfl rfl ?_
  refine z_iconst (v := nI 1) dX3_cross_17 rfl (by decide) ?_
  refine z_ialdN (j := 1) dX3_cross_18 rfl (Nat.le_of_ble_eq_true rfl) h58 (rfl) (by omega) (by decide) ?_
  refine z_imul dX3_cross_19 rfl ?_
  refine z_isub dX3_cross_20 rfl ?_
  refine z_callVi (c_X2_rest G ex _ fld psz (((uu 1) * (vv 2)) - ((uu 2) * (vv 1))) h41) gX3_cross_X2_rest rfl dX3_cross_21 rfl rfl rfl okk_X2_rest (Nat.le_of_ble_eq_true rfl) h41 rfl ⟨Nat.le_of_ble_eq_true rfl, Nat.le_of_ble_eq_true rfl⟩ ⟨Nat.le_of_ble_eq_true rfl, Nat.le_of_ble_eq_true rfl⟩ (Nat.le_of_ble_eq_true rfl) ?_
  refine z_iastN (j := 0) dX3_cross_24 rfl (Nat.le_of_ble_eq_true rfl) rfl (rfl) (by omega) (by decide) ?_
  refine z_n (L' := [(55, (zI G 3 (upd ww 0 (X2_rest_v fld (((uu 1) * (vv 2)) - ((uu 2) * (vv 1)))))))]) rfl ?_
  refine z_aload_n dX3_cross_25 rfl rfl ?_
  refine z_iconst (v := nI 1) dX3_cross_26 rfl (by decide) ?_
  refine z_aload_n dX3_cross_27 rfl rfl ?_
  refine z_get dX3_cross_28 rfl hiX3_cross_X3 0 lkX3_cross_12 (Nat.le_of_ble_eq_true rfl) h40 rfl (by decide) rfl ?_
  refine z_aload_n dX3_cross_31 rfl rfl ?_
  refine z_iconst (v := nI 2) dX3_cross_32 rfl (by decide) ?_
  refine z_ialdN (j := 2) dX3_cross_33 rfl (Nat.le_of_ble_eq_true rfl) h57 (rfl) (by omega) (by decide) ?_
  refine z_aload_n dX3_cross_34 rfl rfl ?_
  refine z_iconst (v := nI 0) dX3_cross_35 rfl (by decide) ?_
  refine z_ialdN (j := 0) dX3_cross_36 rfl (Nat.le_of_ble_eq_true rfl) h58 (rfl) (by omega) (by decide) ?_
  refine z_imul dX3_cross_37 rfl ?_
  refine z_aload_n dX3_cross_38 rfl rfl ?_
  refine z_iconst (v := nI 0) dX3_cross_39 rfl (by decide) ?_
  refine z_ialdN (j := 0) dX3_cross_40 rfl (Nat.le_of_ble_eq_true rfl) h57 (rfl) (by omega) (by decide) ?_
  refine z_aload_n dX3_cross_41 rfl rfl ?_
  refine z_iconst (v := nI 2) dX3_cross_42 rfl (by decide) ?_
  refine z_ialdN (j := 2) dX3_cross_43 rfl (Nat.le_of_ble_eq_true rfl) h58 (rfl) (by omega) (by decide) ?_
  refine z_imul dX3_cross_44 rfl ?_
  refine z_isub dX3_cross_45 rfl ?_
  refine z_callVi (c_X2_rest G ex _ fld psz (((uu 2) * (vv 0)) - ((uu 0) * (vv 2))) h41) gX3_cross_X2_rest rfl dX3_cross_46 rfl rfl rfl okk_X2_rest (Nat.le_of_ble_eq_true rfl) h41 rfl ⟨Nat.le_of_ble_eq_true rfl, Nat.le_of_ble_eq_true rfl⟩ ⟨Nat.le_of_ble_eq_true rfl, Nat.le_of_ble_eq_true rfl⟩ (Nat.le_of_ble_eq_true rfl) ?_
  refine z_iastN (j := 1) dX3_cross_49 rfl (Nat.le_of_ble_eq_true rfl) rfl (rfl) (by omega) (by decide) ?_
  refine z_n (L' := [(55, (zI G 3 (upd (upd ww 0 (X2_rest_v fld (((uu 1) * (vv 2)) - ((uu 2) * (vv 1))))) 1 (X2_rest_v fld (((uu 2) * (vv 0)) - ((uu 0) * (vv 2)))))))]) rfl ?_
  refine z_aload_n dX3_cross_50 rfl rfl ?_
  refine z_iconst (v := nI 2) dX3_cross_51 rfl (by decide) ?_
  refine z_aload_n dX3_cross_52 rfl rfl ?_
  refine z_get dX3_cross_53 rfl hiX3_cross_X3 0 lkX3_cross_12 (Nat.le_of_ble_eq_true rfl) h40 rfl (by decide) rfl ?_
  refine z_aload_n dX3_cross_56 rfl rfl ?_
  refine z_iconst (v := nI 0) dX3_cross_57 rfl (by decide) ?_
  refine z_ialdN (j := 0) dX3_cross_58 rfl (Nat.le_of_ble_eq_true rfl) h57 (rfl) (by omega) (by decide) ?_
  refine z_aload_n dX3_cross_59 rfl rfl ?_
  refine z_iconst (v := nI 1) dX3_cross_60 rfl (by decide) ?_
  refine z_ialdN (j := 1) dX3_cross_61 rfl (Nat.le_of_ble_eq_true rfl) h58 (rfl) (by omega) (by decide) ?_
  refine z_imul dX3_cross_62 rfl ?_
  refine z_aload_n dX3_cross_63 rfl rfl ?_
  refine z_iconst (v := nI 1) dX3_cross_64 rfl (by decide) ?_
  refine z_ialdN (j := 1) dX3_cross_65 rfl (Nat.le_of_ble_eq_true rfl) h57 (rfl) (by omega) (by decide) ?_
  refine z_aload_n dX3_cross_66 rfl rfl ?_
  refine z_iconst (v := nI 0) dX3_cross_67 rfl (by decide) ?_
  refine z_ialdN (j := 0) dX3_cross_68 rfl (Nat.le_of_ble_eq_true rfl) h58 (rfl) (by omega) (by decide) ?_
  refine z_imul dX3_cross_69 rfl ?_
  refine z_isub dX3_cross_70 rfl ?_
  refine z_callVi (c_X2_rest G ex _ fld psz (((uu 0) * (vv 1)) - ((uu 1) * (vv 0))) h41) gX3_cross_X2_rest rfl dX3_cross_71 rfl rfl rfl okk_X2_rest (Nat.le_of_ble_eq_true rfl) h41 rfl ⟨Nat.le_of_ble_eq_true rfl, Nat.le_of_ble_eq_true rfl⟩ ⟨Nat.le_of_ble_eq_true rfl, Nat.le_of_ble_eq_true rfl⟩ (Nat.le_of_ble_eq_true rfl) ?_
  refine z_iastN (j := 2) dX3_cross_74 rfl (Nat.le_of_ble_eq_true rfl) rfl (rfl) (by omega) (by decide) ?_
  refine z_n (L' := [(55, (zI G 3 (upd (upd (upd ww 0 (X2_rest_v fld (((uu 1) * (vv 2)) - ((uu 2) * (vv 1))))) 1 (X2_rest_v fld (((uu 2) * (vv 0)) - ((uu 0) * (vv 2))))) 2 (X2_rest_v fld (((uu 0) * (vv 1)) - ((uu 1) * (vv 0)))))))]) rfl ?_
  exact z_return dX3_cross_75 rfl (Nat.le_refl _) (Nat.le_refl _) (fun _ => rfl) ⟨rfl, by simp only [X3_cross_c55_55]⟩
abbrev mX3_joinPoints : zM := (cX3_joinPoints, 4, none, RX3, wsX3_joinPoints, "joinPoints")
theorem hiX3_joinPoints_X3 : ∀ w ∈ wsX30, w ∈ wsX3_joinPoints := fun w h => List.mem_cons_of_mem _ (List.mem_append_left _ (List.mem_append_right _ h))
theorem lkX3_joinPoints_47 : Cond.fieldLink RX3 47 "ConfigSearch$Search" "onePlace" "[I" ∈ wsX3_joinPoints := by decide +kernel
theorem okk_X3_numbersOf : zOk yX3_numbersOf 2 := by unfold zOk; decide +kernel
theorem lkX3_joinPoints_50 : Cond.fieldLink RX3 50 "ConfigSearch$Search" "otherPlace" "[I" ∈ wsX3_joinPoints := by decide +kernel
theorem okk_X3_cross : zOk yX3_cross 3 := by unfold zOk; decide +kernel
def X3_joinPoints_c55_57 (n0 n1 n2 plc p1 : Nat → Int32) (pa : Nat) : Nat → Int32 := X3_numbersOf_c55_55 n0 n1 n2 plc p1 pa
def X3_joinPoints_c56_57 (n0 n1 n2 plc p2 : Nat → Int32) (pb : Nat) : Nat → Int32 := X3_numbersOf_c56_56 n0 n1 n2 plc p2 pb
def X3_joinPoints_c57_57 (fld : Int32) (n0 n1 n2 plc p1 p2 li : Nat → Int32) (pa pb : Nat) : Nat → Int32 := X3_cross_c57_57 fld (X3_numbersOf_c55_55 n0 n1 n2 plc p1 pa) (X3_numbersOf_c56_56 n0 n1 n2 plc p2 pb) li
set_option maxRecDepth 100000 in
set_option maxHeartbeats 4000000 in
theorem c_X3_joinPoints_57 (G : zG) (ex : Bool) (g : Nat → va_E) (fnd stp : Int32) (fld : Int32) (psz : Nat) (n0 n1 n2 plc p1 p2 li : Nat → Int32) (pa pb : Nat) (hpa : pa < 10) (hpb : pb < 10) (hca : vp_in (plc pa) 183) (hcb : vp_in (plc pb) 183) (h40 : g 40 = (oSch G fnd stp)) (h41 : g 41 = (oPln G fld (nI psz))) (h42 : g 42 = (zR G 3 (zrw G 3 43))) (h43 : g 43 = (zI G 183 n0)) (h44 : g 44 = (zI G 183 n1)) (h45 : g 45 = (zI G 183 n2)) (h46 : g 46 = (zI G 10 plc)) (h55 : g 55 = (zI G 3 p1)) (h56 : g 56 = (zI G 3 p2)) (h57 : g 57 = (zI G 3 li)) : zC G yX3_joinPoints wsX3_joinPoints (zrm 3 66) ex [.ref (zB G + 40), .int (nI pa), .int (nI pb), .ref (zB G + 57)] (zN, g) (fun r h => r = none ∧ h = (zN, zus g [(55, zI G 3 (X3_joinPoints_c55_57 n0 n1 n2 plc p1 pa)), (56, zI G 3 (X3_joinPoints_c56_57 n0 n1 n2 plc p2 pb)), (57, zI G 3 (X3_joinPoints_c57_57 fld n0 n1 n2 plc p1 p2 li pa pb))])) := by
  refine zC_of mX3_joinPoints (lv := [some (.ref (zB G + 40)), some (.int (nI pa)), some (.int (nI pb)), some (.ref (zB G + 57))]) rfl rfl (by decide) (by intro v hv; simp at hv; rcases hv with rfl | rfl | rfl | rfl <;> rfl) (Nat.le_of_ble_eq_true rfl) rfl ?_
  refine z_0 ?_
  refine z_heap (g' := zu (zus g []) 55 (zI G 3 p1)) (zu_self (zus g []) 55 _ h55).symm ?_
  refine z_n (L' := [(55, (zI G 3 p1))]) rfl ?_
  refine z_heap (g' := zu (zus g [(55, (zI G 3 p1))]) 56 (zI G 3 p2)) (zu_self (zus g [(55, (zI G 3 p1))]) 56 _ h56).symm ?_
  refine z_n (L' := [(55, (zI G 3 p1)), (56, (zI G 3 p2))]) rfl ?_
  refine z_heap (g' := zu (zus g [(55, (zI G 3 p1)), (56, (zI G 3 p2))]) 57 (zI G 3 li)) (zu_self (zus g [(55, (zI G 3 p1)), (56, (zI G 3 p2))]) 57 _ h57).symm ?_
  refine z_n (L' := [(55, (zI G 3 p1)), (56, (zI G 3 p2)), (57, (zI G 3 li))]) rfl ?_
  refine z_aload_n dX3_joinPoints_0 rfl rfl ?_
  refine z_iload_n dX3_joinPoints_1 rfl rfl ?_
  refine z_aload_n dX3_joinPoints_2 rfl rfl ?_
  refine z_get dX3_joinPoints_3 rfl hiX3_joinPoints_X3 10 lkX3_joinPoints_47 (Nat.le_of_ble_eq_true rfl) h40 rfl (by decide) rfl ?_
  refine z_callVv (c_X3_numbersOf_55 G ex _ fnd stp fld psz n0 n1 n2 plc p1 pa (by omega) (by assumption) h40 h41 h42 h43 h44 h45 h46 rfl) gX3_joinPoints_X3_numbersOf rfl dX3_joinPoints_6 rfl rfl rfl okk_X3_numbersOf (Nat.le_of_ble_eq_true rfl) h40 rfl ⟨Nat.le_of_ble_eq_true rfl, Nat.le_of_ble_eq_true rfl⟩ ⟨Nat.le_of_ble_eq_true rfl, Nat.le_of_ble_eq_true rfl⟩ (Nat.le_of_ble_eq_true rfl) ?_
  refine z_nn (L' := [(55, (zI G 3 (X3_numbersOf_c55_55 n0 n1 n2 plc p1 pa))), (56, (zI G 3 p2)), (57, (zI G 3 li))]) rfl ?_
  refine z_aload_n dX3_joinPoints_9 rfl rfl ?_
  refine z_iload_n dX3_joinPoints_10 rfl rfl ?_
  refine z_aload_n dX3_joinPoints_11 rfl rfl ?_
  refine z_get dX3_joinPoints_12 rfl hiX3_joinPoints_X3 11 lkX3_joinPoints_50 (Nat.le_of_ble_eq_true rfl) h40 rfl (by decide) rfl ?_
  refine z_callVv (c_X3_numbersOf_56 G ex _ fnd stp fld psz n0 n1 n2 plc p2 pb (by omega) (by assumption) h40 h41 h42 h43 h44 h45 h46 rfl) gX3_joinPoints_X3_numbersOf rfl dX3_joinPoints_15 rfl rfl rfl okk_X3_numbersOf (Nat.le_of_ble_eq_true rfl) h40 rfl ⟨Nat.le_of_ble_eq_true rfl, Nat.le_of_ble_eq_true rfl⟩ ⟨Nat.le_of_ble_eq_true rfl, Nat.le_of_ble_eq_true rfl⟩ (Nat.le_of_ble_eq_true rfl) ?_
  refine z_nn (L' := [(55, (zI G 3 (X3_numbersOf_c55_55 n0 n1 n2 plc p1 pa))), (56, (zI G 3 (X3_numbersOf_c56_56 n0 n1 n2 plc p2 pb))), (57, (zI G 3 li))]) rfl ?_
  refine z_aload_n dX3_joinPoints_18 rfl rfl ?_
  refine z_aload_n dX3_joinPoints_19 rfl rfl ?_
  refine z_get dX3_joinPoints_20 rfl hiX3_joinPoints_X3 10 lkX3_joinPoints_47 (Nat.le_of_ble_eq_true rfl) h40 rfl (by decide) rfl ?_
  refine z_aload_n dX3_joinPoints_23 rfl rfl ?_
  refine z_get dX3_joinPoints_24 rfl hiX3_joinPoints_X3 11 lkX3_joinPoints_50 (Nat.le_of_ble_eq_true rfl) h40 rfl (by decide) rfl ?_
  refine z_aload_n dX3_joinPoints_27 rfl rfl ?_
  refine z_callVv (c_X3_cross_57 G ex _ fnd stp fld psz (X3_numbersOf_c55_55 n0 n1 n2 plc p1 pa) (X3_numbersOf_c56_56 n0 n1 n2 plc p2 pb) li h40 h41 rfl rfl rfl) gX3_joinPoints_X3_cross rfl dX3_joinPoints_28 rfl rfl rfl okk_X3_cross (Nat.le_of_ble_eq_true rfl) h40 rfl ⟨Nat.le_of_ble_eq_true rfl, Nat.le_of_ble_eq_true rfl⟩ ⟨Nat.le_of_ble_eq_true rfl, Nat.le_of_ble_eq_true rfl⟩ (Nat.le_of_ble_eq_true rfl) ?_
  refine z_nn (L' := [(55, (zI G 3 (X3_numbersOf_c55_55 n0 n1 n2 plc p1 pa))), (56, (zI G 3 (X3_numbersOf_c56_56 n0 n1 n2 plc p2 pb))), (57, (zI G 3 (X3_cross_c57_57 fld (X3_numbersOf_c55_55 n0 n1 n2 plc p1 pa) (X3_numbersOf_c56_56 n0 n1 n2 plc p2 pb) li)))]) rfl ?_
  exact z_return dX3_joinPoints_31 rfl (Nat.le_refl _) (Nat.le_refl _) (fun _ => rfl) ⟨rfl, by simp only [X3_joinPoints_c55_57, X3_joinPoints_c56_57, X3_joinPoints_c57_57]⟩
def X3_joinPoints_c55_58 (n0 n1 n2 plc p1 : Nat → Int32) (pa : Nat) : Nat → Int32 := X3_numbersOf_c55_55 n0 n1 n2 plc p1 pa
def X3_joinPoints_c56_58 (n0 n1 n2 plc p2 : Nat → Int32) (pb : Nat) : Nat → Int32 := X3_numbersOf_c56_56 n0 n1 n2 plc p2 pb
def X3_joinPoints_c58_58 (fld : Int32) (n0 n1 n2 plc p1 p2 li : Nat → Int32) (pa pb : Nat) : Nat → Int32 := X3_cross_c58_58 fld (X3_numbersOf_c55_55 n0 n1 n2 plc p1 pa) (X3_numbersOf_c56_56 n0 n1 n2 plc p2 pb) li
set_option maxRecDepth 100000 in
set_option maxHeartbeats 4000000 in
theorem c_X3_joinPoints_58 (G : zG) (ex : Bool) (g : Nat → va_E) (fnd stp : Int32) (fld : Int32) (psz : Nat) (n0 n1 n2 plc p1 p2 li : Nat → Int32) (pa pb : Nat) (hpa : pa < 10) (hpb : pb < 10) (hca : vp_in (plc pa) 183) (hcb : vp_in (plc pb) 183) (h40 : g 40 = (oSch G fnd stp)) (h41 : g 41 = (oPln G fld (nI psz))) (h42 : g 42 = (zR G 3 (zrw G 3 43))) (h43 : g 43 = (zI G 183 n0)) (h44 : g 44 = (zI G 183 n1)) (h45 : g 45 = (zI G 183 n2)) (h46 : g 46 = (zI G 10 plc)) (h55 : g 55 = (zI G 3 p1)) (h56 : g 56 = (zI G 3 p2)) (h58 : g 58 = (zI G 3 li)) : zC G yX3_joinPoints wsX3_joinPoints (zrm 3 66) ex [.ref (zB G + 40), .int (nI pa), .int (nI pb), .ref (zB G + 58)] (zN, g) (fun r h => r = none ∧ h = (zN, zus g [(55, zI G 3 (X3_joinPoints_c55_58 n0 n1 n2 plc p1 pa)), (56, zI G 3 (X3_joinPoints_c56_58 n0 n1 n2 plc p2 pb)), (58, zI G 3 (X3_joinPoints_c58_58 fld n0 n1 n2 plc p1 p2 li pa pb))])) := by
  refine zC_of mX3_joinPoints (lv := [some (.ref (zB G + 40)), some (.int (nI pa)), some (.int (nI pb)), some (.ref (zB G + 58))]) rfl rfl (by decide) (by intro v hv; simp at hv; rcases hv with rfl | rfl | rfl | rfl <;> rfl) (Nat.le_of_ble_eq_true rfl) rfl ?_
  refine z_0 ?_
  refine z_heap (g' := zu (zus g []) 55 (zI G 3 p1)) (zu_self (zus g []) 55 _ h55).symm ?_
  refine z_n (L' := [(55, (zI G 3 p1))]) rfl ?_
  refine z_heap (g' := zu (zus g [(55, (zI G 3 p1))]) 56 (zI G 3 p2)) (zu_self (zus g [(55, (zI G 3 p1))]) 56 _ h56).symm ?_
  refine z_n (L' := [(55, (zI G 3 p1)), (56, (zI G 3 p2))]) rfl ?_
  refine z_heap (g' := zu (zus g [(55, (zI G 3 p1)), (56, (zI G 3 p2))]) 58 (zI G 3 li)) (zu_self (zus g [(55, (zI G 3 p1)), (56, (zI G 3 p2))]) 58 _ h58).symm ?_
  refine z_n (L' := [(55, (zI G 3 p1)), (56, (zI G 3 p2)), (58, (zI G 3 li))]) rfl ?_
  refine z_aload_n dX3_joinPoints_0 rfl rfl ?_
  refine z_iload_n dX3_joinPoints_1 rfl rfl ?_
  refine z_aload_n dX3_joinPoints_2 rfl rfl ?_
  refine z_get dX3_joinPoints_3 rfl hiX3_joinPoints_X3 10 lkX3_joinPoints_47 (Nat.le_of_ble_eq_true rfl) h40 rfl (by decide) rfl ?_
  refine z_callVv (c_X3_numbersOf_55 G ex _ fnd stp fld psz n0 n1 n2 plc p1 pa (by omega) (by assumption) h40 h41 h42 h43 h44 h45 h46 rfl) gX3_joinPoints_X3_numbersOf rfl dX3_joinPoints_6 rfl rfl rfl okk_X3_numbersOf (Nat.le_of_ble_eq_true rfl) h40 rfl ⟨Nat.le_of_ble_eq_true rfl, Nat.le_of_ble_eq_true rfl⟩ ⟨Nat.le_of_ble_eq_true rfl, Nat.le_of_ble_eq_true rfl⟩ (Nat.le_of_ble_eq_true rfl) ?_
  refine z_nn (L' := [(55, (zI G 3 (X3_numbersOf_c55_55 n0 n1 n2 plc p1 pa))), (56, (zI G 3 p2)), (58, (zI G 3 li))]) rfl ?_
  refine z_aload_n dX3_joinPoints_9 rfl rfl ?_
  refine z_iload_n dX3_joinPoints_10 rfl rfl ?_
  refine z_aload_n dX3_joinPoints_11 rfl rfl ?_
  refine z_get dX3_joinPoints_12 rfl hiX3_joinPoints_X3 11 lkX3_joinPoints_50 (Nat.le_of_ble_eq_true rfl) h40 rfl (by decide) rfl ?_
  refine z_callVv (c_X3_numbersOf_56 G ex _ fnd stp fld psz n0 n1 n2 plc p2 pb (by omega) (by assumption) h40 h41 h42 h43 h44 h45 h46 rfl) gX3_joinPoints_X3_numbersOf rfl dX3_joinPoints_15 rfl rfl rfl okk_X3_numbersOf (Nat.le_of_ble_eq_true rfl) h40 rfl ⟨Nat.le_of_ble_eq_true rfl, Nat.le_of_ble_eq_true rfl⟩ ⟨Nat.le_of_ble_eq_true rfl, Nat.le_of_ble_eq_true rfl⟩ (Nat.le_of_ble_eq_true rfl) ?_
  refine z_nn (L' := [(55, (zI G 3 (X3_numbersOf_c55_55 n0 n1 n2 plc p1 pa))), (56, (zI G 3 (X3_numbersOf_c56_56 n0 n1 n2 plc p2 pb))), (58, (zI G 3 li))]) rfl ?_
  refine z_aload_n dX3_joinPoints_18 rfl rfl ?_
  refine z_aload_n dX3_joinPoints_19 rfl rfl ?_
  refine z_get dX3_joinPoints_20 rfl hiX3_joinPoints_X3 10 lkX3_joinPoints_47 (Nat.le_of_ble_eq_true rfl) h40 rfl (by decide) rfl ?_
  refine z_aload_n dX3_joinPoints_23 rfl rfl ?_
  refine z_get dX3_joinPoints_24 rfl hiX3_joinPoints_X3 11 lkX3_joinPoints_50 (Nat.le_of_ble_eq_true rfl) h40 rfl (by decide) rfl ?_
  refine z_aload_n dX3_joinPoints_27 rfl rfl ?_
  refine z_callVv (c_X3_cross_58 G ex _ fnd stp fld psz (X3_numbersOf_c55_55 n0 n1 n2 plc p1 pa) (X3_numbersOf_c56_56 n0 n1 n2 plc p2 pb) li h40 h41 rfl rfl rfl) gX3_joinPoints_X3_cross rfl dX3_joinPoints_28 rfl rfl rfl okk_X3_cross (Nat.le_of_ble_eq_true rfl) h40 rfl ⟨Nat.le_of_ble_eq_true rfl, Nat.le_of_ble_eq_true rfl⟩ ⟨Nat.le_of_ble_eq_true rfl, Nat.le_of_ble_eq_true rfl⟩ (Nat.le_of_ble_eq_true rfl) ?_
  refine z_nn (L' := [(55, (zI G 3 (X3_numbersOf_c55_55 n0 n1 n2 plc p1 pa))), (56, (zI G 3 (X3_numbersOf_c56_56 n0 n1 n2 plc p2 pb))), (58, (zI G 3 (X3_cross_c58_58 fld (X3_numbersOf_c55_55 n0 n1 n2 plc p1 pa) (X3_numbersOf_c56_56 n0 n1 n2 plc p2 pb) li)))]) rfl ?_
  exact z_return dX3_joinPoints_31 rfl (Nat.le_refl _) (Nat.le_refl _) (fun _ => rfl) ⟨rfl, by simp only [X3_joinPoints_c55_58, X3_joinPoints_c56_58, X3_joinPoints_c58_58]⟩
abbrev mX3_fits : zM := (cX3_fits, 2, (some .boolean), RX3, wsX3_fits, "fits")
def X3_fits_v (v w : Int32) : Int32 := if w = (nI 2) then (if v = 0 then (nI 0) else (nI 1)) else (if (icmp v (nI 0)) = w then (nI 1) else (nI 0))
set_option maxRecDepth 100000 in
set_option maxHeartbeats 4000000 in
theorem c_X3_fits (G : zG) (ex : Bool) (g : Nat → va_E) (v w : Int32)   : zC G yX3_fits wsX3_fits (zrm 1 21) ex [.int v, .int w] (zN, g) (fun r h => r = some (.int (X3_fits_v v w)) ∧ h = (zN, g)) := by
  refine zC_of mX3_fits (lv := [some (.int v), some (.int w)]) rfl rfl (by decide) (by intro v hv; simp at hv; rcases hv with rfl | rfl <;> rfl) (Nat.le_of_ble_eq_true rfl) rfl ?_
  refine z_0 ?_
  refine z_iload_n dX3_fits_0 rfl rfl ?_
  refine z_iconst (v := nI 2) dX3_fits_1 rfl (by decide) ?_
  refine z_icmp_ne (tgt := 17) dX3_fits_2 rfl (by decide) (fun c2 => ?_) (fun c2 => ?_)
  · refine z_iload_n dX3_fits_17 rfl rfl ?_
    refine z_iconst (v := nI 0) dX3_fits_18 rfl (by decide) ?_
    refine z_callSi (c_compare G ex _ v (nI 0)) gX3_fits_J6_compare_7cf53 rfl dX3_fits_19 rfl rfl okk_J6_compare_7cf53 ⟨Nat.le_of_ble_eq_true rfl, Nat.le_of_ble_eq_true rfl⟩ ⟨Nat.le_of_ble_eq_true rfl, Nat.le_of_ble_eq_true rfl⟩ (Nat.le_of_ble_eq_true rfl) ?_
    refine z_iload_n dX3_fits_22 rfl rfl ?_
    refine z_icmp_ne (tgt := 30) dX3_fits_23 rfl (by decide) (fun c23 => ?_) (fun c23 => ?_)
    · refine z_iconst (v := nI 0) dX3_fits_30 rfl (by decide) ?_
      exact z_ireturn dX3_fits_31 rfl rfl (Nat.le_refl _) (Nat.le_refl _) (fun _ => rfl) ⟨by simp only [X3_fits_v, if_neg c2, if_neg c23], rfl⟩
    · refine z_iconst (v := nI 1) dX3_fits_26 rfl (by decide) ?_
      refine z_goto (tgt := 31) dX3_fits_27 (by decide) ?_
      exact z_ireturn dX3_fits_31 rfl rfl (Nat.le_refl _) (Nat.le_refl _) (fun _ => rfl) ⟨by simp only [X3_fits_v, if_neg c2, if_pos c23], rfl⟩
  · refine z_iload_n dX3_fits_5 rfl rfl ?_
    refine z_if_eq (tgt := 13) dX3_fits_6 rfl (by decide) (fun c6 => ?_) (fun c6 => ?_)
    · refine z_iconst (v := nI 0) dX3_fits_13 rfl (by decide) ?_
      refine z_goto (tgt := 31) dX3_fits_14 (by decide) ?_
      exact z_ireturn dX3_fits_31 rfl rfl (Nat.le_refl _) (Nat.le_refl _) (fun _ => rfl) ⟨by simp only [X3_fits_v, if_pos c2, if_pos c6], rfl⟩
    · refine z_iconst (v := nI 1) dX3_fits_9 rfl (by decide) ?_
      refine z_goto (tgt := 31) dX3_fits_10 (by decide) ?_
      exact z_ireturn dX3_fits_31 rfl rfl (Nat.le_refl _) (Nat.le_refl _) (fun _ => rfl) ⟨by simp only [X3_fits_v, if_pos c2, if_neg c6], rfl⟩
abbrev mX3_isWanted : zM := (cX3_isWanted, 2, (some .boolean), RX3, wsX3_isWanted, "isWanted")
theorem hiX3_isWanted_X3 : ∀ w ∈ wsX30, w ∈ wsX3_isWanted := fun w h => List.mem_cons_of_mem _ (List.mem_append_left _ (List.mem_append_right _ h))
theorem lkX3_isWanted_59 : Cond.fieldLink RX3 59 "ConfigSearch$Search" "told" "LConfigSearch$Told;" ∈ wsX3_isWanted := by decide +kernel
theorem hiX3_isWanted_X5 : ∀ w ∈ wsX50, w ∈ wsX3_isWanted := fun w h => List.mem_cons_of_mem _ (List.mem_append_right _ h)
theorem lkX3_isWanted_121 : Cond.fieldLink RX3 121 "ConfigSearch$Told" "flat" "[Z" ∈ wsX3_isWanted := by decide +kernel
theorem lkX3_isWanted_125 : Cond.fieldLink RX3 125 "ConfigSearch$Told" "barred" "[Z" ∈ wsX3_isWanted := by decide +kernel
theorem lkX3_isWanted_128 : Cond.fieldLink RX3 128 "ConfigSearch$Told" "oriented" "[I" ∈ wsX3_isWanted := by decide +kernel
def X3_isWanted_v (fl ba ori : Nat → Int32) (sp : Nat) : Int32 := if (fl sp) = 0 then (if (ba sp) = 0 then (if (ori sp) = 0 then (nI 0) else (nI 1)) else (nI 1)) else (nI 1)
set_option maxRecDepth 100000 in
set_option maxHeartbeats 4000000 in
theorem c_X3_isWanted (G : zG) (ex : Bool) (g : Nat → va_E) (fnd stp : Int32) (bo oo : Int32) (fl ba ori : Nat → Int32) (sp : Nat) (hs : sp < 120) (h40 : g 40 = (oSch G fnd stp)) (h36 : g 36 = (oTld G bo oo)) (h37 : g 37 = (zZ G 120 fl)) (h38 : g 38 = (zZ G 120 ba)) (h39 : g 39 = (zI G 120 ori)) : zC G yX3_isWanted wsX3_isWanted (zrm 0 0) ex [.ref (zB G + 40), .int (nI sp)] (zN, g) (fun r h => r = some (.int (X3_isWanted_v fl ba ori sp)) ∧ h = (zN, g)) := by
  refine zC_of mX3_isWanted (lv := [some (.ref (zB G + 40)), some (.int (nI sp))]) rfl rfl (by decide) (by intro v hv; simp at hv; rcases hv with rfl | rfl <;> rfl) (Nat.le_of_ble_eq_true rfl) rfl ?_
  refine z_0 ?_
  refine z_aload_n dX3_isWanted_0 rfl rfl ?_
  refine z_get dX3_isWanted_1 rfl hiX3_isWanted_X3 3 lkX3_isWanted_59 (Nat.le_of_ble_eq_true rfl) h40 rfl (by decide) rfl ?_
  refine z_get dX3_isWanted_4 rfl hiX3_isWanted_X5 0 lkX3_isWanted_121 (Nat.le_of_ble_eq_true rfl) h36 rfl (by decide) rfl ?_
  refine z_iload_n dX3_isWanted_7 rfl rfl ?_
  refine z_zaldN (j := sp) dX3_isWanted_8 rfl (Nat.le_of_ble_eq_true rfl) h37 (rfl) (by omega) (by decide) ?_
  refine z_if_ne (tgt := 36) dX3_isWanted_9 rfl (by decide) (fun c9 => ?_) (fun c9 => ?_)
  · refine z_iconst (v := nI 1) dX3_isWanted_36 rfl (by decide) ?_
    refine z_goto (tgt := 41) dX3_isWanted_37 (by decide) ?_
    exact z_ireturn dX3_isWanted_41 rfl rfl (Nat.le_refl _) (Nat.le_refl _) (fun _ => rfl) ⟨by simp only [X3_isWanted_v, if_neg c9], rfl⟩
  · refine z_aload_n dX3_isWanted_12 rfl rfl ?_
    refine z_get dX3_isWanted_13 rfl hiX3_isWanted_X3 3 lkX3_isWanted_59 (Nat.le_of_ble_eq_true rfl) h40 rfl (by decide) rfl ?_
    refine z_get dX3_isWanted_16 rfl hiX3_isWanted_X5 1 lkX3_isWanted_125 (Nat.le_of_ble_eq_true rfl) h36 rfl (by decide) rfl ?_
    refine z_iload_n dX3_isWanted_19 rfl rfl ?_
    refine z_zaldN (j := sp) dX3_isWanted_20 rfl (Nat.le_of_ble_eq_true rfl) h38 (rfl) (by omega) (by decide) ?_
    refine z_if_ne (tgt := 36) dX3_isWanted_21 rfl (by decide) (fun c21 => ?_) (fun c21 => ?_)
    · refine z_iconst (v := nI 1) dX3_isWanted_36 rfl (by decide) ?_
      refine z_goto (tgt := 41) dX3_isWanted_37 (by decide) ?_
      exact z_ireturn dX3_isWanted_41 rfl rfl (Nat.le_refl _) (Nat.le_refl _) (fun _ => rfl) ⟨by simp only [X3_isWanted_v, if_pos c9, if_neg c21], rfl⟩
    · refine z_aload_n dX3_isWanted_24 rfl rfl ?_
      refine z_get dX3_isWanted_25 rfl hiX3_isWanted_X3 3 lkX3_isWanted_59 (Nat.le_of_ble_eq_true rfl) h40 rfl (by decide) rfl ?_
      refine z_get dX3_isWanted_28 rfl hiX3_isWanted_X5 2 lkX3_isWanted_128 (Nat.le_of_ble_eq_true rfl) h36 rfl (by decide) rfl ?_
      refine z_iload_n dX3_isWanted_31 rfl rfl ?_
      refine z_ialdN (j := sp) dX3_isWanted_32 rfl (Nat.le_of_ble_eq_true rfl) h39 (rfl) (by omega) (by decide) ?_
      refine z_if_eq (tgt := 40) dX3_isWanted_33 rfl (by decide) (fun c33 => ?_) (fun c33 => ?_)
      · refine z_iconst (v := nI 0) dX3_isWanted_40 rfl (by decide) ?_
        exact z_ireturn dX3_isWanted_41 rfl rfl (Nat.le_refl _) (Nat.le_refl _) (fun _ => rfl) ⟨by simp only [X3_isWanted_v, if_pos c9, if_pos c21, if_pos c33], rfl⟩
      · refine z_iconst (v := nI 1) dX3_isWanted_36 rfl (by decide) ?_
        refine z_goto (tgt := 41) dX3_isWanted_37 (by decide) ?_
        exact z_ireturn dX3_isWanted_41 rfl rfl (Nat.le_refl _) (Nat.le_refl _) (fun _ => rfl) ⟨by simp only [X3_isWanted_v, if_pos c9, if_pos c21, if_neg c33], rfl⟩
abbrev mX3_wantOf : zM := (cX3_wantOf, 3, (some .int), RX3, wsX3_wantOf, "wantOf")
theorem hiX3_wantOf_X3 : ∀ w ∈ wsX30, w ∈ wsX3_wantOf := fun w h => List.mem_cons_of_mem _ (List.mem_append_left _ (List.mem_append_left _ (List.mem_append_right _ h)))
theorem lkX3_wantOf_59 : Cond.fieldLink RX3 59 "ConfigSearch$Search" "told" "LConfigSearch$Told;" ∈ wsX3_wantOf := by decide +kernel
theorem hiX3_wantOf_X5 : ∀ w ∈ wsX50, w ∈ wsX3_wantOf := fun w h => List.mem_cons_of_mem _ (List.mem_append_left _ (List.mem_append_right _ h))
theorem lkX3_wantOf_121 : Cond.fieldLink RX3 121 "ConfigSearch$Told" "flat" "[Z" ∈ wsX3_wantOf := by decide +kernel
theorem lkX3_wantOf_12 : Cond.fieldLink RX3 12 "ConfigSearch$Search" "plane" "LConfigSearch$Plane;" ∈ wsX3_wantOf := by decide +kernel
theorem hiX3_wantOf_X2 : ∀ w ∈ wsX20, w ∈ wsX3_wantOf := fun w h => List.mem_cons_of_mem _ (List.mem_append_right _ h)
theorem lkX3_wantOf_131 : Cond.fieldLink RX3 131 "ConfigSearch$Plane" "field" "I" ∈ wsX3_wantOf := by decide +kernel
theorem lkX3_wantOf_128 : Cond.fieldLink RX3 128 "ConfigSearch$Told" "oriented" "[I" ∈ wsX3_wantOf := by decide +kernel
def X3_wantOf_v (fld : Int32) (fl ori : Nat → Int32) (sp : Nat) : Int32 := if (fl sp) = 0 then (if fld = 0 then (if (ori sp) = 0 then (nI 2) else (ori sp)) else (nI 2)) else (nI 0)
set_option maxRecDepth 100000 in
set_option maxHeartbeats 4000000 in
theorem c_X3_wantOf (G : zG) (ex : Bool) (g : Nat → va_E) (fnd stp : Int32) (fld : Int32) (psz : Nat) (bo oo : Int32) (fl ba ori : Nat → Int32) (sp : Nat) (hs : sp < 120) (h40 : g 40 = (oSch G fnd stp)) (h41 : g 41 = (oPln G fld (nI psz))) (h36 : g 36 = (oTld G bo oo)) (h37 : g 37 = (zZ G 120 fl)) (h38 : g 38 = (zZ G 120 ba)) (h39 : g 39 = (zI G 120 ori)) : zC G yX3_wantOf wsX3_wantOf (zrm 0 0) ex [.ref (zB G + 40), .int (nI sp)] (zN, g) (fun r h => r = some (.int (X3_wantOf_v fld fl ori sp)) ∧ h = (zN, g)) := by
  refine zC_of mX3_wantOf (lv := [some (.ref (zB G + 40)), some (.int (nI sp)), none]) rfl rfl (by decide) (by intro v hv; simp at hv; rcases hv with rfl | rfl <;> rfl) (Nat.le_of_ble_eq_true rfl) rfl ?_
  refine z_0 ?_
  refine z_aload_n dX3_wantOf_0 rfl rfl ?_
  refine z_get dX3_wantOf_1 rfl hiX3_wantOf_X3 3 lkX3_wantOf_59 (Nat.le_of_ble_eq_true rfl) h40 rfl (by decide) rfl ?_
  refine z_get dX3_wantOf_4 rfl hiX3_wantOf_X5 0 lkX3_wantOf_121 (Nat.le_of_ble_eq_true rfl) h36 rfl (by decide) rfl ?_
  refine z_iload_n dX3_wantOf_7 rfl rfl ?_
  refine z_zaldN (j := sp) dX3_wantOf_8 rfl (Nat.le_of_ble_eq_true rfl) h37 (rfl) (by omega) (by decide) ?_
  refine z_if_eq (tgt := 14) dX3_wantOf_9 rfl (by decide) (fun c9 => ?_) (fun c9 => ?_)
  · refine z_aload_n dX3_wantOf_14 rfl rfl ?_
    refine z_get dX3_wantOf_15 rfl hiX3_wantOf_X3 0 lkX3_wantOf_12 (Nat.le_of_ble_eq_true rfl) h40 rfl (by decide) rfl ?_
    refine z_get dX3_wantOf_18 rfl hiX3_wantOf_X2 0 lkX3_wantOf_131 (Nat.le_of_ble_eq_true rfl) h41 rfl (by decide) rfl ?_
    refine z_if_ne (tgt := 40) dX3_wantOf_21 rfl (by decide) (fun c21 => ?_) (fun c21 => ?_)
    · refine z_iconst (v := nI 0) dX3_wantOf_40 rfl (by decide) ?_
      refine z_istore_2 dX3_wantOf_41 rfl ?_
      refine z_iload_n dX3_wantOf_42 rfl rfl ?_
      refine z_if_eq (tgt := 58) dX3_wantOf_43 rfl (by decide) (fun c43 => ?_) (fun c43 => ?_)
      · refine z_iconst (v := nI 2) dX3_wantOf_58 rfl (by decide) ?_
        exact z_ireturn dX3_wantOf_59 rfl rfl (Nat.le_refl _) (Nat.le_refl _) (fun _ => rfl) ⟨by simp only [X3_wantOf_v, if_pos c9, if_neg c21], rfl⟩
      · exact absurd (by decide) c43
    · refine z_aload_n dX3_wantOf_24 rfl rfl ?_
      refine z_get dX3_wantOf_25 rfl hiX3_wantOf_X3 3 lkX3_wantOf_59 (Nat.le_of_ble_eq_true rfl) h40 rfl (by decide) rfl ?_
      refine z_get dX3_wantOf_28 rfl hiX3_wantOf_X5 2 lkX3_wantOf_128 (Nat.le_of_ble_eq_true rfl) h36 rfl (by decide) rfl ?_
      refine z_iload_n dX3_wantOf_31 rfl rfl ?_
      refine z_ialdN (j := sp) dX3_wantOf_32 rfl (Nat.le_of_ble_eq_true rfl) h39 (rfl) (by omega) (by decide) ?_
      refine z_if_eq (tgt := 40) dX3_wantOf_33 rfl (by decide) (fun c33 => ?_) (fun c33 => ?_)
      · refine z_iconst (v := nI 0) dX3_wantOf_40 rfl (by decide) ?_
        refine z_istore_2 dX3_wantOf_41 rfl ?_
        refine z_iload_n dX3_wantOf_42 rfl rfl ?_
        refine z_if_eq (tgt := 58) dX3_wantOf_43 rfl (by decide) (fun c43 => ?_) (fun c43 => ?_)
        · refine z_iconst (v := nI 2) dX3_wantOf_58 rfl (by decide) ?_
          exact z_ireturn dX3_wantOf_59 rfl rfl (Nat.le_refl _) (Nat.le_refl _) (fun _ => rfl) ⟨by simp only [X3_wantOf_v, if_pos c9, if_pos c21, if_pos c33], rfl⟩
        · exact absurd (by decide) c43
      · refine z_iconst (v := nI 1) dX3_wantOf_36 rfl (by decide) ?_
        refine z_goto (tgt := 41) dX3_wantOf_37 (by decide) ?_
        refine z_istore_2 dX3_wantOf_41 rfl ?_
        refine z_iload_n dX3_wantOf_42 rfl rfl ?_
        refine z_if_eq (tgt := 58) dX3_wantOf_43 rfl (by decide) (fun c43 => ?_) (fun c43 => ?_)
        · exact absurd c43 (by decide)
        · refine z_aload_n dX3_wantOf_46 rfl rfl ?_
          refine z_get dX3_wantOf_47 rfl hiX3_wantOf_X3 3 lkX3_wantOf_59 (Nat.le_of_ble_eq_true rfl) h40 rfl (by decide) rfl ?_
          refine z_get dX3_wantOf_50 rfl hiX3_wantOf_X5 2 lkX3_wantOf_128 (Nat.le_of_ble_eq_true rfl) h36 rfl (by decide) rfl ?_
          refine z_iload_n dX3_wantOf_53 rfl rfl ?_
          refine z_ialdN (j := sp) dX3_wantOf_54 rfl (Nat.le_of_ble_eq_true rfl) h39 (rfl) (by omega) (by decide) ?_
          refine z_goto (tgt := 59) dX3_wantOf_55 (by decide) ?_
          exact z_ireturn dX3_wantOf_59 rfl rfl (Nat.le_refl _) (Nat.le_refl _) (fun _ => rfl) ⟨by simp only [X3_wantOf_v, if_pos c9, if_pos c21, if_neg c33], rfl⟩
  · refine z_iconst (v := nI 0) dX3_wantOf_12 rfl (by decide) ?_
    exact z_ireturn dX3_wantOf_13 rfl rfl (Nat.le_refl _) (Nat.le_refl _) (fun _ => rfl) ⟨by simp only [X3_wantOf_v, if_neg c9], rfl⟩
abbrev mX3_forget : zM := (cX3_forget, 1, none, RX3, wsX3_forget, "forget")
theorem hiX3_forget_X3 : ∀ w ∈ wsX30, w ∈ wsX3_forget := fun w h => List.mem_cons_of_mem _ (List.mem_append_right _ h)
theorem lkX3_forget_18 : Cond.fieldLink RX3 18 "ConfigSearch$Search" "found" "Z" ∈ wsX3_forget := by decide +kernel
theorem lkX3_forget_22 : Cond.fieldLink RX3 22 "ConfigSearch$Search" "steps" "I" ∈ wsX3_forget := by decide +kernel
def X3_forget_p40_0 : Nat := 0
def X3_forget_p40_1 : Nat := 0
set_option maxRecDepth 100000 in
set_option maxHeartbeats 4000000 in
theorem c_X3_forget (G : zG) (ex : Bool) (g : Nat → va_E) (fnd stp : Int32)   (h40 : g 40 = (oSch G fnd stp)) : zC G yX3_forget wsX3_forget (zrm 0 0) ex [.ref (zB G + 40)] (zN, g) (fun r h => r = none ∧ h = (zN, zus g [(40, (oSch G (nI X3_forget_p40_0) (nI X3_forget_p40_1)))])) := by
  refine zC_of mX3_forget (lv := [some (.ref (zB G + 40))]) rfl rfl (by decide) (by intro v hv; simp at hv; subst hv; rfl) (Nat.le_of_ble_eq_true rfl) rfl ?_
  refine z_0 ?_
  refine z_heap (g' := zu (zus g []) 40 (oSch G fnd stp)) (zu_self (zus g []) 40 _ h40).symm ?_
  refine z_n (L' := [(40, (oSch G fnd stp))]) rfl ?_
  refine z_aload_n dX3_forget_0 rfl rfl ?_
  refine z_iconst (v := nI 0) dX3_forget_1 rfl (by decide) ?_
  refine z_putN (e9 := (oSch G (nI 0) stp)) tyX3 tyX3_ok nmX3 dX3_forget_2 rfl hiX3_forget_X3 1 lkX3_forget_18 rfl (by decide +kernel) (Nat.le_of_ble_eq_true rfl) rfl rfl (by decide) (Nat.le_of_ble_eq_true rfl) rfl rfl rfl ?_
  refine z_n (L' := [(40, (oSch G (nI 0) stp))]) rfl ?_
  refine z_aload_n dX3_forget_5 rfl rfl ?_
  refine z_iconst (v := nI 0) dX3_forget_6 rfl (by decide) ?_
  refine z_putN (e9 := (oSch G (nI 0) (nI 0))) tyX3 tyX3_ok nmX3 dX3_forget_7 rfl hiX3_forget_X3 2 lkX3_forget_22 rfl (by decide +kernel) (Nat.le_of_ble_eq_true rfl) rfl rfl (by decide) (Nat.le_of_ble_eq_true rfl) rfl rfl rfl ?_
  refine z_n (L' := [(40, (oSch G (nI 0) (nI 0)))]) rfl ?_
  exact z_return dX3_forget_10 rfl (Nat.le_refl _) (Nat.le_refl _) (fun _ => rfl) ⟨rfl, by simp only [X3_forget_p40_0, X3_forget_p40_1]⟩
