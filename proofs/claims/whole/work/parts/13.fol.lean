abbrev mX0_signIn : zM := (cX0_signIn, 4, (some .int), RX0, wsX0_signIn, "signIn")
theorem hiX0_signIn_X0 : ∀ w ∈ wsX00, w ∈ wsX0_signIn := fun w h => List.mem_cons_of_mem _ (List.mem_append_right _ h)
theorem lkX0_signIn_31 : Cond.fieldLink RX0 31 "ConfigSearch$Following" "now" "[I" ∈ wsX0_signIn := by decide +kernel
theorem lkX0_signIn_34 : Cond.fieldLink RX0 34 "ConfigSearch$Following" "relation" "[I" ∈ wsX0_signIn := by decide +kernel
theorem lkX0_signIn_118 : Cond.fieldLink RX0 118 "ConfigSearch$Following" "BEHIND" "[I" ∈ wsX0_signIn := by decide +kernel
def X0_signIn_v (now rl : Nat → Int32) (tm sd : Nat) : Int32 := now ((((((rl 0).toNatClampNeg) * 10) + ((rl (beN ((4 * tm) + (2 * sd)))).toNatClampNeg)) * 10) + ((rl (beN (((4 * tm) + (2 * sd)) + 1))).toNatClampNeg))
set_option maxRecDepth 100000 in
set_option maxHeartbeats 4000000 in
theorem c_X0_signIn (G : zG) (ex : Bool) (g : Nat → va_E) (rows outc ts : Int32) (now rl : Nat → Int32) (tm sd : Nat) (ht : tm < 3) (hs : sd < 2) (hr : ∀ j, j < 5 → vp_in (rl j) 10) (h59 : g 59 = (oFol G rows outc ts)) (h64 : g 64 = (zI G 1000 now)) (h65 : g 65 = (zI G 5 rl)) : zC G yX0_signIn wsX0_signIn (zrm 1 22) ex [.ref (zB G + 59), .int (nI tm), .int (nI sd)] (zN, g) (fun r h => r = some (.int (X0_signIn_v now rl tm sd)) ∧ h = (zN, g)) := by
  refine zC_of mX0_signIn (lv := [some (.ref (zB G + 59)), some (.int (nI tm)), some (.int (nI sd)), none]) rfl rfl (by decide) (by intro v hv; simp at hv; rcases hv with rfl | rfl | rfl <;> rfl) (Nat.le_of_ble_eq_true rfl) rfl ?_
  refine z_0 ?_
  refine z_iconst (v := nI 4) dX0_signIn_0 rfl (by decide) ?_
  refine z_iload_n dX0_signIn_1 rfl rfl ?_
  refine z_imul dX0_signIn_2 rfl ?_
  refine z_iconst (v := nI 2) dX0_signIn_3 rfl (by decide) ?_
  refine z_iload_n dX0_signIn_4 rfl rfl ?_
  refine z_imul dX0_signIn_5 rfl ?_
  refine z_iadd dX0_signIn_6 rfl ?_
  refine z_top (show ((nI 4) * (nI tm)) + ((nI 2) * (nI sd)) = nI ((4 * tm) + (2 * sd)) from (zq_add (zq_mul rfl rfl) (zq_mul rfl rfl))) ?_
  refine z_istore_3 dX0_signIn_7 rfl ?_
  refine z_aload_n dX0_signIn_8 rfl rfl ?_
  refine z_get dX0_signIn_9 rfl hiX0_signIn_X0 7 lkX0_signIn_31 (Nat.le_of_ble_eq_true rfl) h59 rfl (by decide) rfl ?_
  refine z_aload_n dX0_signIn_12 rfl rfl ?_
  refine z_get dX0_signIn_13 rfl hiX0_signIn_X0 8 lkX0_signIn_34 (Nat.le_of_ble_eq_true rfl) h59 rfl (by decide) rfl ?_
  refine z_iconst (v := nI 0) dX0_signIn_16 rfl (by decide) ?_
  refine z_ialdN (j := 0) dX0_signIn_17 rfl (Nat.le_of_ble_eq_true rfl) h65 (rfl) (by omega) (by decide) ?_
  refine z_top (show rl 0 = nI ((rl 0).toNatClampNeg) from zvin (hr _ (by first | omega | exact beN_lt (by omega)))) ?_
  refine z_aload_n dX0_signIn_18 rfl rfl ?_
  refine z_get dX0_signIn_19 rfl hiX0_signIn_X0 8 lkX0_signIn_34 (Nat.le_of_ble_eq_true rfl) h59 rfl (by decide) rfl ?_
  refine z_gsB dX0_signIn_22 rfl lkX0_signIn_118 ?_
  refine z_iload_n dX0_signIn_25 rfl rfl ?_
  refine z_tBN (j := (4 * tm) + (2 * sd)) dX0_signIn_26 rfl (rfl) (by omega) ?_
  refine z_ialdN (j := beN ((4 * tm) + (2 * sd))) dX0_signIn_27 rfl (Nat.le_of_ble_eq_true rfl) h65 (rfl) (beN_lt (by omega)) (by decide) ?_
  refine z_top (show rl (beN ((4 * tm) + (2 * sd))) = nI ((rl (beN ((4 * tm) + (2 * sd)))).toNatClampNeg) from zvin (hr _ (by first | omega | exact beN_lt (by omega)))) ?_
  refine z_aload_n dX0_signIn_28 rfl rfl ?_
  refine z_get dX0_signIn_29 rfl hiX0_signIn_X0 8 lkX0_signIn_34 (Nat.le_of_ble_eq_true rfl) h59 rfl (by decide) rfl ?_
  refine z_gsB dX0_signIn_32 rfl lkX0_signIn_118 ?_
  refine z_iload_n dX0_signIn_35 rfl rfl ?_
  refine z_iconst (v := nI 1) dX0_signIn_36 rfl (by decide) ?_
  refine z_iadd dX0_signIn_37 rfl ?_
  refine z_tBN (j := ((4 * tm) + (2 * sd)) + 1) dX0_signIn_38 rfl ((zq_add rfl rfl)) (by omega) ?_
  refine z_ialdN (j := beN (((4 * tm) + (2 * sd)) + 1)) dX0_signIn_39 rfl (Nat.le_of_ble_eq_true rfl) h65 (rfl) (beN_lt (by omega)) (by decide) ?_
  refine z_top (show rl (beN (((4 * tm) + (2 * sd)) + 1)) = nI ((rl (beN (((4 * tm) + (2 * sd)) + 1))).toNatClampNeg) from zvin (hr _ (by first | omega | exact beN_lt (by omega)))) ?_
  refine z_callSi (c_X0_orderOf G ex _ ((rl 0).toNatClampNeg) ((rl (beN ((4 * tm) + (2 * sd)))).toNatClampNeg) ((rl (beN (((4 * tm) + (2 * sd)) + 1))).toNatClampNeg)) gX0_signIn_X0_orderOf rfl dX0_signIn_40 rfl rfl okk_X0_orderOf ⟨Nat.le_of_ble_eq_true rfl, Nat.le_of_ble_eq_true rfl⟩ ⟨Nat.le_of_ble_eq_true rfl, Nat.le_of_ble_eq_true rfl⟩ (Nat.le_of_ble_eq_true rfl) ?_
  refine z_ialdN (j := (((((rl 0).toNatClampNeg) * 10) + ((rl (beN ((4 * tm) + (2 * sd)))).toNatClampNeg)) * 10) + ((rl (beN (((4 * tm) + (2 * sd)) + 1))).toNatClampNeg)) dX0_signIn_43 rfl (Nat.le_of_ble_eq_true rfl) h64 (rfl) (ord_lt (zvlt (hr _ (by first | omega | exact beN_lt (by omega)))) (zvlt (hr _ (by first | omega | exact beN_lt (by omega)))) (zvlt (hr _ (by first | omega | exact beN_lt (by omega))))) (by decide) ?_
  exact z_ireturn dX0_signIn_44 rfl rfl (Nat.le_refl _) (Nat.le_refl _) (fun _ => rfl) ⟨by simp only [X0_signIn_v], rfl⟩
abbrev mX0_tell : zM := (cX0_tell, 9, (some .int), RX0, wsX0_tell, "tell")
theorem okk_X0_signIn : zOk yX0_signIn 2 := by unfold zOk; decide +kernel
theorem hiX0_tell_X0 : ∀ w ∈ wsX00, w ∈ wsX0_tell := fun w h => List.mem_cons_of_mem _ (List.mem_append_left _ (List.mem_append_right _ h))
theorem lkX0_tell_34 : Cond.fieldLink RX0 34 "ConfigSearch$Following" "relation" "[I" ∈ wsX0_tell := by decide +kernel
theorem lkX0_tell_118 : Cond.fieldLink RX0 118 "ConfigSearch$Following" "BEHIND" "[I" ∈ wsX0_tell := by decide +kernel
theorem lkX0_tell_79 : Cond.fieldLink RX0 79 "ConfigSearch$Following" "TERM_TURN" "[I" ∈ wsX0_tell := by decide +kernel
theorem okk_X5_turnOf : zOk yX5_turnOf 3 := by unfold zOk; decide +kernel
theorem lkX0_tell_40 : Cond.fieldLink RX0 40 "ConfigSearch$Following" "toldSign" "I" ∈ wsX0_tell := by decide +kernel
theorem lkX0_tell_37 : Cond.fieldLink RX0 37 "ConfigSearch$Following" "toldTriple" "[I" ∈ wsX0_tell := by decide +kernel
theorem meX0_tell_min1_127 : Cond.methodLink RX0 127 Lib.Math.min.name ∈ wsX0_tell := by decide +kernel
theorem meX0_tell_min2 : Cond.static Lib.Math.min.name ∈ wsX0_tell := by decide +kernel
theorem meX0_tell_math : Cond.initialized "java/lang/Math" ∈ wsX0_tell := by decide +kernel
theorem meX0_tell_min4 : Cond.code Lib.Math.min.name Lib.Math.min.code 2 (some .int) ∈ wsX0_tell := by decide +kernel
theorem meX0_tell_max1_132 : Cond.methodLink RX0 132 Lib.Math.max.name ∈ wsX0_tell := by decide +kernel
theorem meX0_tell_max2 : Cond.static Lib.Math.max.name ∈ wsX0_tell := by decide +kernel
theorem meX0_tell_max4 : Cond.code Lib.Math.max.name Lib.Math.max.code 2 (some .int) ∈ wsX0_tell := by decide +kernel
theorem lkX0_tell_43 : Cond.fieldLink RX0 43 "ConfigSearch$Following" "told" "LConfigSearch$Told;" ∈ wsX0_tell := by decide +kernel
theorem hiX0_tell_X5 : ∀ w ∈ wsX50, w ∈ wsX0_tell := fun w h => List.mem_cons_of_mem _ (List.mem_append_right _ h)
theorem lkX0_tell_135 : Cond.fieldLink RX0 135 "ConfigSearch$Told" "barred" "[Z" ∈ wsX0_tell := by decide +kernel
theorem okk_X5_spotOf : zOk yX5_spotOf 3 := by unfold zOk; decide +kernel
def X0_tell_v (now rl ba : Nat → Int32) (tm : Nat) (due : Int32) : Int32 := if (X0_signIn_v now rl tm 0) = (-4) then (if (X0_signIn_v now rl tm (1 - 0)) = 0 then (-4) else (if (((due * (ttI tm)) * (X0_signIn_v now rl tm (1 - 0))) * (X5_turnOf_v (nI ((rl 0).toNatClampNeg)) (nI ((rl (beN ((4 * tm) + (2 * 0)))).toNatClampNeg)) (nI ((rl (beN (((4 * tm) + (2 * 0)) + 1))).toNatClampNeg)))) = 0 then (if (ba (spN ((rl 0).toNatClampNeg) ((rl (beN ((4 * tm) + (2 * 0)))).toNatClampNeg) ((rl (beN (((4 * tm) + (2 * 0)) + 1))).toNatClampNeg))) = 0 then (nI 0) else (nI 2)) else (nI 0))) else (if (X0_signIn_v now rl tm (1 - 1)) = 0 then (-4) else (if (((due * (ttI tm)) * (X0_signIn_v now rl tm (1 - 1))) * (X5_turnOf_v (nI ((rl 0).toNatClampNeg)) (nI ((rl (beN ((4 * tm) + (2 * 1)))).toNatClampNeg)) (nI ((rl (beN (((4 * tm) + (2 * 1)) + 1))).toNatClampNeg)))) = 0 then (if (ba (spN ((rl 0).toNatClampNeg) ((rl (beN ((4 * tm) + (2 * 1)))).toNatClampNeg) ((rl (beN (((4 * tm) + (2 * 1)) + 1))).toNatClampNeg))) = 0 then (nI 0) else (nI 2)) else (nI 0)))
def X0_tell_p59_2 (ts : Int32) (now rl ba : Nat → Int32) (tm : Nat) (due : Int32) : Int32 := if (X0_signIn_v now rl tm 0) = (-4) then (if (X0_signIn_v now rl tm (1 - 0)) = 0 then ts else (if (((due * (ttI tm)) * (X0_signIn_v now rl tm (1 - 0))) * (X5_turnOf_v (nI ((rl 0).toNatClampNeg)) (nI ((rl (beN ((4 * tm) + (2 * 0)))).toNatClampNeg)) (nI ((rl (beN (((4 * tm) + (2 * 0)) + 1))).toNatClampNeg)))) = 0 then (if (ba (spN ((rl 0).toNatClampNeg) ((rl (beN ((4 * tm) + (2 * 0)))).toNatClampNeg) ((rl (beN (((4 * tm) + (2 * 0)) + 1))).toNatClampNeg))) = 0 then (((due * (ttI tm)) * (X0_signIn_v now rl tm (1 - 0))) * (X5_turnOf_v (nI ((rl 0).toNatClampNeg)) (nI ((rl (beN ((4 * tm) + (2 * 0)))).toNatClampNeg)) (nI ((rl (beN (((4 * tm) + (2 * 0)) + 1))).toNatClampNeg)))) else (((due * (ttI tm)) * (X0_signIn_v now rl tm (1 - 0))) * (X5_turnOf_v (nI ((rl 0).toNatClampNeg)) (nI ((rl (beN ((4 * tm) + (2 * 0)))).toNatClampNeg)) (nI ((rl (beN (((4 * tm) + (2 * 0)) + 1))).toNatClampNeg))))) else (((due * (ttI tm)) * (X0_signIn_v now rl tm (1 - 0))) * (X5_turnOf_v (nI ((rl 0).toNatClampNeg)) (nI ((rl (beN ((4 * tm) + (2 * 0)))).toNatClampNeg)) (nI ((rl (beN (((4 * tm) + (2 * 0)) + 1))).toNatClampNeg)))))) else (if (X0_signIn_v now rl tm (1 - 1)) = 0 then ts else (if (((due * (ttI tm)) * (X0_signIn_v now rl tm (1 - 1))) * (X5_turnOf_v (nI ((rl 0).toNatClampNeg)) (nI ((rl (beN ((4 * tm) + (2 * 1)))).toNatClampNeg)) (nI ((rl (beN (((4 * tm) + (2 * 1)) + 1))).toNatClampNeg)))) = 0 then (if (ba (spN ((rl 0).toNatClampNeg) ((rl (beN ((4 * tm) + (2 * 1)))).toNatClampNeg) ((rl (beN (((4 * tm) + (2 * 1)) + 1))).toNatClampNeg))) = 0 then (((due * (ttI tm)) * (X0_signIn_v now rl tm (1 - 1))) * (X5_turnOf_v (nI ((rl 0).toNatClampNeg)) (nI ((rl (beN ((4 * tm) + (2 * 1)))).toNatClampNeg)) (nI ((rl (beN (((4 * tm) + (2 * 1)) + 1))).toNatClampNeg)))) else (((due * (ttI tm)) * (X0_signIn_v now rl tm (1 - 1))) * (X5_turnOf_v (nI ((rl 0).toNatClampNeg)) (nI ((rl (beN ((4 * tm) + (2 * 1)))).toNatClampNeg)) (nI ((rl (beN (((4 * tm) + (2 * 1)) + 1))).toNatClampNeg))))) else (((due * (ttI tm)) * (X0_signIn_v now rl tm (1 - 1))) * (X5_turnOf_v (nI ((rl 0).toNatClampNeg)) (nI ((rl (beN ((4 * tm) + (2 * 1)))).toNatClampNeg)) (nI ((rl (beN (((4 * tm) + (2 * 1)) + 1))).toNatClampNeg))))))
def X0_tell_c66 (now rl tt ba : Nat → Int32) (tm : Nat) (due : Int32) : Nat → Int32 := if (X0_signIn_v now rl tm 0) = (-4) then (if (X0_signIn_v now rl tm (1 - 0)) = 0 then tt else (if (((due * (ttI tm)) * (X0_signIn_v now rl tm (1 - 0))) * (X5_turnOf_v (nI ((rl 0).toNatClampNeg)) (nI ((rl (beN ((4 * tm) + (2 * 0)))).toNatClampNeg)) (nI ((rl (beN (((4 * tm) + (2 * 0)) + 1))).toNatClampNeg)))) = 0 then (if (ba (spN ((rl 0).toNatClampNeg) ((rl (beN ((4 * tm) + (2 * 0)))).toNatClampNeg) ((rl (beN (((4 * tm) + (2 * 0)) + 1))).toNatClampNeg))) = 0 then (upd (upd (upd tt 0 (if (if (nI ((rl (beN (((4 * tm) + (2 * 0)) + 1))).toNatClampNeg)) < (nI ((rl (beN ((4 * tm) + (2 * 0)))).toNatClampNeg)) then (nI ((rl (beN (((4 * tm) + (2 * 0)) + 1))).toNatClampNeg)) else (nI ((rl (beN ((4 * tm) + (2 * 0)))).toNatClampNeg))) < (nI ((rl 0).toNatClampNeg)) then (if (nI ((rl (beN (((4 * tm) + (2 * 0)) + 1))).toNatClampNeg)) < (nI ((rl (beN ((4 * tm) + (2 * 0)))).toNatClampNeg)) then (nI ((rl (beN (((4 * tm) + (2 * 0)) + 1))).toNatClampNeg)) else (nI ((rl (beN ((4 * tm) + (2 * 0)))).toNatClampNeg))) else (nI ((rl 0).toNatClampNeg)))) 2 (if (nI ((rl 0).toNatClampNeg)) < (if (nI ((rl (beN ((4 * tm) + (2 * 0)))).toNatClampNeg)) < (nI ((rl (beN (((4 * tm) + (2 * 0)) + 1))).toNatClampNeg)) then (nI ((rl (beN (((4 * tm) + (2 * 0)) + 1))).toNatClampNeg)) else (nI ((rl (beN ((4 * tm) + (2 * 0)))).toNatClampNeg))) then (if (nI ((rl (beN ((4 * tm) + (2 * 0)))).toNatClampNeg)) < (nI ((rl (beN (((4 * tm) + (2 * 0)) + 1))).toNatClampNeg)) then (nI ((rl (beN (((4 * tm) + (2 * 0)) + 1))).toNatClampNeg)) else (nI ((rl (beN ((4 * tm) + (2 * 0)))).toNatClampNeg))) else (nI ((rl 0).toNatClampNeg)))) 1 (((((nI ((rl 0).toNatClampNeg)) + (nI ((rl (beN ((4 * tm) + (2 * 0)))).toNatClampNeg))) + (nI ((rl (beN (((4 * tm) + (2 * 0)) + 1))).toNatClampNeg))) - ((upd (upd tt 0 (if (if (nI ((rl (beN (((4 * tm) + (2 * 0)) + 1))).toNatClampNeg)) < (nI ((rl (beN ((4 * tm) + (2 * 0)))).toNatClampNeg)) then (nI ((rl (beN (((4 * tm) + (2 * 0)) + 1))).toNatClampNeg)) else (nI ((rl (beN ((4 * tm) + (2 * 0)))).toNatClampNeg))) < (nI ((rl 0).toNatClampNeg)) then (if (nI ((rl (beN (((4 * tm) + (2 * 0)) + 1))).toNatClampNeg)) < (nI ((rl (beN ((4 * tm) + (2 * 0)))).toNatClampNeg)) then (nI ((rl (beN (((4 * tm) + (2 * 0)) + 1))).toNatClampNeg)) else (nI ((rl (beN ((4 * tm) + (2 * 0)))).toNatClampNeg))) else (nI ((rl 0).toNatClampNeg)))) 2 (if (nI ((rl 0).toNatClampNeg)) < (if (nI ((rl (beN ((4 * tm) + (2 * 0)))).toNatClampNeg)) < (nI ((rl (beN (((4 * tm) + (2 * 0)) + 1))).toNatClampNeg)) then (nI ((rl (beN (((4 * tm) + (2 * 0)) + 1))).toNatClampNeg)) else (nI ((rl (beN ((4 * tm) + (2 * 0)))).toNatClampNeg))) then (if (nI ((rl (beN ((4 * tm) + (2 * 0)))).toNatClampNeg)) < (nI ((rl (beN (((4 * tm) + (2 * 0)) + 1))).toNatClampNeg)) then (nI ((rl (beN (((4 * tm) + (2 * 0)) + 1))).toNatClampNeg)) else (nI ((rl (beN ((4 * tm) + (2 * 0)))).toNatClampNeg))) else (nI ((rl 0).toNatClampNeg)))) 0)) - ((upd (upd tt 0 (if (if (nI ((rl (beN (((4 * tm) + (2 * 0)) + 1))).toNatClampNeg)) < (nI ((rl (beN ((4 * tm) + (2 * 0)))).toNatClampNeg)) then (nI ((rl (beN (((4 * tm) + (2 * 0)) + 1))).toNatClampNeg)) else (nI ((rl (beN ((4 * tm) + (2 * 0)))).toNatClampNeg))) < (nI ((rl 0).toNatClampNeg)) then (if (nI ((rl (beN (((4 * tm) + (2 * 0)) + 1))).toNatClampNeg)) < (nI ((rl (beN ((4 * tm) + (2 * 0)))).toNatClampNeg)) then (nI ((rl (beN (((4 * tm) + (2 * 0)) + 1))).toNatClampNeg)) else (nI ((rl (beN ((4 * tm) + (2 * 0)))).toNatClampNeg))) else (nI ((rl 0).toNatClampNeg)))) 2 (if (nI ((rl 0).toNatClampNeg)) < (if (nI ((rl (beN ((4 * tm) + (2 * 0)))).toNatClampNeg)) < (nI ((rl (beN (((4 * tm) + (2 * 0)) + 1))).toNatClampNeg)) then (nI ((rl (beN (((4 * tm) + (2 * 0)) + 1))).toNatClampNeg)) else (nI ((rl (beN ((4 * tm) + (2 * 0)))).toNatClampNeg))) then (if (nI ((rl (beN ((4 * tm) + (2 * 0)))).toNatClampNeg)) < (nI ((rl (beN (((4 * tm) + (2 * 0)) + 1))).toNatClampNeg)) then (nI ((rl (beN (((4 * tm) + (2 * 0)) + 1))).toNatClampNeg)) else (nI ((rl (beN ((4 * tm) + (2 * 0)))).toNatClampNeg))) else (nI ((rl 0).toNatClampNeg)))) 2))) else (upd (upd (upd tt 0 (if (if (nI ((rl (beN (((4 * tm) + (2 * 0)) + 1))).toNatClampNeg)) < (nI ((rl (beN ((4 * tm) + (2 * 0)))).toNatClampNeg)) then (nI ((rl (beN (((4 * tm) + (2 * 0)) + 1))).toNatClampNeg)) else (nI ((rl (beN ((4 * tm) + (2 * 0)))).toNatClampNeg))) < (nI ((rl 0).toNatClampNeg)) then (if (nI ((rl (beN (((4 * tm) + (2 * 0)) + 1))).toNatClampNeg)) < (nI ((rl (beN ((4 * tm) + (2 * 0)))).toNatClampNeg)) then (nI ((rl (beN (((4 * tm) + (2 * 0)) + 1))).toNatClampNeg)) else (nI ((rl (beN ((4 * tm) + (2 * 0)))).toNatClampNeg))) else (nI ((rl 0).toNatClampNeg)))) 2 (if (nI ((rl 0).toNatClampNeg)) < (if (nI ((rl (beN ((4 * tm) + (2 * 0)))).toNatClampNeg)) < (nI ((rl (beN (((4 * tm) + (2 * 0)) + 1))).toNatClampNeg)) then (nI ((rl (beN (((4 * tm) + (2 * 0)) + 1))).toNatClampNeg)) else (nI ((rl (beN ((4 * tm) + (2 * 0)))).toNatClampNeg))) then (if (nI ((rl (beN ((4 * tm) + (2 * 0)))).toNatClampNeg)) < (nI ((rl (beN (((4 * tm) + (2 * 0)) + 1))).toNatClampNeg)) then (nI ((rl (beN (((4 * tm) + (2 * 0)) + 1))).toNatClampNeg)) else (nI ((rl (beN ((4 * tm) + (2 * 0)))).toNatClampNeg))) else (nI ((rl 0).toNatClampNeg)))) 1 (((((nI ((rl 0).toNatClampNeg)) + (nI ((rl (beN ((4 * tm) + (2 * 0)))).toNatClampNeg))) + (nI ((rl (beN (((4 * tm) + (2 * 0)) + 1))).toNatClampNeg))) - ((upd (upd tt 0 (if (if (nI ((rl (beN (((4 * tm) + (2 * 0)) + 1))).toNatClampNeg)) < (nI ((rl (beN ((4 * tm) + (2 * 0)))).toNatClampNeg)) then (nI ((rl (beN (((4 * tm) + (2 * 0)) + 1))).toNatClampNeg)) else (nI ((rl (beN ((4 * tm) + (2 * 0)))).toNatClampNeg))) < (nI ((rl 0).toNatClampNeg)) then (if (nI ((rl (beN (((4 * tm) + (2 * 0)) + 1))).toNatClampNeg)) < (nI ((rl (beN ((4 * tm) + (2 * 0)))).toNatClampNeg)) then (nI ((rl (beN (((4 * tm) + (2 * 0)) + 1))).toNatClampNeg)) else (nI ((rl (beN ((4 * tm) + (2 * 0)))).toNatClampNeg))) else (nI ((rl 0).toNatClampNeg)))) 2 (if (nI ((rl 0).toNatClampNeg)) < (if (nI ((rl (beN ((4 * tm) + (2 * 0)))).toNatClampNeg)) < (nI ((rl (beN (((4 * tm) + (2 * 0)) + 1))).toNatClampNeg)) then (nI ((rl (beN (((4 * tm) + (2 * 0)) + 1))).toNatClampNeg)) else (nI ((rl (beN ((4 * tm) + (2 * 0)))).toNatClampNeg))) then (if (nI ((rl (beN ((4 * tm) + (2 * 0)))).toNatClampNeg)) < (nI ((rl (beN (((4 * tm) + (2 * 0)) + 1))).toNatClampNeg)) then (nI ((rl (beN (((4 * tm) + (2 * 0)) + 1))).toNatClampNeg)) else (nI ((rl (beN ((4 * tm) + (2 * 0)))).toNatClampNeg))) else (nI ((rl 0).toNatClampNeg)))) 0)) - ((upd (upd tt 0 (if (if (nI ((rl (beN (((4 * tm) + (2 * 0)) + 1))).toNatClampNeg)) < (nI ((rl (beN ((4 * tm) + (2 * 0)))).toNatClampNeg)) then (nI ((rl (beN (((4 * tm) + (2 * 0)) + 1))).toNatClampNeg)) else (nI ((rl (beN ((4 * tm) + (2 * 0)))).toNatClampNeg))) < (nI ((rl 0).toNatClampNeg)) then (if (nI ((rl (beN (((4 * tm) + (2 * 0)) + 1))).toNatClampNeg)) < (nI ((rl (beN ((4 * tm) + (2 * 0)))).toNatClampNeg)) then (nI ((rl (beN (((4 * tm) + (2 * 0)) + 1))).toNatClampNeg)) else (nI ((rl (beN ((4 * tm) + (2 * 0)))).toNatClampNeg))) else (nI ((rl 0).toNatClampNeg)))) 2 (if (nI ((rl 0).toNatClampNeg)) < (if (nI ((rl (beN ((4 * tm) + (2 * 0)))).toNatClampNeg)) < (nI ((rl (beN (((4 * tm) + (2 * 0)) + 1))).toNatClampNeg)) then (nI ((rl (beN (((4 * tm) + (2 * 0)) + 1))).toNatClampNeg)) else (nI ((rl (beN ((4 * tm) + (2 * 0)))).toNatClampNeg))) then (if (nI ((rl (beN ((4 * tm) + (2 * 0)))).toNatClampNeg)) < (nI ((rl (beN (((4 * tm) + (2 * 0)) + 1))).toNatClampNeg)) then (nI ((rl (beN (((4 * tm) + (2 * 0)) + 1))).toNatClampNeg)) else (nI ((rl (beN ((4 * tm) + (2 * 0)))).toNatClampNeg))) else (nI ((rl 0).toNatClampNeg)))) 2)))) else (upd (upd (upd tt 0 (if (if (nI ((rl (beN (((4 * tm) + (2 * 0)) + 1))).toNatClampNeg)) < (nI ((rl (beN ((4 * tm) + (2 * 0)))).toNatClampNeg)) then (nI ((rl (beN (((4 * tm) + (2 * 0)) + 1))).toNatClampNeg)) else (nI ((rl (beN ((4 * tm) + (2 * 0)))).toNatClampNeg))) < (nI ((rl 0).toNatClampNeg)) then (if (nI ((rl (beN (((4 * tm) + (2 * 0)) + 1))).toNatClampNeg)) < (nI ((rl (beN ((4 * tm) + (2 * 0)))).toNatClampNeg)) then (nI ((rl (beN (((4 * tm) + (2 * 0)) + 1))).toNatClampNeg)) else (nI ((rl (beN ((4 * tm) + (2 * 0)))).toNatClampNeg))) else (nI ((rl 0).toNatClampNeg)))) 2 (if (nI ((rl 0).toNatClampNeg)) < (if (nI ((rl (beN ((4 * tm) + (2 * 0)))).toNatClampNeg)) < (nI ((rl (beN (((4 * tm) + (2 * 0)) + 1))).toNatClampNeg)) then (nI ((rl (beN (((4 * tm) + (2 * 0)) + 1))).toNatClampNeg)) else (nI ((rl (beN ((4 * tm) + (2 * 0)))).toNatClampNeg))) then (if (nI ((rl (beN ((4 * tm) + (2 * 0)))).toNatClampNeg)) < (nI ((rl (beN (((4 * tm) + (2 * 0)) + 1))).toNatClampNeg)) then (nI ((rl (beN (((4 * tm) + (2 * 0)) + 1))).toNatClampNeg)) else (nI ((rl (beN ((4 * tm) + (2 * 0)))).toNatClampNeg))) else (nI ((rl 0).toNatClampNeg)))) 1 (((((nI ((rl 0).toNatClampNeg)) + (nI ((rl (beN ((4 * tm) + (2 * 0)))).toNatClampNeg))) + (nI ((rl (beN (((4 * tm) + (2 * 0)) + 1))).toNatClampNeg))) - ((upd (upd tt 0 (if (if (nI ((rl (beN (((4 * tm) + (2 * 0)) + 1))).toNatClampNeg)) < (nI ((rl (beN ((4 * tm) + (2 * 0)))).toNatClampNeg)) then (nI ((rl (beN (((4 * tm) + (2 * 0)) + 1))).toNatClampNeg)) else (nI ((rl (beN ((4 * tm) + (2 * 0)))).toNatClampNeg))) < (nI ((rl 0).toNatClampNeg)) then (if (nI ((rl (beN (((4 * tm) + (2 * 0)) + 1))).toNatClampNeg)) < (nI ((rl (beN ((4 * tm) + (2 * 0)))).toNatClampNeg)) then (nI ((rl (beN (((4 * tm) + (2 * 0)) + 1))).toNatClampNeg)) else (nI ((rl (beN ((4 * tm) + (2 * 0)))).toNatClampNeg))) else (nI ((rl 0).toNatClampNeg)))) 2 (if (nI ((rl 0).toNatClampNeg)) < (if (nI ((rl (beN ((4 * tm) + (2 * 0)))).toNatClampNeg)) < (nI ((rl (beN (((4 * tm) + (2 * 0)) + 1))).toNatClampNeg)) then (nI ((rl (beN (((4 * tm) + (2 * 0)) + 1))).toNatClampNeg)) else (nI ((rl (beN ((4 * tm) + (2 * 0)))).toNatClampNeg))) then (if (nI ((rl (beN ((4 * tm) + (2 * 0)))).toNatClampNeg)) < (nI ((rl (beN (((4 * tm) + (2 * 0)) + 1))).toNatClampNeg)) then (nI ((rl (beN (((4 * tm) + (2 * 0)) + 1))).toNatClampNeg)) else (nI ((rl (beN ((4 * tm) + (2 * 0)))).toNatClampNeg))) else (nI ((rl 0).toNatClampNeg)))) 0)) - ((upd (upd tt 0 (if (if (nI ((rl (beN (((4 * tm) + (2 * 0)) + 1))).toNatClampNeg)) < (nI ((rl (beN ((4 * tm) + (2 * 0)))).toNatClampNeg)) then (nI ((rl (beN (((4 * tm) + (2 * 0)) + 1))).toNatClampNeg)) else (nI ((rl (beN ((4 * tm) + (2 * 0)))).toNatClampNeg))) < (nI ((rl 0).toNatClampNeg)) then (if (nI ((rl (beN (((4 * tm) + (2 * 0)) + 1))).toNatClampNeg)) < (nI ((rl (beN ((4 * tm) + (2 * 0)))).toNatClampNeg)) then (nI ((rl (beN (((4 * tm) + (2 * 0)) + 1))).toNatClampNeg)) else (nI ((rl (beN ((4 * tm) + (2 * 0)))).toNatClampNeg))) else (nI ((rl 0).toNatClampNeg)))) 2 (if (nI ((rl 0).toNatClampNeg)) < (if (nI ((rl (beN ((4 * tm) + (2 * 0)))).toNatClampNeg)) < (nI ((rl (beN (((4 * tm) + (2 * 0)) + 1))).toNatClampNeg)) then (nI ((rl (beN (((4 * tm) + (2 * 0)) + 1))).toNatClampNeg)) else (nI ((rl (beN ((4 * tm) + (2 * 0)))).toNatClampNeg))) then (if (nI ((rl (beN ((4 * tm) + (2 * 0)))).toNatClampNeg)) < (nI ((rl (beN (((4 * tm) + (2 * 0)) + 1))).toNatClampNeg)) then (nI ((rl (beN (((4 * tm) + (2 * 0)) + 1))).toNatClampNeg)) else (nI ((rl (beN ((4 * tm) + (2 * 0)))).toNatClampNeg))) else (nI ((rl 0).toNatClampNeg)))) 2))))) else (if (X0_signIn_v now rl tm (1 - 1)) = 0 then tt else (if (((due * (ttI tm)) * (X0_signIn_v now rl tm (1 - 1))) * (X5_turnOf_v (nI ((rl 0).toNatClampNeg)) (nI ((rl (beN ((4 * tm) + (2 * 1)))).toNatClampNeg)) (nI ((rl (beN (((4 * tm) + (2 * 1)) + 1))).toNatClampNeg)))) = 0 then (if (ba (spN ((rl 0).toNatClampNeg) ((rl (beN ((4 * tm) + (2 * 1)))).toNatClampNeg) ((rl (beN (((4 * tm) + (2 * 1)) + 1))).toNatClampNeg))) = 0 then (upd (upd (upd tt 0 (if (if (nI ((rl (beN (((4 * tm) + (2 * 1)) + 1))).toNatClampNeg)) < (nI ((rl (beN ((4 * tm) + (2 * 1)))).toNatClampNeg)) then (nI ((rl (beN (((4 * tm) + (2 * 1)) + 1))).toNatClampNeg)) else (nI ((rl (beN ((4 * tm) + (2 * 1)))).toNatClampNeg))) < (nI ((rl 0).toNatClampNeg)) then (if (nI ((rl (beN (((4 * tm) + (2 * 1)) + 1))).toNatClampNeg)) < (nI ((rl (beN ((4 * tm) + (2 * 1)))).toNatClampNeg)) then (nI ((rl (beN (((4 * tm) + (2 * 1)) + 1))).toNatClampNeg)) else (nI ((rl (beN ((4 * tm) + (2 * 1)))).toNatClampNeg))) else (nI ((rl 0).toNatClampNeg)))) 2 (if (nI ((rl 0).toNatClampNeg)) < (if (nI ((rl (beN ((4 * tm) + (2 * 1)))).toNatClampNeg)) < (nI ((rl (beN (((4 * tm) + (2 * 1)) + 1))).toNatClampNeg)) then (nI ((rl (beN (((4 * tm) + (2 * 1)) + 1))).toNatClampNeg)) else (nI ((rl (beN ((4 * tm) + (2 * 1)))).toNatClampNeg))) then (if (nI ((rl (beN ((4 * tm) + (2 * 1)))).toNatClampNeg)) < (nI ((rl (beN (((4 * tm) + (2 * 1)) + 1))).toNatClampNeg)) then (nI ((rl (beN (((4 * tm) + (2 * 1)) + 1))).toNatClampNeg)) else (nI ((rl (beN ((4 * tm) + (2 * 1)))).toNatClampNeg))) else (nI ((rl 0).toNatClampNeg)))) 1 (((((nI ((rl 0).toNatClampNeg)) + (nI ((rl (beN ((4 * tm) + (2 * 1)))).toNatClampNeg))) + (nI ((rl (beN (((4 * tm) + (2 * 1)) + 1))).toNatClampNeg))) - ((upd (upd tt 0 (if (if (nI ((rl (beN (((4 * tm) + (2 * 1)) + 1))).toNatClampNeg)) < (nI ((rl (beN ((4 * tm) + (2 * 1)))).toNatClampNeg)) then (nI ((rl (beN (((4 * tm) + (2 * 1)) + 1))).toNatClampNeg)) else (nI ((rl (beN ((4 * tm) + (2 * 1)))).toNatClampNeg))) < (nI ((rl 0).toNatClampNeg)) then (if (nI ((rl (beN (((4 * tm) + (2 * 1)) + 1))).toNatClampNeg)) < (nI ((rl (beN ((4 * tm) + (2 * 1)))).toNatClampNeg)) then (nI ((rl (beN (((4 * tm) + (2 * 1)) + 1))).toNatClampNeg)) else (nI ((rl (beN ((4 * tm) + (2 * 1)))).toNatClampNeg))) else (nI ((rl 0).toNatClampNeg)))) 2 (if (nI ((rl 0).toNatClampNeg)) < (if (nI ((rl (beN ((4 * tm) + (2 * 1)))).toNatClampNeg)) < (nI ((rl (beN (((4 * tm) + (2 * 1)) + 1))).toNatClampNeg)) then (nI ((rl (beN (((4 * tm) + (2 * 1)) + 1))).toNatClampNeg)) else (nI ((rl (beN ((4 * tm) + (2 * 1)))).toNatClampNeg))) then (if (nI ((rl (beN ((4 * tm) + (2 * 1)))).toNatClampNeg)) < (nI ((rl (beN (((4 * tm) + (2 * 1)) + 1))).toNatClampNeg)) then (nI ((rl (beN (((4 * tm) + (2 * 1)) + 1))).toNatClampNeg)) else (nI ((rl (beN ((4 * tm) + (2 * 1)))).toNatClampNeg))) else (nI ((rl 0).toNatClampNeg)))) 0)) - ((upd (upd tt 0 (if (if (nI ((rl (beN (((4 * tm) + (2 * 1)) + 1))).toNatClampNeg)) < (nI ((rl (beN ((4 * tm) + (2 * 1)))).toNatClampNeg)) then (nI ((rl (beN (((4 * tm) + (2 * 1)) + 1))).toNatClampNeg)) else (nI ((rl (beN ((4 * tm) + (2 * 1)))).toNatClampNeg))) < (nI ((rl 0).toNatClampNeg)) then (if (nI ((rl (beN (((4 * tm) + (2 * 1)) + 1))).toNatClampNeg)) < (nI ((rl (beN ((4 * tm) + (2 * 1)))).toNatClampNeg)) then (nI ((rl (beN (((4 * tm) + (2 * 1)) + 1))).toNatClampNeg)) else (nI ((rl (beN ((4 * tm) + (2 * 1)))).toNatClampNeg))) else (nI ((rl 0).toNatClampNeg)))) 2 (if (nI ((rl 0).toNatClampNeg)) < (if (nI ((rl (beN ((4 * tm) + (2 * 1)))).toNatClampNeg)) < (nI ((rl (beN (((4 * tm) + (2 * 1)) + 1))).toNatClampNeg)) then (nI ((rl (beN (((4 * tm) + (2 * 1)) + 1))).toNatClampNeg)) else (nI ((rl (beN ((4 * tm) + (2 * 1)))).toNatClampNeg))) then (if (nI ((rl (beN ((4 * tm) + (2 * 1)))).toNatClampNeg)) < (nI ((rl (beN (((4 * tm) + (2 * 1)) + 1))).toNatClampNeg)) then (nI ((rl (beN (((4 * tm) + (2 * 1)) + 1))).toNatClampNeg)) else (nI ((rl (beN ((4 * tm) + (2 * 1)))).toNatClampNeg))) else (nI ((rl 0).toNatClampNeg)))) 2))) else (upd (upd (upd tt 0 (if (if (nI ((rl (beN (((4 * tm) + (2 * 1)) + 1))).toNatClampNeg)) < (nI ((rl (beN ((4 * tm) + (2 * 1)))).toNatClampNeg)) then (nI ((rl (beN (((4 * tm) + (2 * 1)) + 1))).toNatClampNeg)) else (nI ((rl (beN ((4 * tm) + (2 * 1)))).toNatClampNeg))) < (nI ((rl 0).toNatClampNeg)) then (if (nI ((rl (beN (((4 * tm) + (2 * 1)) + 1))).toNatClampNeg)) < (nI ((rl (beN ((4 * tm) + (2 * 1)))).toNatClampNeg)) then (nI ((rl (beN (((4 * tm) + (2 * 1)) + 1))).toNatClampNeg)) else (nI ((rl (beN ((4 * tm) + (2 * 1)))).toNatClampNeg))) else (nI ((rl 0).toNatClampNeg)))) 2 (if (nI ((rl 0).toNatClampNeg)) < (if (nI ((rl (beN ((4 * tm) + (2 * 1)))).toNatClampNeg)) < (nI ((rl (beN (((4 * tm) + (2 * 1)) + 1))).toNatClampNeg)) then (nI ((rl (beN (((4 * tm) + (2 * 1)) + 1))).toNatClampNeg)) else (nI ((rl (beN ((4 * tm) + (2 * 1)))).toNatClampNeg))) then (if (nI ((rl (beN ((4 * tm) + (2 * 1)))).toNatClampNeg)) < (nI ((rl (beN (((4 * tm) + (2 * 1)) + 1))).toNatClampNeg)) then (nI ((rl (beN (((4 * tm) + (2 * 1)) + 1))).toNatClampNeg)) else (nI ((rl (beN ((4 * tm) + (2 * 1)))).toNatClampNeg))) else (nI ((rl 0).toNatClampNeg)))) 1 (((((nI ((rl 0).toNatClampNeg)) + (nI ((rl (beN ((4 * tm) + (2 * 1)))).toNatClampNeg))) + (nI ((rl (beN (((4 * tm) + (2 * 1)) + 1))).toNatClampNeg))) - ((upd (upd tt 0 (if (if (nI ((rl (beN (((4 * tm) + (2 * 1)) + 1))).toNatClampNeg)) < (nI ((rl (beN ((4 * tm) + (2 * 1)))).toNatClampNeg)) then (nI ((rl (beN (((4 * tm) + (2 * 1)) + 1))).toNatClampNeg)) else (nI ((rl (beN ((4 * tm) + (2 * 1)))).toNatClampNeg))) < (nI ((rl 0).toNatClampNeg)) then (if (nI ((rl (beN (((4 * tm) + (2 * 1)) + 1))).toNatClampNeg)) < (nI ((rl (beN ((4 * tm) + (2 * 1)))).toNatClampNeg)) then (nI ((rl (beN (((4 * tm) + (2 * 1)) + 1))).toNatClampNeg)) else (nI ((rl (beN ((4 * tm) + (2 * 1)))).toNatClampNeg))) else (nI ((rl 0).toNatClampNeg)))) 2 (if (nI ((rl 0).toNatClampNeg)) < (if (nI ((rl (beN ((4 * tm) + (2 * 1)))).toNatClampNeg)) < (nI ((rl (beN (((4 * tm) + (2 * 1)) + 1))).toNatClampNeg)) then (nI ((rl (beN (((4 * tm) + (2 * 1)) + 1))).toNatClampNeg)) else (nI ((rl (beN ((4 * tm) + (2 * 1)))).toNatClampNeg))) then (if (nI ((rl (beN ((4 * tm) + (2 * 1)))).toNatClampNeg)) < (nI ((rl (beN (((4 * tm) + (2 * 1)) + 1))).toNatClampNeg)) then (nI ((rl (beN (((4 * tm) + (2 * 1)) + 1))).toNatClampNeg)) else (nI ((rl (beN ((4 * tm) + (2 * 1)))).toNatClampNeg))) else (nI ((rl 0).toNatClampNeg)))) 0)) - ((upd (upd tt 0 (if (if (nI ((rl (beN (((4 * tm) + (2 * 1)) + 1))).toNatClampNeg)) < (nI ((rl (beN ((4 * tm) + (2 * 1)))).toNatClampNeg)) then (nI ((rl (beN (((4 * tm) + (2 * 1)) + 1))).toNatClampNeg)) else (nI ((rl (beN ((4 * tm) + (2 * 1)))).toNatClampNeg))) < (nI ((rl 0).toNatClampNeg)) then (if (nI ((rl (beN (((4 * tm) + (2 * 1)) + 1))).toNatClampNeg)) < (nI ((rl (beN ((4 * tm) + (2 * 1)))).toNatClampNeg)) then (nI ((rl (beN (((4 * tm) + (2 * 1)) + 1))).toNatClampNeg)) else (nI ((rl (beN ((4 * tm) + (2 * 1)))).toNatClampNeg))) else (nI ((rl 0).toNatClampNeg)))) 2 (if (nI ((rl 0).toNatClampNeg)) < (if (nI ((rl (beN ((4 * tm) + (2 * 1)))).toNatClampNeg)) < (nI ((rl (beN (((4 * tm) + (2 * 1)) + 1))).toNatClampNeg)) then (nI ((rl (beN (((4 * tm) + (2 * 1)) + 1))).toNatClampNeg)) else (nI ((rl (beN ((4 * tm) + (2 * 1)))).toNatClampNeg))) then (if (nI ((rl (beN ((4 * tm) + (2 * 1)))).toNatClampNeg)) < (nI ((rl (beN (((4 * tm) + (2 * 1)) + 1))).toNatClampNeg)) then (nI ((rl (beN (((4 * tm) + (2 * 1)) + 1))).toNatClampNeg)) else (nI ((rl (beN ((4 * tm) + (2 * 1)))).toNatClampNeg))) else (nI ((rl 0).toNatClampNeg)))) 2)))) else (upd (upd (upd tt 0 (if (if (nI ((rl (beN (((4 * tm) + (2 * 1)) + 1))).toNatClampNeg)) < (nI ((rl (beN ((4 * tm) + (2 * 1)))).toNatClampNeg)) then (nI ((rl (beN (((4 * tm) + (2 * 1)) + 1))).toNatClampNeg)) else (nI ((rl (beN ((4 * tm) + (2 * 1)))).toNatClampNeg))) < (nI ((rl 0).toNatClampNeg)) then (if (nI ((rl (beN (((4 * tm) + (2 * 1)) + 1))).toNatClampNeg)) < (nI ((rl (beN ((4 * tm) + (2 * 1)))).toNatClampNeg)) then (nI ((rl (beN (((4 * tm) + (2 * 1)) + 1))).toNatClampNeg)) else (nI ((rl (beN ((4 * tm) + (2 * 1)))).toNatClampNeg))) else (nI ((rl 0).toNatClampNeg)))) 2 (if (nI ((rl 0).toNatClampNeg)) < (if (nI ((rl (beN ((4 * tm) + (2 * 1)))).toNatClampNeg)) < (nI ((rl (beN (((4 * tm) + (2 * 1)) + 1))).toNatClampNeg)) then (nI ((rl (beN (((4 * tm) + (2 * 1)) + 1))).toNatClampNeg)) else (nI ((rl (beN ((4 * tm) + (2 * 1)))).toNatClampNeg))) then (if (nI ((rl (beN ((4 * tm) + (2 * 1)))).toNatClampNeg)) < (nI ((rl (beN (((4 * tm) + (2 * 1)) + 1))).toNatClampNeg)) then (nI ((rl (beN (((4 * tm) + (2 * 1)) + 1))).toNatClampNeg)) else (nI ((rl (beN ((4 * tm) + (2 * 1)))).toNatClampNeg))) else (nI ((rl 0).toNatClampNeg)))) 1 (((((nI ((rl 0).toNatClampNeg)) + (nI ((rl (beN ((4 * tm) + (2 * 1)))).toNatClampNeg))) + (nI ((rl (beN (((4 * tm) + (2 * 1)) + 1))).toNatClampNeg))) - ((upd (upd tt 0 (if (if (nI ((rl (beN (((4 * tm) + (2 * 1)) + 1))).toNatClampNeg)) < (nI ((rl (beN ((4 * tm) + (2 * 1)))).toNatClampNeg)) then (nI ((rl (beN (((4 * tm) + (2 * 1)) + 1))).toNatClampNeg)) else (nI ((rl (beN ((4 * tm) + (2 * 1)))).toNatClampNeg))) < (nI ((rl 0).toNatClampNeg)) then (if (nI ((rl (beN (((4 * tm) + (2 * 1)) + 1))).toNatClampNeg)) < (nI ((rl (beN ((4 * tm) + (2 * 1)))).toNatClampNeg)) then (nI ((rl (beN (((4 * tm) + (2 * 1)) + 1))).toNatClampNeg)) else (nI ((rl (beN ((4 * tm) + (2 * 1)))).toNatClampNeg))) else (nI ((rl 0).toNatClampNeg)))) 2 (if (nI ((rl 0).toNatClampNeg)) < (if (nI ((rl (beN ((4 * tm) + (2 * 1)))).toNatClampNeg)) < (nI ((rl (beN (((4 * tm) + (2 * 1)) + 1))).toNatClampNeg)) then (nI ((rl (beN (((4 * tm) + (2 * 1)) + 1))).toNatClampNeg)) else (nI ((rl (beN ((4 * tm) + (2 * 1)))).toNatClampNeg))) then (if (nI ((rl (beN ((4 * tm) + (2 * 1)))).toNatClampNeg)) < (nI ((rl (beN (((4 * tm) + (2 * 1)) + 1))).toNatClampNeg)) then (nI ((rl (beN (((4 * tm) + (2 * 1)) + 1))).toNatClampNeg)) else (nI ((rl (beN ((4 * tm) + (2 * 1)))).toNatClampNeg))) else (nI ((rl 0).toNatClampNeg)))) 0)) - ((upd (upd tt 0 (if (if (nI ((rl (beN (((4 * tm) + (2 * 1)) + 1))).toNatClampNeg)) < (nI ((rl (beN ((4 * tm) + (2 * 1)))).toNatClampNeg)) then (nI ((rl (beN (((4 * tm) + (2 * 1)) + 1))).toNatClampNeg)) else (nI ((rl (beN ((4 * tm) + (2 * 1)))).toNatClampNeg))) < (nI ((rl 0).toNatClampNeg)) then (if (nI ((rl (beN (((4 * tm) + (2 * 1)) + 1))).toNatClampNeg)) < (nI ((rl (beN ((4 * tm) + (2 * 1)))).toNatClampNeg)) then (nI ((rl (beN (((4 * tm) + (2 * 1)) + 1))).toNatClampNeg)) else (nI ((rl (beN ((4 * tm) + (2 * 1)))).toNatClampNeg))) else (nI ((rl 0).toNatClampNeg)))) 2 (if (nI ((rl 0).toNatClampNeg)) < (if (nI ((rl (beN ((4 * tm) + (2 * 1)))).toNatClampNeg)) < (nI ((rl (beN (((4 * tm) + (2 * 1)) + 1))).toNatClampNeg)) then (nI ((rl (beN (((4 * tm) + (2 * 1)) + 1))).toNatClampNeg)) else (nI ((rl (beN ((4 * tm) + (2 * 1)))).toNatClampNeg))) then (if (nI ((rl (beN ((4 * tm) + (2 * 1)))).toNatClampNeg)) < (nI ((rl (beN (((4 * tm) + (2 * 1)) + 1))).toNatClampNeg)) then (nI ((rl (beN (((4 * tm) + (2 * 1)) + 1))).toNatClampNeg)) else (nI ((rl (beN ((4 * tm) + (2 * 1)))).toNatClampNeg))) else (nI ((rl 0).toNatClampNeg)))) 2)))))
set_option maxRecDepth 100000 in
set_option maxHeartbeats 4000000 in
theorem c_X0_tell (G : zG) (ex : Bool) (g : Nat → va_E) (rows outc ts : Int32) (bo oo : Int32) (now rl tt ba : Nat → Int32) (tm : Nat) (due : Int32) (ht : tm < 3) (hr : ∀ j, j < 5 → vp_in (rl j) 10) (hrd : ∀ i j, i < 5 → j < 5 → i ≠ j → (rl i).toNatClampNeg ≠ (rl j).toNatClampNeg) (h59 : g 59 = (oFol G rows outc ts)) (h64 : g 64 = (zI G 1000 now)) (h65 : g 65 = (zI G 5 rl)) (h66 : g 66 = (zI G 3 tt)) (h36 : g 36 = (oTld G bo oo)) (h38 : g 38 = (zZ G 120 ba)) : zC G yX0_tell wsX0_tell (zrm 2 46) ex [.ref (zB G + 59), .int (nI tm), .int due] (zN, g) (fun r h => r = some (.int (X0_tell_v now rl ba tm due)) ∧ h = (zN, zus g [(59, (oFol G rows outc (X0_tell_p59_2 ts now rl ba tm due))), (66, zI G 3 (X0_tell_c66 now rl tt ba tm due))])) := by
  refine zC_of mX0_tell (lv := [some (.ref (zB G + 59)), some (.int (nI tm)), some (.int due), none, none, none, none, none, none]) rfl rfl (by decide) (by intro v hv; simp at hv; rcases hv with rfl | rfl | rfl <;> rfl) (Nat.le_of_ble_eq_true rfl) rfl ?_
  refine z_0 ?_
  refine z_heap (g' := zu (zus g []) 59 (oFol G rows outc ts)) (zu_self (zus g []) 59 _ h59).symm ?_
  refine z_n (L' := [(59, (oFol G rows outc ts))]) rfl ?_
  refine z_heap (g' := zu (zus g [(59, (oFol G rows outc ts))]) 66 (zI G 3 tt)) (zu_self (zus g [(59, (oFol G rows outc ts))]) 66 _ h66).symm ?_
  refine z_n (L' := [(59, (oFol G rows outc ts)), (66, (zI G 3 tt))]) rfl ?_
  refine z_aload_n dX0_tell_0 rfl rfl ?_
  refine z_iload_n dX0_tell_1 rfl rfl ?_
  refine z_iconst (v := nI 0) dX0_tell_2 rfl (by decide) ?_
  refine z_callVi (c_X0_signIn G ex _ rows outc ts now rl tm 0 (by omega) (by omega) (by assumption) rfl h64 h65) gX0_tell_X0_signIn rfl dX0_tell_3 rfl rfl rfl okk_X0_signIn (Nat.le_of_ble_eq_true rfl) rfl rfl ⟨Nat.le_of_ble_eq_true rfl, Nat.le_of_ble_eq_true rfl⟩ ⟨Nat.le_of_ble_eq_true rfl, Nat.le_of_ble_eq_true rfl⟩ (Nat.le_of_ble_eq_true rfl) ?_
  refine z_bipush (v := (-4)) dX0_tell_6 rfl (by decide) ?_
  refine z_icmp_ne (tgt := 15) dX0_tell_8 rfl (by decide) (fun c8 => ?_) (fun c8 => ?_)
  · refine z_iconst (v := nI 1) dX0_tell_15 rfl (by decide) ?_
    refine z_istore_3 dX0_tell_16 rfl ?_
    refine z_aload_n dX0_tell_17 rfl rfl ?_
    refine z_iload_n dX0_tell_18 rfl rfl ?_
    refine z_iconst (v := nI 1) dX0_tell_19 rfl (by decide) ?_
    refine z_iload_n dX0_tell_20 rfl rfl ?_
    refine z_isub dX0_tell_21 rfl ?_
    rw [show (nI 1) - (nI 1) = nI (1 - 1) from (zq_sub rfl rfl (by omega))]
    refine z_callVi (c_X0_signIn G ex _ rows outc ts now rl tm (1 - 1) (by omega) (by omega) (by assumption) rfl h64 h65) gX0_tell_X0_signIn rfl dX0_tell_22 rfl rfl rfl okk_X0_signIn (Nat.le_of_ble_eq_true rfl) rfl rfl ⟨Nat.le_of_ble_eq_true rfl, Nat.le_of_ble_eq_true rfl⟩ ⟨Nat.le_of_ble_eq_true rfl, Nat.le_of_ble_eq_true rfl⟩ (Nat.le_of_ble_eq_true rfl) ?_
    refine z_istore_4 dX0_tell_25 rfl ?_
    refine z_iload dX0_tell_27 rfl rfl ?_
    refine z_if_ne (tgt := 35) dX0_tell_29 rfl (by decide) (fun c29 => ?_) (fun c29 => ?_)
    · refine z_iconst (v := nI 4) dX0_tell_35 rfl (by decide) ?_
      refine z_iload_n dX0_tell_36 rfl rfl ?_
      refine z_imul dX0_tell_37 rfl ?_
      refine z_iconst (v := nI 2) dX0_tell_38 rfl (by decide) ?_
      refine z_iload_n dX0_tell_39 rfl rfl ?_
      refine z_imul dX0_tell_40 rfl ?_
      refine z_iadd dX0_tell_41 rfl ?_
      refine z_top (show ((nI 4) * (nI tm)) + ((nI 2) * (nI 1)) = nI ((4 * tm) + (2 * 1)) from (zq_add (zq_mul rfl rfl) (zq_mul rfl rfl))) ?_
      refine z_istore_5 dX0_tell_42 rfl ?_
      refine z_aload_n dX0_tell_44 rfl rfl ?_
      refine z_get dX0_tell_45 rfl hiX0_tell_X0 8 lkX0_tell_34 (Nat.le_of_ble_eq_true rfl) rfl rfl (by decide) rfl ?_
      refine z_iconst (v := nI 0) dX0_tell_48 rfl (by decide) ?_
      refine z_ialdN (j := 0) dX0_tell_49 rfl (Nat.le_of_ble_eq_true rfl) h65 (rfl) (by omega) (by decide) ?_
      refine z_top (show rl 0 = nI ((rl 0).toNatClampNeg) from zvin (hr _ (by first | omega | exact beN_lt (by omega)))) ?_
      refine z_istore_6 dX0_tell_50 rfl ?_
      refine z_aload_n dX0_tell_52 rfl rfl ?_
      refine z_get dX0_tell_53 rfl hiX0_tell_X0 8 lkX0_tell_34 (Nat.le_of_ble_eq_true rfl) rfl rfl (by decide) rfl ?_
      refine z_gsB dX0_tell_56 rfl lkX0_tell_118 ?_
      refine z_iload dX0_tell_59 rfl rfl ?_
      refine z_tBN (j := (4 * tm) + (2 * 1)) dX0_tell_61 rfl (rfl) (by omega) ?_
      refine z_ialdN (j := beN ((4 * tm) + (2 * 1))) dX0_tell_62 rfl (Nat.le_of_ble_eq_true rfl) h65 (rfl) (beN_lt (by omega)) (by decide) ?_
      refine z_top (show rl (beN ((4 * tm) + (2 * 1))) = nI ((rl (beN ((4 * tm) + (2 * 1)))).toNatClampNeg) from zvin (hr _ (by first | omega | exact beN_lt (by omega)))) ?_
      refine z_istore_7 dX0_tell_63 rfl ?_
      refine z_aload_n dX0_tell_65 rfl rfl ?_
      refine z_get dX0_tell_66 rfl hiX0_tell_X0 8 lkX0_tell_34 (Nat.le_of_ble_eq_true rfl) rfl rfl (by decide) rfl ?_
      refine z_gsB dX0_tell_69 rfl lkX0_tell_118 ?_
      refine z_iload dX0_tell_72 rfl rfl ?_
      refine z_iconst (v := nI 1) dX0_tell_74 rfl (by decide) ?_
      refine z_iadd dX0_tell_75 rfl ?_
      refine z_tBN (j := ((4 * tm) + (2 * 1)) + 1) dX0_tell_76 rfl ((zq_add rfl rfl)) (by omega) ?_
      refine z_ialdN (j := beN (((4 * tm) + (2 * 1)) + 1)) dX0_tell_77 rfl (Nat.le_of_ble_eq_true rfl) h65 (rfl) (beN_lt (by omega)) (by decide) ?_
      refine z_top (show rl (beN (((4 * tm) + (2 * 1)) + 1)) = nI ((rl (beN (((4 * tm) + (2 * 1)) + 1))).toNatClampNeg) from zvin (hr _ (by first | omega | exact beN_lt (by omega)))) ?_
      refine z_istore_8 dX0_tell_78 rfl ?_
      refine z_aload_n dX0_tell_80 rfl rfl ?_
      refine z_iload_n dX0_tell_81 rfl rfl ?_
      refine z_gsT dX0_tell_82 rfl lkX0_tell_79 ?_
      refine z_iload_n dX0_tell_85 rfl rfl ?_
      refine z_tTN (j := tm) dX0_tell_86 rfl (rfl) (by omega) ?_
      refine z_imul dX0_tell_87 rfl ?_
      refine z_iload dX0_tell_88 rfl rfl ?_
      refine z_imul dX0_tell_90 rfl ?_
      refine z_iload dX0_tell_91 rfl rfl ?_
      refine z_iload dX0_tell_93 rfl rfl ?_
      refine z_iload dX0_tell_95 rfl rfl ?_
      refine z_callSi (c_X5_turnOf G ex _ (nI ((rl 0).toNatClampNeg)) (nI ((rl (beN ((4 * tm) + (2 * 1)))).toNatClampNeg)) (nI ((rl (beN (((4 * tm) + (2 * 1)) + 1))).toNatClampNeg))) gX0_tell_X5_turnOf rfl dX0_tell_97 rfl rfl okk_X5_turnOf ⟨Nat.le_of_ble_eq_true rfl, Nat.le_of_ble_eq_true rfl⟩ ⟨Nat.le_of_ble_eq_true rfl, Nat.le_of_ble_eq_true rfl⟩ (Nat.le_of_ble_eq_true rfl) ?_
      refine z_imul dX0_tell_100 rfl ?_
      refine z_putN (e9 := (oFol G rows outc (((due * (ttI tm)) * (X0_signIn_v now rl tm (1 - 1))) * (X5_turnOf_v (nI ((rl 0).toNatClampNeg)) (nI ((rl (beN ((4 * tm) + (2 * 1)))).toNatClampNeg)) (nI ((rl (beN (((4 * tm) + (2 * 1)) + 1))).toNatClampNeg)))))) tyX0 tyX0_ok nmX0 dX0_tell_101 rfl hiX0_tell_X0 10 lkX0_tell_40 rfl (by decide +kernel) (Nat.le_of_ble_eq_true rfl) rfl rfl (by decide) (Nat.le_of_ble_eq_true rfl) rfl rfl rfl ?_
      refine z_n (L' := [(59, (oFol G rows outc (((due * (ttI tm)) * (X0_signIn_v now rl tm (1 - 1))) * (X5_turnOf_v (nI ((rl 0).toNatClampNeg)) (nI ((rl (beN ((4 * tm) + (2 * 1)))).toNatClampNeg)) (nI ((rl (beN (((4 * tm) + (2 * 1)) + 1))).toNatClampNeg)))))), (66, (zI G 3 tt))]) rfl ?_
      refine z_aload_n dX0_tell_104 rfl rfl ?_
      refine z_get dX0_tell_105 rfl hiX0_tell_X0 9 lkX0_tell_37 (Nat.le_of_ble_eq_true rfl) rfl rfl (by decide) rfl ?_
      refine z_iconst (v := nI 0) dX0_tell_108 rfl (by decide) ?_
      refine z_iload dX0_tell_109 rfl rfl ?_
      refine z_iload dX0_tell_111 rfl rfl ?_
      refine z_iload dX0_tell_113 rfl rfl ?_
      refine z_mmin dX0_tell_115 rfl meX0_tell_min1_127 meX0_tell_min2 meX0_tell_math meX0_tell_min4 ⟨Nat.le_of_ble_eq_true rfl, Nat.le_of_ble_eq_true rfl⟩ ⟨Nat.le_of_ble_eq_true rfl, Nat.le_of_ble_eq_true rfl⟩ ?_
      refine z_mmin dX0_tell_118 rfl meX0_tell_min1_127 meX0_tell_min2 meX0_tell_math meX0_tell_min4 ⟨Nat.le_of_ble_eq_true rfl, Nat.le_of_ble_eq_true rfl⟩ ⟨Nat.le_of_ble_eq_true rfl, Nat.le_of_ble_eq_true rfl⟩ ?_
      refine z_iastN (j := 0) dX0_tell_121 rfl (Nat.le_of_ble_eq_true rfl) rfl (rfl) (by omega) (by decide) ?_
      refine z_n (L' := [(59, (oFol G rows outc (((due * (ttI tm)) * (X0_signIn_v now rl tm (1 - 1))) * (X5_turnOf_v (nI ((rl 0).toNatClampNeg)) (nI ((rl (beN ((4 * tm) + (2 * 1)))).toNatClampNeg)) (nI ((rl (beN (((4 * tm) + (2 * 1)) + 1))).toNatClampNeg)))))), (66, (zI G 3 (upd tt 0 (if (if (nI ((rl (beN (((4 * tm) + (2 * 1)) + 1))).toNatClampNeg)) < (nI ((rl (beN ((4 * tm) + (2 * 1)))).toNatClampNeg)) then (nI ((rl (beN (((4 * tm) + (2 * 1)) + 1))).toNatClampNeg)) else (nI ((rl (beN ((4 * tm) + (2 * 1)))).toNatClampNeg))) < (nI ((rl 0).toNatClampNeg)) then (if (nI ((rl (beN (((4 * tm) + (2 * 1)) + 1))).toNatClampNeg)) < (nI ((rl (beN ((4 * tm) + (2 * 1)))).toNatClampNeg)) then (nI ((rl (beN (((4 * tm) + (2 * 1)) + 1))).toNatClampNeg)) else (nI ((rl (beN ((4 * tm) + (2 * 1)))).toNatClampNeg))) else (nI ((rl 0).toNatClampNeg))))))]) rfl ?_
      refine z_aload_n dX0_tell_122 rfl rfl ?_
      refine z_get dX0_tell_123 rfl hiX0_tell_X0 9 lkX0_tell_37 (Nat.le_of_ble_eq_true rfl) rfl rfl (by decide) rfl ?_
      refine z_iconst (v := nI 2) dX0_tell_126 rfl (by decide) ?_
      refine z_iload dX0_tell_127 rfl rfl ?_
      refine z_iload dX0_tell_129 rfl rfl ?_
      refine z_iload dX0_tell_131 rfl rfl ?_
      refine z_mmax dX0_tell_133 rfl meX0_tell_max1_132 meX0_tell_max2 meX0_tell_math meX0_tell_max4 ⟨Nat.le_of_ble_eq_true rfl, Nat.le_of_ble_eq_true rfl⟩ ⟨Nat.le_of_ble_eq_true rfl, Nat.le_of_ble_eq_true rfl⟩ ?_
      refine z_mmax dX0_tell_136 rfl meX0_tell_max1_132 meX0_tell_max2 meX0_tell_math meX0_tell_max4 ⟨Nat.le_of_ble_eq_true rfl, Nat.le_of_ble_eq_true rfl⟩ ⟨Nat.le_of_ble_eq_true rfl, Nat.le_of_ble_eq_true rfl⟩ ?_
      refine z_iastN (j := 2) dX0_tell_139 rfl (Nat.le_of_ble_eq_true rfl) rfl (rfl) (by omega) (by decide) ?_
      refine z_n (L' := [(59, (oFol G rows outc (((due * (ttI tm)) * (X0_signIn_v now rl tm (1 - 1))) * (X5_turnOf_v (nI ((rl 0).toNatClampNeg)) (nI ((rl (beN ((4 * tm) + (2 * 1)))).toNatClampNeg)) (nI ((rl (beN (((4 * tm) + (2 * 1)) + 1))).toNatClampNeg)))))), (66, (zI G 3 (upd (upd tt 0 (if (if (nI ((rl (beN (((4 * tm) + (2 * 1)) + 1))).toNatClampNeg)) < (nI ((rl (beN ((4 * tm) + (2 * 1)))).toNatClampNeg)) then (nI ((rl (beN (((4 * tm) + (2 * 1)) + 1))).toNatClampNeg)) else (nI ((rl (beN ((4 * tm) + (2 * 1)))).toNatClampNeg))) < (nI ((rl 0).toNatClampNeg)) then (if (nI ((rl (beN (((4 * tm) + (2 * 1)) + 1))).toNatClampNeg)) < (nI ((rl (beN ((4 * tm) + (2 * 1)))).toNatClampNeg)) then (nI ((rl (beN (((4 * tm) + (2 * 1)) + 1))).toNatClampNeg)) else (nI ((rl (beN ((4 * tm) + (2 * 1)))).toNatClampNeg))) else (nI ((rl 0).toNatClampNeg)))) 2 (if (nI ((rl 0).toNatClampNeg)) < (if (nI ((rl (beN ((4 * tm) + (2 * 1)))).toNatClampNeg)) < (nI ((rl (beN (((4 * tm) + (2 * 1)) + 1))).toNatClampNeg)) then (nI ((rl (beN (((4 * tm) + (2 * 1)) + 1))).toNatClampNeg)) else (nI ((rl (beN ((4 * tm) + (2 * 1)))).toNatClampNeg))) then (if (nI ((rl (beN ((4 * tm) + (2 * 1)))).toNatClampNeg)) < (nI ((rl (beN (((4 * tm) + (2 * 1)) + 1))).toNatClampNeg)) then (nI ((rl (beN (((4 * tm) + (2 * 1)) + 1))).toNatClampNeg)) else (nI ((rl (beN ((4 * tm) + (2 * 1)))).toNatClampNeg))) else (nI ((rl 0).toNatClampNeg))))))]) rfl ?_
      refine z_aload_n dX0_tell_140 rfl rfl ?_
      refine z_get dX0_tell_141 rfl hiX0_tell_X0 9 lkX0_tell_37 (Nat.le_of_ble_eq_true rfl) rfl rfl (by decide) rfl ?_
      refine z_iconst (v := nI 1) dX0_tell_144 rfl (by decide) ?_
      refine z_iload dX0_tell_145 rfl rfl ?_
      refine z_iload dX0_tell_147 rfl rfl ?_
      refine z_iadd dX0_tell_149 rfl ?_
      refine z_iload dX0_tell_150 rfl rfl ?_
      refine z_iadd dX0_tell_152 rfl ?_
      refine z_aload_n dX0_tell_153 rfl rfl ?_
      refine z_get dX0_tell_154 rfl hiX0_tell_X0 9 lkX0_tell_37 (Nat.le_of_ble_eq_true rfl) rfl rfl (by decide) rfl ?_
      refine z_iconst (v := nI 0) dX0_tell_157 rfl (by decide) ?_
      refine z_ialdN (j := 0) dX0_tell_158 rfl (Nat.le_of_ble_eq_true rfl) rfl (rfl) (by omega) (by decide) ?_
      refine z_isub dX0_tell_159 rfl ?_
      refine z_aload_n dX0_tell_160 rfl rfl ?_
      refine z_get dX0_tell_161 rfl hiX0_tell_X0 9 lkX0_tell_37 (Nat.le_of_ble_eq_true rfl) rfl rfl (by decide) rfl ?_
      refine z_iconst (v := nI 2) dX0_tell_164 rfl (by decide) ?_
      refine z_ialdN (j := 2) dX0_tell_165 rfl (Nat.le_of_ble_eq_true rfl) rfl (rfl) (by omega) (by decide) ?_
      refine z_isub dX0_tell_166 rfl ?_
      refine z_iastN (j := 1) dX0_tell_167 rfl (Nat.le_of_ble_eq_true rfl) rfl (rfl) (by omega) (by decide) ?_
      refine z_n (L' := [(59, (oFol G rows outc (((due * (ttI tm)) * (X0_signIn_v now rl tm (1 - 1))) * (X5_turnOf_v (nI ((rl 0).toNatClampNeg)) (nI ((rl (beN ((4 * tm) + (2 * 1)))).toNatClampNeg)) (nI ((rl (beN (((4 * tm) + (2 * 1)) + 1))).toNatClampNeg)))))), (66, (zI G 3 (upd (upd (upd tt 0 (if (if (nI ((rl (beN (((4 * tm) + (2 * 1)) + 1))).toNatClampNeg)) < (nI ((rl (beN ((4 * tm) + (2 * 1)))).toNatClampNeg)) then (nI ((rl (beN (((4 * tm) + (2 * 1)) + 1))).toNatClampNeg)) else (nI ((rl (beN ((4 * tm) + (2 * 1)))).toNatClampNeg))) < (nI ((rl 0).toNatClampNeg)) then (if (nI ((rl (beN (((4 * tm) + (2 * 1)) + 1))).toNatClampNeg)) < (nI ((rl (beN ((4 * tm) + (2 * 1)))).toNatClampNeg)) then (nI ((rl (beN (((4 * tm) + (2 * 1)) + 1))).toNatClampNeg)) else (nI ((rl (beN ((4 * tm) + (2 * 1)))).toNatClampNeg))) else (nI ((rl 0).toNatClampNeg)))) 2 (if (nI ((rl 0).toNatClampNeg)) < (if (nI ((rl (beN ((4 * tm) + (2 * 1)))).toNatClampNeg)) < (nI ((rl (beN (((4 * tm) + (2 * 1)) + 1))).toNatClampNeg)) then (nI ((rl (beN (((4 * tm) + (2 * 1)) + 1))).toNatClampNeg)) else (nI ((rl (beN ((4 * tm) + (2 * 1)))).toNatClampNeg))) then (if (nI ((rl (beN ((4 * tm) + (2 * 1)))).toNatClampNeg)) < (nI ((rl (beN (((4 * tm) + (2 * 1)) + 1))).toNatClampNeg)) then (nI ((rl (beN (((4 * tm) + (2 * 1)) + 1))).toNatClampNeg)) else (nI ((rl (beN ((4 * tm) + (2 * 1)))).toNatClampNeg))) else (nI ((rl 0).toNatClampNeg)))) 1 (((((nI ((rl 0).toNatClampNeg)) + (nI ((rl (beN ((4 * tm) + (2 * 1)))).toNatClampNeg))) + (nI ((rl (beN (((4 * tm) + (2 * 1)) + 1))).toNatClampNeg))) - ((upd (upd tt 0 (if (if (nI ((rl (beN (((4 * tm) + (2 * 1)) + 1))).toNatClampNeg)) < (nI ((rl (beN ((4 * tm) + (2 * 1)))).toNatClampNeg)) then (nI ((rl (beN (((4 * tm) + (2 * 1)) + 1))).toNatClampNeg)) else (nI ((rl (beN ((4 * tm) + (2 * 1)))).toNatClampNeg))) < (nI ((rl 0).toNatClampNeg)) then (if (nI ((rl (beN (((4 * tm) + (2 * 1)) + 1))).toNatClampNeg)) < (nI ((rl (beN ((4 * tm) + (2 * 1)))).toNatClampNeg)) then (nI ((rl (beN (((4 * tm) + (2 * 1)) + 1))).toNatClampNeg)) else (nI ((rl (beN ((4 * tm) + (2 * 1)))).toNatClampNeg))) else (nI ((rl 0).toNatClampNeg)))) 2 (if (nI ((rl 0).toNatClampNeg)) < (if (nI ((rl (beN ((4 * tm) + (2 * 1)))).toNatClampNeg)) < (nI ((rl (beN (((4 * tm) + (2 * 1)) + 1))).toNatClampNeg)) then (nI ((rl (beN (((4 * tm) + (2 * 1)) + 1))).toNatClampNeg)) else (nI ((rl (beN ((4 * tm) + (2 * 1)))).toNatClampNeg))) then (if (nI ((rl (beN ((4 * tm) + (2 * 1)))).toNatClampNeg)) < (nI ((rl (beN (((4 * tm) + (2 * 1)) + 1))).toNatClampNeg)) then (nI ((rl (beN (((4 * tm) + (2 * 1)) + 1))).toNatClampNeg)) else (nI ((rl (beN ((4 * tm) + (2 * 1)))).toNatClampNeg))) else (nI ((rl 0).toNatClampNeg)))) 0)) - ((upd (upd tt 0 (if (if (nI ((rl (beN (((4 * tm) + (2 * 1)) + 1))).toNatClampNeg)) < (nI ((rl (beN ((4 * tm) + (2 * 1)))).toNatClampNeg)) then (nI ((rl (beN (((4 * tm) + (2 * 1)) + 1))).toNatClampNeg)) else (nI ((rl (beN ((4 * tm) + (2 * 1)))).toNatClampNeg))) < (nI ((rl 0).toNatClampNeg)) then (if (nI ((rl (beN (((4 * tm) + (2 * 1)) + 1))).toNatClampNeg)) < (nI ((rl (beN ((4 * tm) + (2 * 1)))).toNatClampNeg)) then (nI ((rl (beN (((4 * tm) + (2 * 1)) + 1))).toNatClampNeg)) else (nI ((rl (beN ((4 * tm) + (2 * 1)))).toNatClampNeg))) else (nI ((rl 0).toNatClampNeg)))) 2 (if (nI ((rl 0).toNatClampNeg)) < (if (nI ((rl (beN ((4 * tm) + (2 * 1)))).toNatClampNeg)) < (nI ((rl (beN (((4 * tm) + (2 * 1)) + 1))).toNatClampNeg)) then (nI ((rl (beN (((4 * tm) + (2 * 1)) + 1))).toNatClampNeg)) else (nI ((rl (beN ((4 * tm) + (2 * 1)))).toNatClampNeg))) then (if (nI ((rl (beN ((4 * tm) + (2 * 1)))).toNatClampNeg)) < (nI ((rl (beN (((4 * tm) + (2 * 1)) + 1))).toNatClampNeg)) then (nI ((rl (beN (((4 * tm) + (2 * 1)) + 1))).toNatClampNeg)) else (nI ((rl (beN ((4 * tm) + (2 * 1)))).toNatClampNeg))) else (nI ((rl 0).toNatClampNeg)))) 2)))))]) rfl ?_
      refine z_aload_n dX0_tell_168 rfl rfl ?_
      refine z_get dX0_tell_169 rfl hiX0_tell_X0 10 lkX0_tell_40 (Nat.le_of_ble_eq_true rfl) rfl rfl (by decide) rfl ?_
      refine z_if_ne (tgt := 199) dX0_tell_172 rfl (by decide) (fun c172 => ?_) (fun c172 => ?_)
      · refine z_iconst (v := nI 0) dX0_tell_199 rfl (by decide) ?_
        exact z_ireturn dX0_tell_200 rfl rfl (Nat.le_refl _) (Nat.le_refl _) (fun _ => rfl) ⟨by simp only [X0_tell_v, if_neg c8, if_neg c29, if_neg c172], by simp only [X0_tell_p59_2, X0_tell_c66, if_neg c8, if_neg c29, if_neg c172]⟩
      · refine z_aload_n dX0_tell_175 rfl rfl ?_
        refine z_get dX0_tell_176 rfl hiX0_tell_X0 4 lkX0_tell_43 (Nat.le_of_ble_eq_true rfl) rfl rfl (by decide) rfl ?_
        refine z_get dX0_tell_179 rfl hiX0_tell_X5 1 lkX0_tell_135 (Nat.le_of_ble_eq_true rfl) h36 rfl (by decide) rfl ?_
        refine z_iload dX0_tell_182 rfl rfl ?_
        refine z_iload dX0_tell_184 rfl rfl ?_
        refine z_iload dX0_tell_186 rfl rfl ?_
        refine z_callSi (c_X5_spotOf_N G ex _ ((rl 0).toNatClampNeg) ((rl (beN ((4 * tm) + (2 * 1)))).toNatClampNeg) ((rl (beN (((4 * tm) + (2 * 1)) + 1))).toNatClampNeg) (zvlt (hr _ (by first | omega | exact beN_lt (by omega)))) (zvlt (hr _ (by first | omega | exact beN_lt (by omega)))) (zvlt (hr _ (by first | omega | exact beN_lt (by omega))))) gX0_tell_X5_spotOf rfl dX0_tell_188 rfl rfl okk_X5_spotOf ⟨Nat.le_of_ble_eq_true rfl, Nat.le_of_ble_eq_true rfl⟩ ⟨Nat.le_of_ble_eq_true rfl, Nat.le_of_ble_eq_true rfl⟩ (Nat.le_of_ble_eq_true rfl) ?_
        refine z_zaldN (j := spN ((rl 0).toNatClampNeg) ((rl (beN ((4 * tm) + (2 * 1)))).toNatClampNeg) ((rl (beN (((4 * tm) + (2 * 1)) + 1))).toNatClampNeg)) dX0_tell_191 rfl (Nat.le_of_ble_eq_true rfl) h38 (rfl) (spN_lt (zvlt (hr _ (by first | omega | exact beN_lt (by omega)))) (zvlt (hr _ (by first | omega | exact beN_lt (by omega)))) (zvlt (hr _ (by first | omega | exact beN_lt (by omega)))) (hrd _ _ (by omega) (beN_lt (by omega)) (beN_ne0 (by omega))) (hrd _ _ (by omega) (beN_lt (by omega)) (beN_ne0 (by omega))) (hrd _ _ (beN_lt (by omega)) (beN_lt (by omega)) (beN_ne1 _ ht _ (by omega)))) (by decide) ?_
        refine z_if_eq (tgt := 199) dX0_tell_192 rfl (by decide) (fun c192 => ?_) (fun c192 => ?_)
        · refine z_iconst (v := nI 0) dX0_tell_199 rfl (by decide) ?_
          exact z_ireturn dX0_tell_200 rfl rfl (Nat.le_refl _) (Nat.le_refl _) (fun _ => rfl) ⟨by simp only [X0_tell_v, if_neg c8, if_neg c29, if_pos c172, if_pos c192], by simp only [X0_tell_p59_2, X0_tell_c66, if_neg c8, if_neg c29, if_pos c172, if_pos c192]⟩
        · refine z_iconst (v := nI 2) dX0_tell_195 rfl (by decide) ?_
          refine z_goto (tgt := 200) dX0_tell_196 (by decide) ?_
          exact z_ireturn dX0_tell_200 rfl rfl (Nat.le_refl _) (Nat.le_refl _) (fun _ => rfl) ⟨by simp only [X0_tell_v, if_neg c8, if_neg c29, if_pos c172, if_neg c192], by simp only [X0_tell_p59_2, X0_tell_c66, if_neg c8, if_neg c29, if_pos c172, if_neg c192]⟩
    · refine z_bipush (v := (-4)) dX0_tell_32 rfl (by decide) ?_
      exact z_ireturn dX0_tell_34 rfl rfl (Nat.le_refl _) (Nat.le_refl _) (fun _ => rfl) ⟨by simp only [X0_tell_v, if_neg c8, if_pos c29], by simp only [X0_tell_p59_2, X0_tell_c66, if_neg c8, if_pos c29]⟩
  · refine z_iconst (v := nI 0) dX0_tell_11 rfl (by decide) ?_
    refine z_goto (tgt := 16) dX0_tell_12 (by decide) ?_
    refine z_istore_3 dX0_tell_16 rfl ?_
    refine z_aload_n dX0_tell_17 rfl rfl ?_
    refine z_iload_n dX0_tell_18 rfl rfl ?_
    refine z_iconst (v := nI 1) dX0_tell_19 rfl (by decide) ?_
    refine z_iload_n dX0_tell_20 rfl rfl ?_
    refine z_isub dX0_tell_21 rfl ?_
    rw [show (nI 1) - (nI 0) = nI (1 - 0) from (zq_sub rfl rfl (by omega))]
    refine z_callVi (c_X0_signIn G ex _ rows outc ts now rl tm (1 - 0) (by omega) (by omega) (by assumption) rfl h64 h65) gX0_tell_X0_signIn rfl dX0_tell_22 rfl rfl rfl okk_X0_signIn (Nat.le_of_ble_eq_true rfl) rfl rfl ⟨Nat.le_of_ble_eq_true rfl, Nat.le_of_ble_eq_true rfl⟩ ⟨Nat.le_of_ble_eq_true rfl, Nat.le_of_ble_eq_true rfl⟩ (Nat.le_of_ble_eq_true rfl) ?_
    refine z_istore_4 dX0_tell_25 rfl ?_
    refine z_iload dX0_tell_27 rfl rfl ?_
    refine z_if_ne (tgt := 35) dX0_tell_29 rfl (by decide) (fun c29 => ?_) (fun c29 => ?_)
    · refine z_iconst (v := nI 4) dX0_tell_35 rfl (by decide) ?_
      refine z_iload_n dX0_tell_36 rfl rfl ?_
      refine z_imul dX0_tell_37 rfl ?_
      refine z_iconst (v := nI 2) dX0_tell_38 rfl (by decide) ?_
      refine z_iload_n dX0_tell_39 rfl rfl ?_
      refine z_imul dX0_tell_40 rfl ?_
      refine z_iadd dX0_tell_41 rfl ?_
      refine z_top (show ((nI 4) * (nI tm)) + ((nI 2) * (nI 0)) = nI ((4 * tm) + (2 * 0)) from (zq_add (zq_mul rfl rfl) (zq_mul rfl rfl))) ?_
      refine z_istore_5 dX0_tell_42 rfl ?_
      refine z_aload_n dX0_tell_44 rfl rfl ?_
      refine z_get dX0_tell_45 rfl hiX0_tell_X0 8 lkX0_tell_34 (Nat.le_of_ble_eq_true rfl) rfl rfl (by decide) rfl ?_
      refine z_iconst (v := nI 0) dX0_tell_48 rfl (by decide) ?_
      refine z_ialdN (j := 0) dX0_tell_49 rfl (Nat.le_of_ble_eq_true rfl) h65 (rfl) (by omega) (by decide) ?_
      refine z_top (show rl 0 = nI ((rl 0).toNatClampNeg) from zvin (hr _ (by first | omega | exact beN_lt (by omega)))) ?_
      refine z_istore_6 dX0_tell_50 rfl ?_
      refine z_aload_n dX0_tell_52 rfl rfl ?_
      refine z_get dX0_tell_53 rfl hiX0_tell_X0 8 lkX0_tell_34 (Nat.le_of_ble_eq_true rfl) rfl rfl (by decide) rfl ?_
      refine z_gsB dX0_tell_56 rfl lkX0_tell_118 ?_
      refine z_iload dX0_tell_59 rfl rfl ?_
      refine z_tBN (j := (4 * tm) + (2 * 0)) dX0_tell_61 rfl (rfl) (by omega) ?_
      refine z_ialdN (j := beN ((4 * tm) + (2 * 0))) dX0_tell_62 rfl (Nat.le_of_ble_eq_true rfl) h65 (rfl) (beN_lt (by omega)) (by decide) ?_
      refine z_top (show rl (beN ((4 * tm) + (2 * 0))) = nI ((rl (beN ((4 * tm) + (2 * 0)))).toNatClampNeg) from zvin (hr _ (by first | omega | exact beN_lt (by omega)))) ?_
      refine z_istore_7 dX0_tell_63 rfl ?_
      refine z_aload_n dX0_tell_65 rfl rfl ?_
      refine z_get dX0_tell_66 rfl hiX0_tell_X0 8 lkX0_tell_34 (Nat.le_of_ble_eq_true rfl) rfl rfl (by decide) rfl ?_
      refine z_gsB dX0_tell_69 rfl lkX0_tell_118 ?_
      refine z_iload dX0_tell_72 rfl rfl ?_
      refine z_iconst (v := nI 1) dX0_tell_74 rfl (by decide) ?_
      refine z_iadd dX0_tell_75 rfl ?_
      refine z_tBN (j := ((4 * tm) + (2 * 0)) + 1) dX0_tell_76 rfl ((zq_add rfl rfl)) (by omega) ?_
      refine z_ialdN (j := beN (((4 * tm) + (2 * 0)) + 1)) dX0_tell_77 rfl (Nat.le_of_ble_eq_true rfl) h65 (rfl) (beN_lt (by omega)) (by decide) ?_
      refine z_top (show rl (beN (((4 * tm) + (2 * 0)) + 1)) = nI ((rl (beN (((4 * tm) + (2 * 0)) + 1))).toNatClampNeg) from zvin (hr _ (by first | omega | exact beN_lt (by omega)))) ?_
      refine z_istore_8 dX0_tell_78 rfl ?_
      refine z_aload_n dX0_tell_80 rfl rfl ?_
      refine z_iload_n dX0_tell_81 rfl rfl ?_
      refine z_gsT dX0_tell_82 rfl lkX0_tell_79 ?_
      refine z_iload_n dX0_tell_85 rfl rfl ?_
      refine z_tTN (j := tm) dX0_tell_86 rfl (rfl) (by omega) ?_
      refine z_imul dX0_tell_87 rfl ?_
      refine z_iload dX0_tell_88 rfl rfl ?_
      refine z_imul dX0_tell_90 rfl ?_
      refine z_iload dX0_tell_91 rfl rfl ?_
      refine z_iload dX0_tell_93 rfl rfl ?_
      refine z_iload dX0_tell_95 rfl rfl ?_
      refine z_callSi (c_X5_turnOf G ex _ (nI ((rl 0).toNatClampNeg)) (nI ((rl (beN ((4 * tm) + (2 * 0)))).toNatClampNeg)) (nI ((rl (beN (((4 * tm) + (2 * 0)) + 1))).toNatClampNeg))) gX0_tell_X5_turnOf rfl dX0_tell_97 rfl rfl okk_X5_turnOf ⟨Nat.le_of_ble_eq_true rfl, Nat.le_of_ble_eq_true rfl⟩ ⟨Nat.le_of_ble_eq_true rfl, Nat.le_of_ble_eq_true rfl⟩ (Nat.le_of_ble_eq_true rfl) ?_
      refine z_imul dX0_tell_100 rfl ?_
      refine z_putN (e9 := (oFol G rows outc (((due * (ttI tm)) * (X0_signIn_v now rl tm (1 - 0))) * (X5_turnOf_v (nI ((rl 0).toNatClampNeg)) (nI ((rl (beN ((4 * tm) + (2 * 0)))).toNatClampNeg)) (nI ((rl (beN (((4 * tm) + (2 * 0)) + 1))).toNatClampNeg)))))) tyX0 tyX0_ok nmX0 dX0_tell_101 rfl hiX0_tell_X0 10 lkX0_tell_40 rfl (by decide +kernel) (Nat.le_of_ble_eq_true rfl) rfl rfl (by decide) (Nat.le_of_ble_eq_true rfl) rfl rfl rfl ?_
      refine z_n (L' := [(59, (oFol G rows outc (((due * (ttI tm)) * (X0_signIn_v now rl tm (1 - 0))) * (X5_turnOf_v (nI ((rl 0).toNatClampNeg)) (nI ((rl (beN ((4 * tm) + (2 * 0)))).toNatClampNeg)) (nI ((rl (beN (((4 * tm) + (2 * 0)) + 1))).toNatClampNeg)))))), (66, (zI G 3 tt))]) rfl ?_
      refine z_aload_n dX0_tell_104 rfl rfl ?_
      refine z_get dX0_tell_105 rfl hiX0_tell_X0 9 lkX0_tell_37 (Nat.le_of_ble_eq_true rfl) rfl rfl (by decide) rfl ?_
      refine z_iconst (v := nI 0) dX0_tell_108 rfl (by decide) ?_
      refine z_iload dX0_tell_109 rfl rfl ?_
      refine z_iload dX0_tell_111 rfl rfl ?_
      refine z_iload dX0_tell_113 rfl rfl ?_
      refine z_mmin dX0_tell_115 rfl meX0_tell_min1_127 meX0_tell_min2 meX0_tell_math meX0_tell_min4 ⟨Nat.le_of_ble_eq_true rfl, Nat.le_of_ble_eq_true rfl⟩ ⟨Nat.le_of_ble_eq_true rfl, Nat.le_of_ble_eq_true rfl⟩ ?_
      refine z_mmin dX0_tell_118 rfl meX0_tell_min1_127 meX0_tell_min2 meX0_tell_math meX0_tell_min4 ⟨Nat.le_of_ble_eq_true rfl, Nat.le_of_ble_eq_true rfl⟩ ⟨Nat.le_of_ble_eq_true rfl, Nat.le_of_ble_eq_true rfl⟩ ?_
      refine z_iastN (j := 0) dX0_tell_121 rfl (Nat.le_of_ble_eq_true rfl) rfl (rfl) (by omega) (by decide) ?_
      refine z_n (L' := [(59, (oFol G rows outc (((due * (ttI tm)) * (X0_signIn_v now rl tm (1 - 0))) * (X5_turnOf_v (nI ((rl 0).toNatClampNeg)) (nI ((rl (beN ((4 * tm) + (2 * 0)))).toNatClampNeg)) (nI ((rl (beN (((4 * tm) + (2 * 0)) + 1))).toNatClampNeg)))))), (66, (zI G 3 (upd tt 0 (if (if (nI ((rl (beN (((4 * tm) + (2 * 0)) + 1))).toNatClampNeg)) < (nI ((rl (beN ((4 * tm) + (2 * 0)))).toNatClampNeg)) then (nI ((rl (beN (((4 * tm) + (2 * 0)) + 1))).toNatClampNeg)) else (nI ((rl (beN ((4 * tm) + (2 * 0)))).toNatClampNeg))) < (nI ((rl 0).toNatClampNeg)) then (if (nI ((rl (beN (((4 * tm) + (2 * 0)) + 1))).toNatClampNeg)) < (nI ((rl (beN ((4 * tm) + (2 * 0)))).toNatClampNeg)) then (nI ((rl (beN (((4 * tm) + (2 * 0)) + 1))).toNatClampNeg)) else (nI ((rl (beN ((4 * tm) + (2 * 0)))).toNatClampNeg))) else (nI ((rl 0).toNatClampNeg))))))]) rfl ?_
      refine z_aload_n dX0_tell_122 rfl rfl ?_
      refine z_get dX0_tell_123 rfl hiX0_tell_X0 9 lkX0_tell_37 (Nat.le_of_ble_eq_true rfl) rfl rfl (by decide) rfl ?_
      refine z_iconst (v := nI 2) dX0_tell_126 rfl (by decide) ?_
      refine z_iload dX0_tell_127 rfl rfl ?_
      refine z_iload dX0_tell_129 rfl rfl ?_
      refine z_iload dX0_tell_131 rfl rfl ?_
      refine z_mmax dX0_tell_133 rfl meX0_tell_max1_132 meX0_tell_max2 meX0_tell_math meX0_tell_max4 ⟨Nat.le_of_ble_eq_true rfl, Nat.le_of_ble_eq_true rfl⟩ ⟨Nat.le_of_ble_eq_true rfl, Nat.le_of_ble_eq_true rfl⟩ ?_
      refine z_mmax dX0_tell_136 rfl meX0_tell_max1_132 meX0_tell_max2 meX0_tell_math meX0_tell_max4 ⟨Nat.le_of_ble_eq_true rfl, Nat.le_of_ble_eq_true rfl⟩ ⟨Nat.le_of_ble_eq_true rfl, Nat.le_of_ble_eq_true rfl⟩ ?_
      refine z_iastN (j := 2) dX0_tell_139 rfl (Nat.le_of_ble_eq_true rfl) rfl (rfl) (by omega) (by decide) ?_
      refine z_n (L' := [(59, (oFol G rows outc (((due * (ttI tm)) * (X0_signIn_v now rl tm (1 - 0))) * (X5_turnOf_v (nI ((rl 0).toNatClampNeg)) (nI ((rl (beN ((4 * tm) + (2 * 0)))).toNatClampNeg)) (nI ((rl (beN (((4 * tm) + (2 * 0)) + 1))).toNatClampNeg)))))), (66, (zI G 3 (upd (upd tt 0 (if (if (nI ((rl (beN (((4 * tm) + (2 * 0)) + 1))).toNatClampNeg)) < (nI ((rl (beN ((4 * tm) + (2 * 0)))).toNatClampNeg)) then (nI ((rl (beN (((4 * tm) + (2 * 0)) + 1))).toNatClampNeg)) else (nI ((rl (beN ((4 * tm) + (2 * 0)))).toNatClampNeg))) < (nI ((rl 0).toNatClampNeg)) then (if (nI ((rl (beN (((4 * tm) + (2 * 0)) + 1))).toNatClampNeg)) < (nI ((rl (beN ((4 * tm) + (2 * 0)))).toNatClampNeg)) then (nI ((rl (beN (((4 * tm) + (2 * 0)) + 1))).toNatClampNeg)) else (nI ((rl (beN ((4 * tm) + (2 * 0)))).toNatClampNeg))) else (nI ((rl 0).toNatClampNeg)))) 2 (if (nI ((rl 0).toNatClampNeg)) < (if (nI ((rl (beN ((4 * tm) + (2 * 0)))).toNatClampNeg)) < (nI ((rl (beN (((4 * tm) + (2 * 0)) + 1))).toNatClampNeg)) then (nI ((rl (beN (((4 * tm) + (2 * 0)) + 1))).toNatClampNeg)) else (nI ((rl (beN ((4 * tm) + (2 * 0)))).toNatClampNeg))) then (if (nI ((rl (beN ((4 * tm) + (2 * 0)))).toNatClampNeg)) < (nI ((rl (beN (((4 * tm) + (2 * 0)) + 1))).toNatClampNeg)) then (nI ((rl (beN (((4 * tm) + (2 * 0)) + 1))).toNatClampNeg)) else (nI ((rl (beN ((4 * tm) + (2 * 0)))).toNatClampNeg))) else (nI ((rl 0).toNatClampNeg))))))]) rfl ?_
      refine z_aload_n dX0_tell_140 rfl rfl ?_
      refine z_get dX0_tell_141 rfl hiX0_tell_X0 9 lkX0_tell_37 (Nat.le_of_ble_eq_true rfl) rfl rfl (by decide) rfl ?_
      refine z_iconst (v := nI 1) dX0_tell_144 rfl (by decide) ?_
      refine z_iload dX0_tell_145 rfl rfl ?_
      refine z_iload dX0_tell_147 rfl rfl ?_
      refine z_iadd dX0_tell_149 rfl ?_
      refine z_iload dX0_tell_150 rfl rfl ?_
      refine z_iadd dX0_tell_152 rfl ?_
      refine z_aload_n dX0_tell_153 rfl rfl ?_
      refine z_get dX0_tell_154 rfl hiX0_tell_X0 9 lkX0_tell_37 (Nat.le_of_ble_eq_true rfl) rfl rfl (by decide) rfl ?_
      refine z_iconst (v := nI 0) dX0_tell_157 rfl (by decide) ?_
      refine z_ialdN (j := 0) dX0_tell_158 rfl (Nat.le_of_ble_eq_true rfl) rfl (rfl) (by omega) (by decide) ?_
      refine z_isub dX0_tell_159 rfl ?_
      refine z_aload_n dX0_tell_160 rfl rfl ?_
      refine z_get dX0_tell_161 rfl hiX0_tell_X0 9 lkX0_tell_37 (Nat.le_of_ble_eq_true rfl) rfl rfl (by decide) rfl ?_
      refine z_iconst (v := nI 2) dX0_tell_164 rfl (by decide) ?_
      refine z_ialdN (j := 2) dX0_tell_165 rfl (Nat.le_of_ble_eq_true rfl) rfl (rfl) (by omega) (by decide) ?_
      refine z_isub dX0_tell_166 rfl ?_
      refine z_iastN (j := 1) dX0_tell_167 rfl (Nat.le_of_ble_eq_true rfl) rfl (rfl) (by omega) (by decide) ?_
      refine z_n (L' := [(59, (oFol G rows outc (((due * (ttI tm)) * (X0_signIn_v now rl tm (1 - 0))) * (X5_turnOf_v (nI ((rl 0).toNatClampNeg)) (nI ((rl (beN ((4 * tm) + (2 * 0)))).toNatClampNeg)) (nI ((rl (beN (((4 * tm) + (2 * 0)) + 1))).toNatClampNeg)))))), (66, (zI G 3 (upd (upd (upd tt 0 (if (if (nI ((rl (beN (((4 * tm) + (2 * 0)) + 1))).toNatClampNeg)) < (nI ((rl (beN ((4 * tm) + (2 * 0)))).toNatClampNeg)) then (nI ((rl (beN (((4 * tm) + (2 * 0)) + 1))).toNatClampNeg)) else (nI ((rl (beN ((4 * tm) + (2 * 0)))).toNatClampNeg))) < (nI ((rl 0).toNatClampNeg)) then (if (nI ((rl (beN (((4 * tm) + (2 * 0)) + 1))).toNatClampNeg)) < (nI ((rl (beN ((4 * tm) + (2 * 0)))).toNatClampNeg)) then (nI ((rl (beN (((4 * tm) + (2 * 0)) + 1))).toNatClampNeg)) else (nI ((rl (beN ((4 * tm) + (2 * 0)))).toNatClampNeg))) else (nI ((rl 0).toNatClampNeg)))) 2 (if (nI ((rl 0).toNatClampNeg)) < (if (nI ((rl (beN ((4 * tm) + (2 * 0)))).toNatClampNeg)) < (nI ((rl (beN (((4 * tm) + (2 * 0)) + 1))).toNatClampNeg)) then (nI ((rl (beN (((4 * tm) + (2 * 0)) + 1))).toNatClampNeg)) else (nI ((rl (beN ((4 * tm) + (2 * 0)))).toNatClampNeg))) then (if (nI ((rl (beN ((4 * tm) + (2 * 0)))).toNatClampNeg)) < (nI ((rl (beN (((4 * tm) + (2 * 0)) + 1))).toNatClampNeg)) then (nI ((rl (beN (((4 * tm) + (2 * 0)) + 1))).toNatClampNeg)) else (nI ((rl (beN ((4 * tm) + (2 * 0)))).toNatClampNeg))) else (nI ((rl 0).toNatClampNeg)))) 1 (((((nI ((rl 0).toNatClampNeg)) + (nI ((rl (beN ((4 * tm) + (2 * 0)))).toNatClampNeg))) + (nI ((rl (beN (((4 * tm) + (2 * 0)) + 1))).toNatClampNeg))) - ((upd (upd tt 0 (if (if (nI ((rl (beN (((4 * tm) + (2 * 0)) + 1))).toNatClampNeg)) < (nI ((rl (beN ((4 * tm) + (2 * 0)))).toNatClampNeg)) then (nI ((rl (beN (((4 * tm) + (2 * 0)) + 1))).toNatClampNeg)) else (nI ((rl (beN ((4 * tm) + (2 * 0)))).toNatClampNeg))) < (nI ((rl 0).toNatClampNeg)) then (if (nI ((rl (beN (((4 * tm) + (2 * 0)) + 1))).toNatClampNeg)) < (nI ((rl (beN ((4 * tm) + (2 * 0)))).toNatClampNeg)) then (nI ((rl (beN (((4 * tm) + (2 * 0)) + 1))).toNatClampNeg)) else (nI ((rl (beN ((4 * tm) + (2 * 0)))).toNatClampNeg))) else (nI ((rl 0).toNatClampNeg)))) 2 (if (nI ((rl 0).toNatClampNeg)) < (if (nI ((rl (beN ((4 * tm) + (2 * 0)))).toNatClampNeg)) < (nI ((rl (beN (((4 * tm) + (2 * 0)) + 1))).toNatClampNeg)) then (nI ((rl (beN (((4 * tm) + (2 * 0)) + 1))).toNatClampNeg)) else (nI ((rl (beN ((4 * tm) + (2 * 0)))).toNatClampNeg))) then (if (nI ((rl (beN ((4 * tm) + (2 * 0)))).toNatClampNeg)) < (nI ((rl (beN (((4 * tm) + (2 * 0)) + 1))).toNatClampNeg)) then (nI ((rl (beN (((4 * tm) + (2 * 0)) + 1))).toNatClampNeg)) else (nI ((rl (beN ((4 * tm) + (2 * 0)))).toNatClampNeg))) else (nI ((rl 0).toNatClampNeg)))) 0)) - ((upd (upd tt 0 (if (if (nI ((rl (beN (((4 * tm) + (2 * 0)) + 1))).toNatClampNeg)) < (nI ((rl (beN ((4 * tm) + (2 * 0)))).toNatClampNeg)) then (nI ((rl (beN (((4 * tm) + (2 * 0)) + 1))).toNatClampNeg)) else (nI ((rl (beN ((4 * tm) + (2 * 0)))).toNatClampNeg))) < (nI ((rl 0).toNatClampNeg)) then (if (nI ((rl (beN (((4 * tm) + (2 * 0)) + 1))).toNatClampNeg)) < (nI ((rl (beN ((4 * tm) + (2 * 0)))).toNatClampNeg)) then (nI ((rl (beN (((4 * tm) + (2 * 0)) + 1))).toNatClampNeg)) else (nI ((rl (beN ((4 * tm) + (2 * 0)))).toNatClampNeg))) else (nI ((rl 0).toNatClampNeg)))) 2 (if (nI ((rl 0).toNatClampNeg)) < (if (nI ((rl (beN ((4 * tm) + (2 * 0)))).toNatClampNeg)) < (nI ((rl (beN (((4 * tm) + (2 * 0)) + 1))).toNatClampNeg)) then (nI ((rl (beN (((4 * tm) + (2 * 0)) + 1))).toNatClampNeg)) else (nI ((rl (beN ((4 * tm) + (2 * 0)))).toNatClampNeg))) then (if (nI ((rl (beN ((4 * tm) + (2 * 0)))).toNatClampNeg)) < (nI ((rl (beN (((4 * tm) + (2 * 0)) + 1))).toNatClampNeg)) then (nI ((rl (beN (((4 * tm) + (2 * 0)) + 1))).toNatClampNeg)) else (nI ((rl (beN ((4 * tm) + (2 * 0)))).toNatClampNeg))) else (nI ((rl 0).toNatClampNeg)))) 2)))))]) rfl ?_
      refine z_aload_n dX0_tell_168 rfl rfl ?_
      refine z_get dX0_tell_169 rfl hiX0_tell_X0 10 lkX0_tell_40 (Nat.le_of_ble_eq_true rfl) rfl rfl (by decide) rfl ?_
      refine z_if_ne (tgt := 199) dX0_tell_172 rfl (by decide) (fun c172 => ?_) (fun c172 => ?_)
      · refine z_iconst (v := nI 0) dX0_tell_199 rfl (by decide) ?_
        exact z_ireturn dX0_tell_200 rfl rfl (Nat.le_refl _) (Nat.le_refl _) (fun _ => rfl) ⟨by simp only [X0_tell_v, if_pos c8, if_neg c29, if_neg c172], by simp only [X0_tell_p59_2, X0_tell_c66, if_pos c8, if_neg c29, if_neg c172]⟩
      · refine z_aload_n dX0_tell_175 rfl rfl ?_
        refine z_get dX0_tell_176 rfl hiX0_tell_X0 4 lkX0_tell_43 (Nat.le_of_ble_eq_true rfl) rfl rfl (by decide) rfl ?_
        refine z_get dX0_tell_179 rfl hiX0_tell_X5 1 lkX0_tell_135 (Nat.le_of_ble_eq_true rfl) h36 rfl (by decide) rfl ?_
        refine z_iload dX0_tell_182 rfl rfl ?_
        refine z_iload dX0_tell_184 rfl rfl ?_
        refine z_iload dX0_tell_186 rfl rfl ?_
        refine z_callSi (c_X5_spotOf_N G ex _ ((rl 0).toNatClampNeg) ((rl (beN ((4 * tm) + (2 * 0)))).toNatClampNeg) ((rl (beN (((4 * tm) + (2 * 0)) + 1))).toNatClampNeg) (zvlt (hr _ (by first | omega | exact beN_lt (by omega)))) (zvlt (hr _ (by first | omega | exact beN_lt (by omega)))) (zvlt (hr _ (by first | omega | exact beN_lt (by omega))))) gX0_tell_X5_spotOf rfl dX0_tell_188 rfl rfl okk_X5_spotOf ⟨Nat.le_of_ble_eq_true rfl, Nat.le_of_ble_eq_true rfl⟩ ⟨Nat.le_of_ble_eq_true rfl, Nat.le_of_ble_eq_true rfl⟩ (Nat.le_of_ble_eq_true rfl) ?_
        refine z_zaldN (j := spN ((rl 0).toNatClampNeg) ((rl (beN ((4 * tm) + (2 * 0)))).toNatClampNeg) ((rl (beN (((4 * tm) + (2 * 0)) + 1))).toNatClampNeg)) dX0_tell_191 rfl (Nat.le_of_ble_eq_true rfl) h38 (rfl) (spN_lt (zvlt (hr _ (by first | omega | exact beN_lt (by omega)))) (zvlt (hr _ (by first | omega | exact beN_lt (by omega)))) (zvlt (hr _ (by first | omega | exact beN_lt (by omega)))) (hrd _ _ (by omega) (beN_lt (by omega)) (beN_ne0 (by omega))) (hrd _ _ (by omega) (beN_lt (by omega)) (beN_ne0 (by omega))) (hrd _ _ (beN_lt (by omega)) (beN_lt (by omega)) (beN_ne1 _ ht _ (by omega)))) (by decide) ?_
        refine z_if_eq (tgt := 199) dX0_tell_192 rfl (by decide) (fun c192 => ?_) (fun c192 => ?_)
        · refine z_iconst (v := nI 0) dX0_tell_199 rfl (by decide) ?_
          exact z_ireturn dX0_tell_200 rfl rfl (Nat.le_refl _) (Nat.le_refl _) (fun _ => rfl) ⟨by simp only [X0_tell_v, if_pos c8, if_neg c29, if_pos c172, if_pos c192], by simp only [X0_tell_p59_2, X0_tell_c66, if_pos c8, if_neg c29, if_pos c172, if_pos c192]⟩
        · refine z_iconst (v := nI 2) dX0_tell_195 rfl (by decide) ?_
          refine z_goto (tgt := 200) dX0_tell_196 (by decide) ?_
          exact z_ireturn dX0_tell_200 rfl rfl (Nat.le_refl _) (Nat.le_refl _) (fun _ => rfl) ⟨by simp only [X0_tell_v, if_pos c8, if_neg c29, if_pos c172, if_neg c192], by simp only [X0_tell_p59_2, X0_tell_c66, if_pos c8, if_neg c29, if_pos c172, if_neg c192]⟩
    · refine z_bipush (v := (-4)) dX0_tell_32 rfl (by decide) ?_
      exact z_ireturn dX0_tell_34 rfl rfl (Nat.le_refl _) (Nat.le_refl _) (fun _ => rfl) ⟨by simp only [X0_tell_v, if_pos c8, if_pos c29], by simp only [X0_tell_p59_2, X0_tell_c66, if_pos c8, if_pos c29]⟩
abbrev mX0_addRow : zM := (cX0_addRow, 4, none, RX0, wsX0_addRow, "addRow")
theorem hiX0_addRow_X0 : ∀ w ∈ wsX00, w ∈ wsX0_addRow := fun w h => List.mem_cons_of_mem _ (List.mem_append_right _ h)
theorem lkX0_addRow_18 : Cond.fieldLink RX0 18 "ConfigSearch$Following" "kind" "[I" ∈ wsX0_addRow := by decide +kernel
theorem lkX0_addRow_9 : Cond.fieldLink RX0 9 "ConfigSearch$Following" "rows" "I" ∈ wsX0_addRow := by decide +kernel
theorem lkX0_addRow_22 : Cond.fieldLink RX0 22 "ConfigSearch$Following" "signs" "[I" ∈ wsX0_addRow := by decide +kernel
theorem lkX0_addRow_40 : Cond.fieldLink RX0 40 "ConfigSearch$Following" "toldSign" "I" ∈ wsX0_addRow := by decide +kernel
theorem lkX0_addRow_34 : Cond.fieldLink RX0 34 "ConfigSearch$Following" "relation" "[I" ∈ wsX0_addRow := by decide +kernel
theorem lkX0_addRow_25 : Cond.fieldLink RX0 25 "ConfigSearch$Following" "relations" "[I" ∈ wsX0_addRow := by decide +kernel
theorem meX0_addRow_ac1_108 : Cond.methodLink RX0 108 arraycopyName ∈ wsX0_addRow := by decide +kernel
theorem meX0_addRow_ac2 : Cond.native arraycopyName ∈ wsX0_addRow := by decide +kernel
theorem meX0_addRow_ac3 : Cond.static arraycopyName ∈ wsX0_addRow := by decide +kernel
theorem meX0_addRow_ac4 : Cond.initialized "java/lang/System" ∈ wsX0_addRow := by decide +kernel
theorem lkX0_addRow_28 : Cond.fieldLink RX0 28 "ConfigSearch$Following" "triples" "[I" ∈ wsX0_addRow := by decide +kernel
theorem lkX0_addRow_37 : Cond.fieldLink RX0 37 "ConfigSearch$Following" "toldTriple" "[I" ∈ wsX0_addRow := by decide +kernel
def X0_addRow_L63_F (rw : Nat) (tt : Nat → Int32) (j : Nat) (a9 : (Nat → Int32)) : (Nat → Int32) := upd a9 ((3 * rw) + j) (tt j)
def X0_addRow_L63v2_F (rw : Nat) (j : Nat) (a9 : (Nat → Int32)) : (Nat → Int32) := upd a9 ((3 * rw) + j) (-4)
def X0_addRow_p59_0 (rw : Nat) (nk : Int32) : Nat := if nk = (nI 1) then (rw + 1) else (rw + 1)
def X0_addRow_c60 (rw : Nat) (kd : Nat → Int32) (nk : Int32) : Nat → Int32 := if nk = (nI 1) then (upd kd rw nk) else (upd kd rw nk)
def X0_addRow_c61 (rw : Nat) (ts : Int32) (sgn : Nat → Int32) (nk : Int32) : Nat → Int32 := if nk = (nI 1) then (upd sgn rw (nI 0)) else (upd sgn rw ts)
def X0_addRow_c62 (rw : Nat) (rel rl : Nat → Int32) (nk : Int32) : Nat → Int32 := if nk = (nI 1) then (va_cpy rl rel 0 (5 * rw) 5) else (va_cpy rl rel 0 (5 * rw) 5)
def X0_addRow_c63 (rw : Nat) (tri tt : Nat → Int32) (nk : Int32) : Nat → Int32 := if nk = (nI 1) then (zfold (X0_addRow_L63v2_F rw) 3 0 tri) else (zfold (X0_addRow_L63_F rw tt) 3 0 tri)
set_option maxRecDepth 100000 in
set_option maxHeartbeats 4000000 in
theorem c_X0_addRow (G : zG) (ex : Bool) (g : Nat → va_E) (rw : Nat) (outc ts : Int32) (kd sgn rel tri rl tt : Nat → Int32) (nk : Int32) (hw : rw < 60) (h59 : g 59 = (oFol G (nI rw) outc ts)) (h60 : g 60 = (zI G 60 kd)) (h61 : g 61 = (zI G 60 sgn)) (h62 : g 62 = (zI G 300 rel)) (h63 : g 63 = (zI G 180 tri)) (h65 : g 65 = (zI G 5 rl)) (h66 : g 66 = (zI G 3 tt)) : zC G yX0_addRow wsX0_addRow (zrm 1 64) ex [.ref (zB G + 59), .int nk] (zN, g) (fun r h => r = none ∧ h = (zN, zus g [(59, (oFol G (nI (X0_addRow_p59_0 rw nk)) outc ts)), (60, zI G 60 (X0_addRow_c60 rw kd nk)), (61, zI G 60 (X0_addRow_c61 rw ts sgn nk)), (62, zI G 300 (X0_addRow_c62 rw rel rl nk)), (63, zI G 180 (X0_addRow_c63 rw tri tt nk))])) := by
  refine zC_of mX0_addRow (lv := [some (.ref (zB G + 59)), some (.int nk), none, none]) rfl rfl (by decide) (by intro v hv; simp at hv; rcases hv with rfl | rfl <;> rfl) (Nat.le_of_ble_eq_true rfl) rfl ?_
  refine z_0 ?_
  refine z_heap (g' := zu (zus g []) 59 (oFol G (nI rw) outc ts)) (zu_self (zus g []) 59 _ h59).symm ?_
  refine z_n (L' := [(59, (oFol G (nI rw) outc ts))]) rfl ?_
  refine z_heap (g' := zu (zus g [(59, (oFol G (nI rw) outc ts))]) 60 (zI G 60 kd)) (zu_self (zus g [(59, (oFol G (nI rw) outc ts))]) 60 _ h60).symm ?_
  refine z_n (L' := [(59, (oFol G (nI rw) outc ts)), (60, (zI G 60 kd))]) rfl ?_
  refine z_heap (g' := zu (zus g [(59, (oFol G (nI rw) outc ts)), (60, (zI G 60 kd))]) 61 (zI G 60 sgn)) (zu_self (zus g [(59, (oFol G (nI rw) outc ts)), (60, (zI G 60 kd))]) 61 _ h61).symm ?_
  refine z_n (L' := [(59, (oFol G (nI rw) outc ts)), (60, (zI G 60 kd)), (61, (zI G 60 sgn))]) rfl ?_
  refine z_heap (g' := zu (zus g [(59, (oFol G (nI rw) outc ts)), (60, (zI G 60 kd)), (61, (zI G 60 sgn))]) 62 (zI G 300 rel)) (zu_self (zus g [(59, (oFol G (nI rw) outc ts)), (60, (zI G 60 kd)), (61, (zI G 60 sgn))]) 62 _ h62).symm ?_
  refine z_n (L' := [(59, (oFol G (nI rw) outc ts)), (60, (zI G 60 kd)), (61, (zI G 60 sgn)), (62, (zI G 300 rel))]) rfl ?_
  refine z_heap (g' := zu (zus g [(59, (oFol G (nI rw) outc ts)), (60, (zI G 60 kd)), (61, (zI G 60 sgn)), (62, (zI G 300 rel))]) 63 (zI G 180 tri)) (zu_self (zus g [(59, (oFol G (nI rw) outc ts)), (60, (zI G 60 kd)), (61, (zI G 60 sgn)), (62, (zI G 300 rel))]) 63 _ h63).symm ?_
  refine z_n (L' := [(59, (oFol G (nI rw) outc ts)), (60, (zI G 60 kd)), (61, (zI G 60 sgn)), (62, (zI G 300 rel)), (63, (zI G 180 tri))]) rfl ?_
  refine z_iload_n dX0_addRow_0 rfl rfl ?_
  refine z_iconst (v := nI 1) dX0_addRow_1 rfl (by decide) ?_
  refine z_icmp_ne (tgt := 9) dX0_addRow_2 rfl (by decide) (fun c2 => ?_) (fun c2 => ?_)
  · refine z_iconst (v := nI 0) dX0_addRow_9 rfl (by decide) ?_
    refine z_istore_2 dX0_addRow_10 rfl ?_
    refine z_aload_n dX0_addRow_11 rfl rfl ?_
    refine z_get dX0_addRow_12 rfl hiX0_addRow_X0 2 lkX0_addRow_18 (Nat.le_of_ble_eq_true rfl) rfl rfl (by decide) rfl ?_
    refine z_aload_n dX0_addRow_15 rfl rfl ?_
    refine z_get dX0_addRow_16 rfl hiX0_addRow_X0 0 lkX0_addRow_9 (Nat.le_of_ble_eq_true rfl) rfl rfl (by decide) rfl ?_
    refine z_iload_n dX0_addRow_19 rfl rfl ?_
    refine z_iastN (j := rw) dX0_addRow_20 rfl (Nat.le_of_ble_eq_true rfl) rfl (rfl) (by omega) (by decide) ?_
    refine z_n (L' := [(59, (oFol G (nI rw) outc ts)), (60, (zI G 60 (upd kd rw nk))), (61, (zI G 60 sgn)), (62, (zI G 300 rel)), (63, (zI G 180 tri))]) rfl ?_
    refine z_aload_n dX0_addRow_21 rfl rfl ?_
    refine z_get dX0_addRow_22 rfl hiX0_addRow_X0 3 lkX0_addRow_22 (Nat.le_of_ble_eq_true rfl) rfl rfl (by decide) rfl ?_
    refine z_aload_n dX0_addRow_25 rfl rfl ?_
    refine z_get dX0_addRow_26 rfl hiX0_addRow_X0 0 lkX0_addRow_9 (Nat.le_of_ble_eq_true rfl) rfl rfl (by decide) rfl ?_
    refine z_iload_n dX0_addRow_29 rfl rfl ?_
    refine z_if_eq (tgt := 37) dX0_addRow_30 rfl (by decide) (fun c30 => ?_) (fun c30 => ?_)
    · refine z_aload_n dX0_addRow_37 rfl rfl ?_
      refine z_get dX0_addRow_38 rfl hiX0_addRow_X0 10 lkX0_addRow_40 (Nat.le_of_ble_eq_true rfl) rfl rfl (by decide) rfl ?_
      refine z_iastN (j := rw) dX0_addRow_41 rfl (Nat.le_of_ble_eq_true rfl) rfl (rfl) (by omega) (by decide) ?_
      refine z_n (L' := [(59, (oFol G (nI rw) outc ts)), (60, (zI G 60 (upd kd rw nk))), (61, (zI G 60 (upd sgn rw ts))), (62, (zI G 300 rel)), (63, (zI G 180 tri))]) rfl ?_
      refine z_aload_n dX0_addRow_42 rfl rfl ?_
      refine z_get dX0_addRow_43 rfl hiX0_addRow_X0 8 lkX0_addRow_34 (Nat.le_of_ble_eq_true rfl) rfl rfl (by decide) rfl ?_
      refine z_iconst (v := nI 0) dX0_addRow_46 rfl (by decide) ?_
      refine z_aload_n dX0_addRow_47 rfl rfl ?_
      refine z_get dX0_addRow_48 rfl hiX0_addRow_X0 5 lkX0_addRow_25 (Nat.le_of_ble_eq_true rfl) rfl rfl (by decide) rfl ?_
      refine z_iconst (v := nI 5) dX0_addRow_51 rfl (by decide) ?_
      refine z_aload_n dX0_addRow_52 rfl rfl ?_
      refine z_get dX0_addRow_53 rfl hiX0_addRow_X0 0 lkX0_addRow_9 (Nat.le_of_ble_eq_true rfl) rfl rfl (by decide) rfl ?_
      refine z_imul dX0_addRow_56 rfl ?_
      refine z_iconst (v := nI 5) dX0_addRow_57 rfl (by decide) ?_
      refine z_copyN (sp9 := 0) (dp9 := 5 * rw) (n9 := 5) dX0_addRow_58 rfl meX0_addRow_ac1_108 meX0_addRow_ac2 meX0_addRow_ac3 meX0_addRow_ac4 (Nat.le_of_ble_eq_true rfl) h65 (Nat.le_of_ble_eq_true rfl) rfl rfl (zq_mul rfl rfl) rfl (by omega) (by omega) (by decide) (by decide) ⟨Nat.le_of_ble_eq_true rfl, Nat.le_of_ble_eq_true rfl⟩ ?_
      refine z_n (L' := [(59, (oFol G (nI rw) outc ts)), (60, (zI G 60 (upd kd rw nk))), (61, (zI G 60 (upd sgn rw ts))), (62, (zI G 300 (va_cpy rl rel 0 (5 * rw) 5))), (63, (zI G 180 tri))]) rfl ?_
      refine z_iconst (v := nI 0) dX0_addRow_61 rfl (by decide) ?_
      refine z_istore_3 dX0_addRow_62 rfl ?_
      refine z_forI (head := fun j (st9 : (Nat → Int32)) => Z G mX0_addRow (zrm 1 64) ex _ 63 [some (.ref (zB G + 59)), some (.int nk), some (.int (nI 0)), some (.int (nI j))] [] (zN, zus g [(59, (oFol G (nI rw) outc ts)), (60, (zI G 60 (upd kd rw nk))), (61, (zI G 60 (upd sgn rw ts))), (62, (zI G 300 (va_cpy rl rel 0 (5 * rw) 5))), (63, (zI G 180 st9))]) 0 0) (F := (X0_addRow_L63_F rw tt)) (n := 3) (fun _ _ => True) (fun _ _ _ _ => trivial) ?_ 3 0 tri (by omega) trivial ?_
      · intro j tri1 hi _ K
        refine z_iload_n dX0_addRow_63 rfl rfl ?_
        refine z_iconst (v := nI 3) dX0_addRow_64 rfl (by decide) ?_
        refine z_icmp_ge (tgt := 102) dX0_addRow_65 rfl (by decide) (fun c65 => ?_) (fun c65 => ?_)
        · exact absurd c65 (nI_ge hi (by omega))
        · refine z_aload_n dX0_addRow_68 rfl rfl ?_
          refine z_get dX0_addRow_69 rfl hiX0_addRow_X0 6 lkX0_addRow_28 (Nat.le_of_ble_eq_true rfl) rfl rfl (by decide) rfl ?_
          refine z_iconst (v := nI 3) dX0_addRow_72 rfl (by decide) ?_
          refine z_aload_n dX0_addRow_73 rfl rfl ?_
          refine z_get dX0_addRow_74 rfl hiX0_addRow_X0 0 lkX0_addRow_9 (Nat.le_of_ble_eq_true rfl) rfl rfl (by decide) rfl ?_
          refine z_imul dX0_addRow_77 rfl ?_
          refine z_iload_n dX0_addRow_78 rfl rfl ?_
          refine z_iadd dX0_addRow_79 rfl ?_
          refine z_iload_n dX0_addRow_80 rfl rfl ?_
          refine z_if_eq (tgt := 89) dX0_addRow_81 rfl (by decide) (fun c81 => ?_) (fun c81 => ?_)
          · refine z_aload_n dX0_addRow_89 rfl rfl ?_
            refine z_get dX0_addRow_90 rfl hiX0_addRow_X0 9 lkX0_addRow_37 (Nat.le_of_ble_eq_true rfl) rfl rfl (by decide) rfl ?_
            refine z_iload_n dX0_addRow_93 rfl rfl ?_
            refine z_ialdN (j := j) dX0_addRow_94 rfl (Nat.le_of_ble_eq_true rfl) h66 (rfl) (by omega) (by decide) ?_
            refine z_iastN (j := (3 * rw) + j) dX0_addRow_95 rfl (Nat.le_of_ble_eq_true rfl) rfl ((zq_add (zq_mul rfl rfl) rfl)) (by omega) (by decide) ?_
            refine z_n (L' := [(59, (oFol G (nI rw) outc ts)), (60, (zI G 60 (upd kd rw nk))), (61, (zI G 60 (upd sgn rw ts))), (62, (zI G 300 (va_cpy rl rel 0 (5 * rw) 5))), (63, (zI G 180 (upd tri1 ((3 * rw) + j) (tt j))))]) rfl ?_
            refine z_iinc_3 (v := nI (j + 1)) dX0_addRow_96 rfl (zinc _) ?_
            refine z_goto (tgt := 63) dX0_addRow_99 (by decide) ?_
            exact K
          · exact absurd (by decide) c81
      · intro _
        refine z_iload_n dX0_addRow_63 rfl rfl ?_
        refine z_iconst (v := nI 3) dX0_addRow_64 rfl (by decide) ?_
        refine z_icmp_ge (tgt := 102) dX0_addRow_65 rfl (by decide) (fun c65 => ?_) (fun c65 => ?_)
        · refine z_aload_n dX0_addRow_102 rfl rfl ?_
          refine z_dup dX0_addRow_103 rfl rfl ?_
          refine z_get dX0_addRow_104 rfl hiX0_addRow_X0 0 lkX0_addRow_9 (Nat.le_of_ble_eq_true rfl) rfl rfl (by decide) rfl ?_
          refine z_iconst (v := nI 1) dX0_addRow_107 rfl (by decide) ?_
          refine z_iadd dX0_addRow_108 rfl ?_
          refine z_top (show (nI rw) + (nI 1) = nI (rw + 1) from (zq_add rfl rfl)) ?_
          refine z_putN (e9 := (oFol G (nI (rw + 1)) outc ts)) tyX0 tyX0_ok nmX0 dX0_addRow_109 rfl hiX0_addRow_X0 0 lkX0_addRow_9 rfl (by decide +kernel) (Nat.le_of_ble_eq_true rfl) rfl rfl (by decide) (Nat.le_of_ble_eq_true rfl) rfl rfl rfl ?_
          refine z_n (L' := [(59, (oFol G (nI (rw + 1)) outc ts)), (60, (zI G 60 (upd kd rw nk))), (61, (zI G 60 (upd sgn rw ts))), (62, (zI G 300 (va_cpy rl rel 0 (5 * rw) 5))), (63, (zI G 180 (zfold (X0_addRow_L63_F rw tt) 3 0 tri)))]) rfl ?_
          exact z_return dX0_addRow_112 rfl (Nat.le_refl _) (Nat.le_refl _) (fun _ => rfl) ⟨rfl, by simp only [X0_addRow_p59_0, X0_addRow_c60, X0_addRow_c61, X0_addRow_c62, X0_addRow_c63, if_neg c2]⟩
        · exact absurd (nI_le (Nat.le_refl _) (by omega)) c65
    · exact absurd (by decide) c30
  · refine z_iconst (v := nI 1) dX0_addRow_5 rfl (by decide) ?_
    refine z_goto (tgt := 10) dX0_addRow_6 (by decide) ?_
    refine z_istore_2 dX0_addRow_10 rfl ?_
    refine z_aload_n dX0_addRow_11 rfl rfl ?_
    refine z_get dX0_addRow_12 rfl hiX0_addRow_X0 2 lkX0_addRow_18 (Nat.le_of_ble_eq_true rfl) rfl rfl (by decide) rfl ?_
    refine z_aload_n dX0_addRow_15 rfl rfl ?_
    refine z_get dX0_addRow_16 rfl hiX0_addRow_X0 0 lkX0_addRow_9 (Nat.le_of_ble_eq_true rfl) rfl rfl (by decide) rfl ?_
    refine z_iload_n dX0_addRow_19 rfl rfl ?_
    refine z_iastN (j := rw) dX0_addRow_20 rfl (Nat.le_of_ble_eq_true rfl) rfl (rfl) (by omega) (by decide) ?_
    refine z_n (L' := [(59, (oFol G (nI rw) outc ts)), (60, (zI G 60 (upd kd rw nk))), (61, (zI G 60 sgn)), (62, (zI G 300 rel)), (63, (zI G 180 tri))]) rfl ?_
    refine z_aload_n dX0_addRow_21 rfl rfl ?_
    refine z_get dX0_addRow_22 rfl hiX0_addRow_X0 3 lkX0_addRow_22 (Nat.le_of_ble_eq_true rfl) rfl rfl (by decide) rfl ?_
    refine z_aload_n dX0_addRow_25 rfl rfl ?_
    refine z_get dX0_addRow_26 rfl hiX0_addRow_X0 0 lkX0_addRow_9 (Nat.le_of_ble_eq_true rfl) rfl rfl (by decide) rfl ?_
    refine z_iload_n dX0_addRow_29 rfl rfl ?_
    refine z_if_eq (tgt := 37) dX0_addRow_30 rfl (by decide) (fun c30 => ?_) (fun c30 => ?_)
    · exact absurd c30 (by decide)
    · refine z_iconst (v := nI 0) dX0_addRow_33 rfl (by decide) ?_
      refine z_goto (tgt := 41) dX0_addRow_34 (by decide) ?_
      refine z_iastN (j := rw) dX0_addRow_41 rfl (Nat.le_of_ble_eq_true rfl) rfl (rfl) (by omega) (by decide) ?_
      refine z_n (L' := [(59, (oFol G (nI rw) outc ts)), (60, (zI G 60 (upd kd rw nk))), (61, (zI G 60 (upd sgn rw (nI 0)))), (62, (zI G 300 rel)), (63, (zI G 180 tri))]) rfl ?_
      refine z_aload_n dX0_addRow_42 rfl rfl ?_
      refine z_get dX0_addRow_43 rfl hiX0_addRow_X0 8 lkX0_addRow_34 (Nat.le_of_ble_eq_true rfl) rfl rfl (by decide) rfl ?_
      refine z_iconst (v := nI 0) dX0_addRow_46 rfl (by decide) ?_
      refine z_aload_n dX0_addRow_47 rfl rfl ?_
      refine z_get dX0_addRow_48 rfl hiX0_addRow_X0 5 lkX0_addRow_25 (Nat.le_of_ble_eq_true rfl) rfl rfl (by decide) rfl ?_
      refine z_iconst (v := nI 5) dX0_addRow_51 rfl (by decide) ?_
      refine z_aload_n dX0_addRow_52 rfl rfl ?_
      refine z_get dX0_addRow_53 rfl hiX0_addRow_X0 0 lkX0_addRow_9 (Nat.le_of_ble_eq_true rfl) rfl rfl (by decide) rfl ?_
      refine z_imul dX0_addRow_56 rfl ?_
      refine z_iconst (v := nI 5) dX0_addRow_57 rfl (by decide) ?_
      refine z_copyN (sp9 := 0) (dp9 := 5 * rw) (n9 := 5) dX0_addRow_58 rfl meX0_addRow_ac1_108 meX0_addRow_ac2 meX0_addRow_ac3 meX0_addRow_ac4 (Nat.le_of_ble_eq_true rfl) h65 (Nat.le_of_ble_eq_true rfl) rfl rfl (zq_mul rfl rfl) rfl (by omega) (by omega) (by decide) (by decide) ⟨Nat.le_of_ble_eq_true rfl, Nat.le_of_ble_eq_true rfl⟩ ?_
      refine z_n (L' := [(59, (oFol G (nI rw) outc ts)), (60, (zI G 60 (upd kd rw nk))), (61, (zI G 60 (upd sgn rw (nI 0)))), (62, (zI G 300 (va_cpy rl rel 0 (5 * rw) 5))), (63, (zI G 180 tri))]) rfl ?_
      refine z_iconst (v := nI 0) dX0_addRow_61 rfl (by decide) ?_
      refine z_istore_3 dX0_addRow_62 rfl ?_
      refine z_forI (head := fun j (st9 : (Nat → Int32)) => Z G mX0_addRow (zrm 1 64) ex _ 63 [some (.ref (zB G + 59)), some (.int nk), some (.int (nI 1)), some (.int (nI j))] [] (zN, zus g [(59, (oFol G (nI rw) outc ts)), (60, (zI G 60 (upd kd rw nk))), (61, (zI G 60 (upd sgn rw (nI 0)))), (62, (zI G 300 (va_cpy rl rel 0 (5 * rw) 5))), (63, (zI G 180 st9))]) 0 0) (F := (X0_addRow_L63v2_F rw)) (n := 3) (fun _ _ => True) (fun _ _ _ _ => trivial) ?_ 3 0 tri (by omega) trivial ?_
      · intro j tri1 hi _ K
        refine z_iload_n dX0_addRow_63 rfl rfl ?_
        refine z_iconst (v := nI 3) dX0_addRow_64 rfl (by decide) ?_
        refine z_icmp_ge (tgt := 102) dX0_addRow_65 rfl (by decide) (fun c65 => ?_) (fun c65 => ?_)
        · exact absurd c65 (nI_ge hi (by omega))
        · refine z_aload_n dX0_addRow_68 rfl rfl ?_
          refine z_get dX0_addRow_69 rfl hiX0_addRow_X0 6 lkX0_addRow_28 (Nat.le_of_ble_eq_true rfl) rfl rfl (by decide) rfl ?_
          refine z_iconst (v := nI 3) dX0_addRow_72 rfl (by decide) ?_
          refine z_aload_n dX0_addRow_73 rfl rfl ?_
          refine z_get dX0_addRow_74 rfl hiX0_addRow_X0 0 lkX0_addRow_9 (Nat.le_of_ble_eq_true rfl) rfl rfl (by decide) rfl ?_
          refine z_imul dX0_addRow_77 rfl ?_
          refine z_iload_n dX0_addRow_78 rfl rfl ?_
          refine z_iadd dX0_addRow_79 rfl ?_
          refine z_iload_n dX0_addRow_80 rfl rfl ?_
          refine z_if_eq (tgt := 89) dX0_addRow_81 rfl (by decide) (fun c81 => ?_) (fun c81 => ?_)
          · exact absurd c81 (by decide)
          · refine z_bipush (v := (-4)) dX0_addRow_84 rfl (by decide) ?_
            refine z_goto (tgt := 95) dX0_addRow_86 (by decide) ?_
            refine z_iastN (j := (3 * rw) + j) dX0_addRow_95 rfl (Nat.le_of_ble_eq_true rfl) rfl ((zq_add (zq_mul rfl rfl) rfl)) (by omega) (by decide) ?_
            refine z_n (L' := [(59, (oFol G (nI rw) outc ts)), (60, (zI G 60 (upd kd rw nk))), (61, (zI G 60 (upd sgn rw (nI 0)))), (62, (zI G 300 (va_cpy rl rel 0 (5 * rw) 5))), (63, (zI G 180 (upd tri1 ((3 * rw) + j) (-4))))]) rfl ?_
            refine z_iinc_3 (v := nI (j + 1)) dX0_addRow_96 rfl (zinc _) ?_
            refine z_goto (tgt := 63) dX0_addRow_99 (by decide) ?_
            exact K
      · intro _
        refine z_iload_n dX0_addRow_63 rfl rfl ?_
        refine z_iconst (v := nI 3) dX0_addRow_64 rfl (by decide) ?_
        refine z_icmp_ge (tgt := 102) dX0_addRow_65 rfl (by decide) (fun c65 => ?_) (fun c65 => ?_)
        · refine z_aload_n dX0_addRow_102 rfl rfl ?_
          refine z_dup dX0_addRow_103 rfl rfl ?_
          refine z_get dX0_addRow_104 rfl hiX0_addRow_X0 0 lkX0_addRow_9 (Nat.le_of_ble_eq_true rfl) rfl rfl (by decide) rfl ?_
          refine z_iconst (v := nI 1) dX0_addRow_107 rfl (by decide) ?_
          refine z_iadd dX0_addRow_108 rfl ?_
          refine z_top (show (nI rw) + (nI 1) = nI (rw + 1) from (zq_add rfl rfl)) ?_
          refine z_putN (e9 := (oFol G (nI (rw + 1)) outc ts)) tyX0 tyX0_ok nmX0 dX0_addRow_109 rfl hiX0_addRow_X0 0 lkX0_addRow_9 rfl (by decide +kernel) (Nat.le_of_ble_eq_true rfl) rfl rfl (by decide) (Nat.le_of_ble_eq_true rfl) rfl rfl rfl ?_
          refine z_n (L' := [(59, (oFol G (nI (rw + 1)) outc ts)), (60, (zI G 60 (upd kd rw nk))), (61, (zI G 60 (upd sgn rw (nI 0)))), (62, (zI G 300 (va_cpy rl rel 0 (5 * rw) 5))), (63, (zI G 180 (zfold (X0_addRow_L63v2_F rw) 3 0 tri)))]) rfl ?_
          exact z_return dX0_addRow_112 rfl (Nat.le_refl _) (Nat.le_refl _) (fun _ => rfl) ⟨rfl, by simp only [X0_addRow_p59_0, X0_addRow_c60, X0_addRow_c61, X0_addRow_c62, X0_addRow_c63, if_pos c2]⟩
        · exact absurd (nI_le (Nat.le_refl _) (by omega)) c65
