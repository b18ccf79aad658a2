abbrev mX7_isIn : zM := (cX7_isIn, 3, (some .boolean), RX7, wsX7_isIn, "isIn")
def X7_isIn_v (v lo hi : Int32) : Int32 := if v < lo then (nI 0) else (if hi < v then (nI 0) else (nI 1))
set_option maxRecDepth 100000 in
set_option maxHeartbeats 4000000 in
theorem c_X7_isIn (G : zG) (ex : Bool) (g : Nat → va_E) (v lo hi : Int32)   : zC G yX7_isIn wsX7_isIn (zrm 0 0) ex [.int v, .int lo, .int hi] (zN, g) (fun r h => r = some (.int (X7_isIn_v v lo hi)) ∧ h = (zN, g)) := by
  refine zC_of mX7_isIn (lv := [some (.int v), some (.int lo), some (.int hi)]) rfl rfl (by decide) (by intro v hv; simp at hv; rcases hv with rfl | rfl | rfl <;> rfl) (Nat.le_of_ble_eq_true rfl) rfl ?_
  refine z_0 ?_
  refine z_iload_n dX7_isIn_0 rfl rfl ?_
  refine z_iload_n dX7_isIn_1 rfl rfl ?_
  refine z_icmp_lt (tgt := 14) dX7_isIn_2 rfl (by decide) (fun c2 => ?_) (fun c2 => ?_)
  · refine z_iconst (v := nI 0) dX7_isIn_14 rfl (by decide) ?_
    exact z_ireturn dX7_isIn_15 rfl rfl (Nat.le_refl _) (Nat.le_refl _) (fun _ => rfl) ⟨by simp only [X7_isIn_v, if_pos c2], rfl⟩
  · refine z_iload_n dX7_isIn_5 rfl rfl ?_
    refine z_iload_n dX7_isIn_6 rfl rfl ?_
    refine z_icmp_gt (tgt := 14) dX7_isIn_7 rfl (by decide) (fun c7 => ?_) (fun c7 => ?_)
    · refine z_iconst (v := nI 0) dX7_isIn_14 rfl (by decide) ?_
      exact z_ireturn dX7_isIn_15 rfl rfl (Nat.le_refl _) (Nat.le_refl _) (fun _ => rfl) ⟨by simp only [X7_isIn_v, if_neg c2, if_pos c7], rfl⟩
    · refine z_iconst (v := nI 1) dX7_isIn_10 rfl (by decide) ?_
      refine z_goto (tgt := 15) dX7_isIn_11 (by decide) ?_
      exact z_ireturn dX7_isIn_15 rfl rfl (Nat.le_refl _) (Nat.le_refl _) (fun _ => rfl) ⟨by simp only [X7_isIn_v, if_neg c2, if_neg c7], rfl⟩
abbrev mX7_thrown : zM := (cX7_thrown, 1, (some .int), RX7, wsX7_thrown, "thrown")
theorem hiX7_thrown_X7 : ∀ w ∈ wsX70, w ∈ wsX7_thrown := fun w h => List.mem_cons_of_mem _ (List.mem_append_right _ h)
theorem lkX7_thrown_122 : Cond.fieldLink RX7 122 "ConfigSearchModel" "code" "I" ∈ wsX7_thrown := by decide +kernel
set_option maxRecDepth 100000 in
set_option maxHeartbeats 4000000 in
theorem c_X7_thrown (G : zG) (ex : Bool) (g : Nat → va_E) (code : Int32) (tps pts lns wds brs ors : Nat) (stp hasP fld laid told : Int32) (rws : Nat) (cms : Int32) (cmT : Nat) (cmS isN : Int32) (trs : Nat)   (h76 : g 76 = (oMod G code (nI tps) (nI pts) (nI lns) (nI wds) (nI brs) (nI ors) stp hasP fld laid told (nI rws) cms (nI cmT) cmS isN (nI trs))) : zC G yX7_thrown wsX7_thrown (zrm 0 0) ex [.ref (zB G + 76)] (zN, g) (fun r h => r = some (.int code) ∧ h = (zN, g)) := by
  refine zC_of mX7_thrown (lv := [some (.ref (zB G + 76))]) rfl rfl (by decide) (by intro v hv; simp at hv; subst hv; rfl) (Nat.le_of_ble_eq_true rfl) rfl ?_
  refine z_0 ?_
  refine z_aload_n dX7_thrown_0 rfl rfl ?_
  refine z_get dX7_thrown_1 rfl hiX7_thrown_X7 0 lkX7_thrown_122 (Nat.le_of_ble_eq_true rfl) h76 rfl (by decide) rfl ?_
  exact z_ireturn dX7_thrown_4 rfl rfl (Nat.le_refl _) (Nat.le_refl _) (fun _ => rfl) ⟨rfl, rfl⟩
abbrev mX7_sign : zM := (cX7_sign, 2, (some .int), RX7, wsX7_sign, "sign")
theorem hiX7_sign_X7 : ∀ w ∈ wsX70, w ∈ wsX7_sign := fun w h => List.mem_cons_of_mem _ (List.mem_append_right _ h)
theorem lkX7_sign_122 : Cond.fieldLink RX7 122 "ConfigSearchModel" "code" "I" ∈ wsX7_sign := by decide +kernel
theorem okk_X7_isIn : zOk yX7_isIn 3 := by unfold zOk; decide +kernel
theorem lkX7_sign_129 : Cond.fieldLink RX7 129 "ConfigSearchModel" "tapeSize" "I" ∈ wsX7_sign := by decide +kernel
theorem lkX7_sign_7 : Cond.fieldLink RX7 7 "ConfigSearchModel" "tape" "[I" ∈ wsX7_sign := by decide +kernel
def X7_sign_v (tps : Nat) (c : Int32) : Int32 := if (X7_isIn_v c (nI 0) (nI 255)) = 0 then (-9) else (if (nI tps) = (nI 80) then (-3) else (nI (tps + 1)))
def X7_sign_p76_0 (tps : Nat) (c : Int32) : Nat := if (X7_isIn_v c (nI 0) (nI 255)) = 0 then 0 else (if (nI tps) = (nI 80) then 0 else 0)
def X7_sign_p76_1 (tps : Nat) (c : Int32) : Nat := if (X7_isIn_v c (nI 0) (nI 255)) = 0 then tps else (if (nI tps) = (nI 80) then tps else (tps + 1))
def X7_sign_c77 (tps : Nat) (tape : Nat → Int32) (c : Int32) : Nat → Int32 := if (X7_isIn_v c (nI 0) (nI 255)) = 0 then tape else (if (nI tps) = (nI 80) then tape else (upd tape tps c))
set_option maxRecDepth 100000 in
set_option maxHeartbeats 4000000 in
theorem c_X7_sign (G : zG) (ex : Bool) (g : Nat → va_E) (code : Int32) (tps pts lns wds brs ors : Nat) (stp hasP fld laid told : Int32) (rws : Nat) (cms : Int32) (cmT : Nat) (cmS isN : Int32) (trs : Nat) (tape : Nat → Int32) (c : Int32) (ht : tps ≤ 80) (h76 : g 76 = (oMod G code (nI tps) (nI pts) (nI lns) (nI wds) (nI brs) (nI ors) stp hasP fld laid told (nI rws) cms (nI cmT) cmS isN (nI trs))) (h77 : g 77 = (zI G 80 tape)) : zC G yX7_sign wsX7_sign (zrm 1 22) ex [.ref (zB G + 76), .int c] (zN, g) (fun r h => r = some (.int (X7_sign_v tps c)) ∧ h = (zN, zus g [(76, (oMod G (nI (X7_sign_p76_0 tps c)) (nI (X7_sign_p76_1 tps c)) (nI pts) (nI lns) (nI wds) (nI brs) (nI ors) stp hasP fld laid told (nI rws) cms (nI cmT) cmS isN (nI trs))), (77, zI G 80 (X7_sign_c77 tps tape c))])) := by
  refine zC_of mX7_sign (lv := [some (.ref (zB G + 76)), some (.int c)]) rfl rfl (by decide) (by intro v hv; simp at hv; rcases hv with rfl | rfl <;> rfl) (Nat.le_of_ble_eq_true rfl) rfl ?_
  refine z_0 ?_
  refine z_heap (g' := zu (zus g []) 76 (oMod G code (nI tps) (nI pts) (nI lns) (nI wds) (nI brs) (nI ors) stp hasP fld laid told (nI rws) cms (nI cmT) cmS isN (nI trs))) (zu_self (zus g []) 76 _ h76).symm ?_
  refine z_n (L' := [(76, (oMod G code (nI tps) (nI pts) (nI lns) (nI wds) (nI brs) (nI ors) stp hasP fld laid told (nI rws) cms (nI cmT) cmS isN (nI trs)))]) rfl ?_
  refine z_heap (g' := zu (zus g [(76, (oMod G code (nI tps) (nI pts) (nI lns) (nI wds) (nI brs) (nI ors) stp hasP fld laid told (nI rws) cms (nI cmT) cmS isN (nI trs)))]) 77 (zI G 80 tape)) (zu_self (zus g [(76, (oMod G code (nI tps) (nI pts) (nI lns) (nI wds) (nI brs) (nI ors) stp hasP fld laid told (nI rws) cms (nI cmT) cmS isN (nI trs)))]) 77 _ h77).symm ?_
  refine z_n (L' := [(76, (oMod G code (nI tps) (nI pts) (nI lns) (nI wds) (nI brs) (nI ors) stp hasP fld laid told (nI rws) cms (nI cmT) cmS isN (nI trs))), (77, (zI G 80 tape))]) rfl ?_
  refine z_aload_n dX7_sign_0 rfl rfl ?_
  refine z_iconst (v := nI 0) dX7_sign_1 rfl (by decide) ?_
  refine z_putN (e9 := (oMod G (nI 0) (nI tps) (nI pts) (nI lns) (nI wds) (nI brs) (nI ors) stp hasP fld laid told (nI rws) cms (nI cmT) cmS isN (nI trs))) tyX7 tyX7_ok nmX7 dX7_sign_2 rfl hiX7_sign_X7 0 lkX7_sign_122 rfl (by decide +kernel) (Nat.le_of_ble_eq_true rfl) rfl rfl (by decide) (Nat.le_of_ble_eq_true rfl) rfl rfl rfl ?_
  refine z_n (L' := [(76, (oMod G (nI 0) (nI tps) (nI pts) (nI lns) (nI wds) (nI brs) (nI ors) stp hasP fld laid told (nI rws) cms (nI cmT) cmS isN (nI trs))), (77, (zI G 80 tape))]) rfl ?_
  refine z_iload_n dX7_sign_5 rfl rfl ?_
  refine z_iconst (v := nI 0) dX7_sign_6 rfl (by decide) ?_
  refine z_sipush (v := nI 255) dX7_sign_7 rfl (by decide) ?_
  refine z_callSi (c_X7_isIn G ex _ c (nI 0) (nI 255)) gX7_sign_X7_isIn rfl dX7_sign_10 rfl rfl okk_X7_isIn ⟨Nat.le_of_ble_eq_true rfl, Nat.le_of_ble_eq_true rfl⟩ ⟨Nat.le_of_ble_eq_true rfl, Nat.le_of_ble_eq_true rfl⟩ (Nat.le_of_ble_eq_true rfl) ?_
  refine z_if_ne (tgt := 19) dX7_sign_13 rfl (by decide) (fun c13 => ?_) (fun c13 => ?_)
  · refine z_aload_n dX7_sign_19 rfl rfl ?_
    refine z_get dX7_sign_20 rfl hiX7_sign_X7 2 lkX7_sign_129 (Nat.le_of_ble_eq_true rfl) rfl rfl (by decide) rfl ?_
    refine z_bipush (v := nI 80) dX7_sign_23 rfl (by decide) ?_
    refine z_icmp_ne (tgt := 31) dX7_sign_25 rfl (by decide) (fun c25 => ?_) (fun c25 => ?_)
    · refine z_aload_n dX7_sign_31 rfl rfl ?_
      refine z_get dX7_sign_32 rfl hiX7_sign_X7 1 lkX7_sign_7 (Nat.le_of_ble_eq_true rfl) rfl rfl (by decide) rfl ?_
      refine z_aload_n dX7_sign_35 rfl rfl ?_
      refine z_get dX7_sign_36 rfl hiX7_sign_X7 2 lkX7_sign_129 (Nat.le_of_ble_eq_true rfl) rfl rfl (by decide) rfl ?_
      refine z_iload_n dX7_sign_39 rfl rfl ?_
      refine z_iastN (j := tps) dX7_sign_40 rfl (Nat.le_of_ble_eq_true rfl) rfl (rfl) (by
            rcases Nat.lt_or_ge tps 80 with q | q
            · exact q
            · exact absurd (by rw [show tps = 80 by omega]) c25) (by decide) ?_
      refine z_n (L' := [(76, (oMod G (nI 0) (nI tps) (nI pts) (nI lns) (nI wds) (nI brs) (nI ors) stp hasP fld laid told (nI rws) cms (nI cmT) cmS isN (nI trs))), (77, (zI G 80 (upd tape tps c)))]) rfl ?_
      refine z_aload_n dX7_sign_41 rfl rfl ?_
      refine z_dup dX7_sign_42 rfl rfl ?_
      refine z_get dX7_sign_43 rfl hiX7_sign_X7 2 lkX7_sign_129 (Nat.le_of_ble_eq_true rfl) rfl rfl (by decide) rfl ?_
      refine z_iconst (v := nI 1) dX7_sign_46 rfl (by decide) ?_
      refine z_iadd dX7_sign_47 rfl ?_
      refine z_top (show (nI tps) + (nI 1) = nI (tps + 1) from (zq_add rfl rfl)) ?_
      refine z_putN (e9 := (oMod G (nI 0) (nI (tps + 1)) (nI pts) (nI lns) (nI wds) (nI brs) (nI ors) stp hasP fld laid told (nI rws) cms (nI cmT) cmS isN (nI trs))) tyX7 tyX7_ok nmX7 dX7_sign_48 rfl hiX7_sign_X7 2 lkX7_sign_129 rfl (by decide +kernel) (Nat.le_of_ble_eq_true rfl) rfl rfl (by decide) (Nat.le_of_ble_eq_true rfl) rfl rfl rfl ?_
      refine z_n (L' := [(76, (oMod G (nI 0) (nI (tps + 1)) (nI pts) (nI lns) (nI wds) (nI brs) (nI ors) stp hasP fld laid told (nI rws) cms (nI cmT) cmS isN (nI trs))), (77, (zI G 80 (upd tape tps c)))]) rfl ?_
      refine z_aload_n dX7_sign_51 rfl rfl ?_
      refine z_get dX7_sign_52 rfl hiX7_sign_X7 2 lkX7_sign_129 (Nat.le_of_ble_eq_true rfl) rfl rfl (by decide) rfl ?_
      exact z_ireturn dX7_sign_55 rfl rfl (Nat.le_refl _) (Nat.le_refl _) (fun _ => rfl) ⟨by simp only [X7_sign_v, if_neg c13, if_neg c25], by simp only [X7_sign_p76_0, X7_sign_p76_1, X7_sign_c77, if_neg c13, if_neg c25]⟩
    · refine z_bipush (v := (-3)) dX7_sign_28 rfl (by decide) ?_
      exact z_ireturn dX7_sign_30 rfl rfl (Nat.le_refl _) (Nat.le_refl _) (fun _ => rfl) ⟨by simp only [X7_sign_v, if_neg c13, if_pos c25], by simp only [X7_sign_p76_0, X7_sign_p76_1, X7_sign_c77, if_neg c13, if_pos c25]⟩
  · refine z_bipush (v := (-9)) dX7_sign_16 rfl (by decide) ?_
    exact z_ireturn dX7_sign_18 rfl rfl (Nat.le_refl _) (Nat.le_refl _) (fun _ => rfl) ⟨by simp only [X7_sign_v, if_pos c13], by simp only [X7_sign_p76_0, X7_sign_p76_1, X7_sign_c77, if_pos c13]⟩
abbrev mX7_mayCome : zM := (cX7_mayCome, 6, (some .boolean), RX7, wsX7_mayCome, "mayCome")
theorem hiX7_mayCome_X7 : ∀ w ∈ wsX70, w ∈ wsX7_mayCome := fun w h => List.mem_cons_of_mem _ (List.mem_append_right _ h)
theorem lkX7_mayCome_132 : Cond.fieldLink RX7 132 "ConfigSearchModel" "words" "I" ∈ wsX7_mayCome := by decide +kernel
theorem lkX7_mayCome_34 : Cond.fieldLink RX7 34 "ConfigSearchModel" "wordMask" "[I" ∈ wsX7_mayCome := by decide +kernel
def X7_mayCome_L54_F (wds : Nat) (wm : Nat → Int32) (lt : Int32) (k : Nat) (a9 : (Int32)) : (Int32) := if a9 = 0 then a9 else (if (((wm k) >>> (lt &&& 31)) &&& (nI 1)) = 0 then (nI 1) else (if ((wm k) &&& (wm (wds - 1))) = 0 then (nI 1) else (nI 0)))
def X7_mayCome_L54_B (wds : Nat) (wm : Nat → Int32) (lt : Int32) (k : Nat) (a9 : (Int32)) : Option ((Int32)) := if a9 = 0 then (some a9) else (if (((wm k) >>> (lt &&& 31)) &&& (nI 1)) = 0 then none else (if ((wm k) &&& (wm (wds - 1))) = 0 then none else none))
def X7_mayCome_L54v2_F (wds : Nat) (wm : Nat → Int32) (lt : Int32) (k : Nat) (a9 : (Int32)) : (Int32) := if a9 = 0 then a9 else (if (((wm k) >>> (lt &&& 31)) &&& (nI 1)) = 0 then (nI 1) else (if ((wm k) &&& (wm (wds - 1))) = 0 then (nI 1) else (nI 0)))
def X7_mayCome_L54v2_B (wds : Nat) (wm : Nat → Int32) (lt : Int32) (k : Nat) (a9 : (Int32)) : Option ((Int32)) := if a9 = 0 then (some a9) else (if (((wm k) >>> (lt &&& 31)) &&& (nI 1)) = 0 then none else (if ((wm k) &&& (wm (wds - 1))) = 0 then none else none))
def X7_mayCome_L54v3_F (wds : Nat) (wm : Nat → Int32) (lt : Int32) (k : Nat) (a9 : (Int32)) : (Int32) := if a9 = 0 then a9 else (if (((wm k) >>> (lt &&& 31)) &&& (nI 1)) = 0 then (nI 1) else (if ((wm k) &&& (wm (wds - 1))) = 0 then (nI 1) else (nI 0)))
def X7_mayCome_L54v3_B (wds : Nat) (wm : Nat → Int32) (lt : Int32) (k : Nat) (a9 : (Int32)) : Option ((Int32)) := if a9 = 0 then (some a9) else (if (((wm k) >>> (lt &&& 31)) &&& (nI 1)) = 0 then none else (if ((wm k) &&& (wm (wds - 1))) = 0 then none else none))
def X7_mayCome_v (wds : Nat) (wm : Nat → Int32) (lt : Int32) (sz : Nat) : Int32 := if (nI sz) = 0 then (if (nI 12) ≤ (nI wds) then (nI 0) else (nI 1)) else (if (nI 5) ≤ (nI sz) then ((zfoldX (X7_mayCome_L54_B wds wm lt) (X7_mayCome_L54_F wds wm lt) (wds - 1) 0 (nI 0)).2) else (if (((wm (wds - 1)) >>> (lt &&& 31)) &&& (nI 1)) = 0 then ((zfoldX (X7_mayCome_L54v3_B wds wm lt) (X7_mayCome_L54v3_F wds wm lt) (wds - 1) 0 (nI 1)).2) else ((zfoldX (X7_mayCome_L54v2_B wds wm lt) (X7_mayCome_L54v2_F wds wm lt) (wds - 1) 0 (nI 0)).2)))
set_option maxRecDepth 100000 in
set_option maxHeartbeats 4000000 in
theorem c_X7_mayCome (G : zG) (ex : Bool) (g : Nat → va_E) (code : Int32) (tps pts lns wds brs ors : Nat) (stp hasP fld laid told : Int32) (rws : Nat) (cms : Int32) (cmT : Nat) (cmS isN : Int32) (trs : Nat) (wm : Nat → Int32) (lt : Int32) (sz : Nat) (hw : sz = 0 ∨ 1 ≤ wds) (hw2 : wds ≤ 13) (hsz : sz < 100) (h76 : g 76 = (oMod G code (nI tps) (nI pts) (nI lns) (nI wds) (nI brs) (nI ors) stp hasP fld laid told (nI rws) cms (nI cmT) cmS isN (nI trs))) (h85 : g 85 = (zI G 13 wm)) : zC G yX7_mayCome wsX7_mayCome (zrm 0 0) ex [.ref (zB G + 76), .int lt, .int (nI sz)] (zN, g) (fun r h => r = some (.int (X7_mayCome_v wds wm lt sz)) ∧ h = (zN, g)) := by
  refine zC_of mX7_mayCome (lv := [some (.ref (zB G + 76)), some (.int lt), some (.int (nI sz)), none, none, none]) rfl rfl (by decide) (by intro v hv; simp at hv; rcases hv with rfl | rfl | rfl <;> rfl) (Nat.le_of_ble_eq_true rfl) rfl ?_
  refine z_0 ?_
  refine z_iload_n dX7_mayCome_0 rfl rfl ?_
  refine z_if_ne (tgt := 19) dX7_mayCome_1 rfl (by decide) (fun c1 => ?_) (fun c1 => ?_)
  · have hw3 : 1 ≤ wds := by
      rcases hw with q | q
      · exact absurd (by rw [q]; rfl) c1
      · exact q
    refine z_aload_n dX7_mayCome_19 rfl rfl ?_
    refine z_get dX7_mayCome_20 rfl hiX7_mayCome_X7 10 lkX7_mayCome_132 (Nat.le_of_ble_eq_true rfl) h76 rfl (by decide) rfl ?_
    refine z_iconst (v := nI 1) dX7_mayCome_23 rfl (by decide) ?_
    refine z_isub dX7_mayCome_24 rfl ?_
    refine z_top (show (nI wds) - (nI 1) = nI (wds - 1) from (zq_sub rfl rfl (by omega))) ?_
    refine z_istore_3 dX7_mayCome_25 rfl ?_
    refine z_iload_n dX7_mayCome_26 rfl rfl ?_
    refine z_iconst (v := nI 5) dX7_mayCome_27 rfl (by decide) ?_
    refine z_icmp_ge (tgt := 48) dX7_mayCome_28 rfl (by decide) (fun c28 => ?_) (fun c28 => ?_)
    · refine z_iconst (v := nI 0) dX7_mayCome_48 rfl (by decide) ?_
      refine z_istore_4 dX7_mayCome_49 rfl ?_
      refine z_iconst (v := nI 0) dX7_mayCome_51 rfl (by decide) ?_
      refine z_istore_5 dX7_mayCome_52 rfl ?_
      refine z_forX (head := fun k (st9 : (Int32)) => Z G mX7_mayCome (zrm 0 0) ex _ 54 [some (.ref (zB G + 76)), some (.int lt), some (.int (nI sz)), some (.int (nI (wds - 1))), some (.int st9), some (.int (nI k))] [] (zN, zus g []) 0 0) (out := fun k (st9 : (Int32)) => Z G mX7_mayCome (zrm 0 0) ex (fun r h => r = some (.int (X7_mayCome_v wds wm lt sz)) ∧ h = (zN, g)) 109 [some (.ref (zB G + 76)), some (.int lt), some (.int (nI sz)), some (.int (nI (wds - 1))), some (.int st9), some (.int (nI k))] [] (zN, zus g []) 0 0) (B := (X7_mayCome_L54_B wds wm lt)) (F := (X7_mayCome_L54_F wds wm lt)) (n := wds - 1) (fun _ a => a = nI 0 ∨ a = nI 1) (fun _ a => a = nI 0 ∨ a = nI 1) (fun i a hi h _ => by
            unfold X7_mayCome_L54_F
            repeat' split
            all_goals first | exact h | exact Or.inl rfl | exact Or.inr rfl) (fun i a b hi h hB => by
            unfold X7_mayCome_L54_B at hB
            repeat' split at hB
            all_goals (cases hB <;> first | exact h | exact Or.inl rfl | exact Or.inr rfl)) (fun _ h => h) ?_ ?_ (wds - 1) 0 (nI 0) (by omega) (by first | exact Or.inl rfl | exact Or.inr rfl) ?_
      · intro k may1 hi hI Ko K
        refine z_iload dX7_mayCome_54 rfl rfl ?_
        refine z_iload_n dX7_mayCome_56 rfl rfl ?_
        refine z_icmp_ge (tgt := 109) dX7_mayCome_57 rfl (by decide) (fun c57 => ?_) (fun c57 => ?_)
        · exact absurd c57 (nI_ge hi (by omega))
        · refine z_iload dX7_mayCome_60 rfl rfl ?_
          refine z_if_eq (tgt := 109) dX7_mayCome_62 rfl (by decide) (fun c62 => ?_) (fun c62 => ?_)
          · exact Ko may1 (by simp only [X7_mayCome_L54_B, if_pos c62])
          · refine z_aload_n dX7_mayCome_65 rfl rfl ?_
            refine z_get dX7_mayCome_66 rfl hiX7_mayCome_X7 13 lkX7_mayCome_34 (Nat.le_of_ble_eq_true rfl) h76 rfl (by decide) rfl ?_
            refine z_iload dX7_mayCome_69 rfl rfl ?_
            refine z_ialdN (j := k) dX7_mayCome_71 rfl (Nat.le_of_ble_eq_true rfl) h85 (rfl) (by omega) (by decide) ?_
            refine z_iload_n dX7_mayCome_72 rfl rfl ?_
            refine z_ishr dX7_mayCome_73 rfl ?_
            refine z_iconst (v := nI 1) dX7_mayCome_74 rfl (by decide) ?_
            refine z_iand dX7_mayCome_75 rfl ?_
            refine z_if_eq (tgt := 96) dX7_mayCome_76 rfl (by decide) (fun c76 => ?_) (fun c76 => ?_)
            · refine z_iconst (v := nI 1) dX7_mayCome_96 rfl (by decide) ?_
              refine z_goto (tgt := 101) dX7_mayCome_97 (by decide) ?_
              refine z_istore_4 dX7_mayCome_101 rfl ?_
              refine z_iinc_5 (v := nI (k + 1)) dX7_mayCome_103 rfl (zinc _) ?_
              refine z_goto (tgt := 54) dX7_mayCome_106 (by decide) ?_
              have K9 := (K (by simp only [X7_mayCome_L54_B, if_neg c62, if_pos c76]))
              try simp only [X7_mayCome_L54_F, if_neg c62, if_pos c76] at K9
              exact K9
            · refine z_aload_n dX7_mayCome_79 rfl rfl ?_
              refine z_get dX7_mayCome_80 rfl hiX7_mayCome_X7 13 lkX7_mayCome_34 (Nat.le_of_ble_eq_true rfl) h76 rfl (by decide) rfl ?_
              refine z_iload dX7_mayCome_83 rfl rfl ?_
              refine z_ialdN (j := k) dX7_mayCome_85 rfl (Nat.le_of_ble_eq_true rfl) h85 (rfl) (by omega) (by decide) ?_
              refine z_aload_n dX7_mayCome_86 rfl rfl ?_
              refine z_get dX7_mayCome_87 rfl hiX7_mayCome_X7 13 lkX7_mayCome_34 (Nat.le_of_ble_eq_true rfl) h76 rfl (by decide) rfl ?_
              refine z_iload_n dX7_mayCome_90 rfl rfl ?_
              refine z_ialdN (j := wds - 1) dX7_mayCome_91 rfl (Nat.le_of_ble_eq_true rfl) h85 (rfl) (by omega) (by decide) ?_
              refine z_iand dX7_mayCome_92 rfl ?_
              refine z_if_ne (tgt := 100) dX7_mayCome_93 rfl (by decide) (fun c93 => ?_) (fun c93 => ?_)
              · refine z_iconst (v := nI 0) dX7_mayCome_100 rfl (by decide) ?_
                refine z_istore_4 dX7_mayCome_101 rfl ?_
                refine z_iinc_5 (v := nI (k + 1)) dX7_mayCome_103 rfl (zinc _) ?_
                refine z_goto (tgt := 54) dX7_mayCome_106 (by decide) ?_
                have K9 := (K (by simp only [X7_mayCome_L54_B, if_neg c62, if_neg c76, if_neg c93]))
                try simp only [X7_mayCome_L54_F, if_neg c62, if_neg c76, if_neg c93] at K9
                exact K9
              · refine z_iconst (v := nI 1) dX7_mayCome_96 rfl (by decide) ?_
                refine z_goto (tgt := 101) dX7_mayCome_97 (by decide) ?_
                refine z_istore_4 dX7_mayCome_101 rfl ?_
                refine z_iinc_5 (v := nI (k + 1)) dX7_mayCome_103 rfl (zinc _) ?_
                refine z_goto (tgt := 54) dX7_mayCome_106 (by decide) ?_
                have K9 := (K (by simp only [X7_mayCome_L54_B, if_neg c62, if_neg c76, if_pos c93]))
                try simp only [X7_mayCome_L54_F, if_neg c62, if_neg c76, if_pos c93] at K9
                exact K9
      · intro may1 hI K
        refine z_iload dX7_mayCome_54 rfl rfl ?_
        refine z_iload_n dX7_mayCome_56 rfl rfl ?_
        refine z_icmp_ge (tgt := 109) dX7_mayCome_57 rfl (by decide) (fun c57 => ?_) (fun c57 => ?_)
        · exact K
        · exact absurd (nI_le (Nat.le_refl _) (by omega)) c57
      · intro hJ54 hle54
        refine z_iload dX7_mayCome_109 rfl rfl ?_
        exact z_ireturn dX7_mayCome_111 rfl (zb01 hJ54) (Nat.le_refl _) (Nat.le_refl _) (fun _ => rfl) ⟨by simp only [X7_mayCome_v, if_neg c1, if_pos c28], rfl⟩
    · refine z_aload_n dX7_mayCome_31 rfl rfl ?_
      refine z_get dX7_mayCome_32 rfl hiX7_mayCome_X7 13 lkX7_mayCome_34 (Nat.le_of_ble_eq_true rfl) h76 rfl (by decide) rfl ?_
      refine z_iload_n dX7_mayCome_35 rfl rfl ?_
      refine z_ialdN (j := wds - 1) dX7_mayCome_36 rfl (Nat.le_of_ble_eq_true rfl) h85 (rfl) (by omega) (by decide) ?_
      refine z_iload_n dX7_mayCome_37 rfl rfl ?_
      refine z_ishr dX7_mayCome_38 rfl ?_
      refine z_iconst (v := nI 1) dX7_mayCome_39 rfl (by decide) ?_
      refine z_iand dX7_mayCome_40 rfl ?_
      refine z_if_ne (tgt := 48) dX7_mayCome_41 rfl (by decide) (fun c41 => ?_) (fun c41 => ?_)
      · refine z_iconst (v := nI 0) dX7_mayCome_48 rfl (by decide) ?_
        refine z_istore_4 dX7_mayCome_49 rfl ?_
        refine z_iconst (v := nI 0) dX7_mayCome_51 rfl (by decide) ?_
        refine z_istore_5 dX7_mayCome_52 rfl ?_
        refine z_forX (head := fun k (st9 : (Int32)) => Z G mX7_mayCome (zrm 0 0) ex _ 54 [some (.ref (zB G + 76)), some (.int lt), some (.int (nI sz)), some (.int (nI (wds - 1))), some (.int st9), some (.int (nI k))] [] (zN, zus g []) 0 0) (out := fun k (st9 : (Int32)) => Z G mX7_mayCome (zrm 0 0) ex (fun r h => r = some (.int (X7_mayCome_v wds wm lt sz)) ∧ h = (zN, g)) 109 [some (.ref (zB G + 76)), some (.int lt), some (.int (nI sz)), some (.int (nI (wds - 1))), some (.int st9), some (.int (nI k))] [] (zN, zus g []) 0 0) (B := (X7_mayCome_L54v2_B wds wm lt)) (F := (X7_mayCome_L54v2_F wds wm lt)) (n := wds - 1) (fun _ a => a = nI 0 ∨ a = nI 1) (fun _ a => a = nI 0 ∨ a = nI 1) (fun i a hi h _ => by
              unfold X7_mayCome_L54v2_F
              repeat' split
              all_goals first | exact h | exact Or.inl rfl | exact Or.inr rfl) (fun i a b hi h hB => by
              unfold X7_mayCome_L54v2_B at hB
              repeat' split at hB
              all_goals (cases hB <;> first | exact h | exact Or.inl rfl | exact Or.inr rfl)) (fun _ h => h) ?_ ?_ (wds - 1) 0 (nI 0) (by omega) (by first | exact Or.inl rfl | exact Or.inr rfl) ?_
        · intro k may1 hi hI Ko K
          refine z_iload dX7_mayCome_54 rfl rfl ?_
          refine z_iload_n dX7_mayCome_56 rfl rfl ?_
          refine z_icmp_ge (tgt := 109) dX7_mayCome_57 rfl (by decide) (fun c57 => ?_) (fun c57 => ?_)
          · exact absurd c57 (nI_ge hi (by omega))
          · refine z_iload dX7_mayCome_60 rfl rfl ?_
            refine z_if_eq (tgt := 109) dX7_mayCome_62 rfl (by decide) (fun c62 => ?_) (fun c62 => ?_)
            · exact Ko may1 (by simp only [X7_mayCome_L54v2_B, if_pos c62])
            · refine z_aload_n dX7_mayCome_65 rfl rfl ?_
              refine z_get dX7_mayCome_66 rfl hiX7_mayCome_X7 13 lkX7_mayCome_34 (Nat.le_of_ble_eq_true rfl) h76 rfl (by decide) rfl ?_
              refine z_iload dX7_mayCome_69 rfl rfl ?_
              refine z_ialdN (j := k) dX7_mayCome_71 rfl (Nat.le_of_ble_eq_true rfl) h85 (rfl) (by omega) (by decide) ?_
              refine z_iload_n dX7_mayCome_72 rfl rfl ?_
              refine z_ishr dX7_mayCome_73 rfl ?_
              refine z_iconst (v := nI 1) dX7_mayCome_74 rfl (by decide) ?_
              refine z_iand dX7_mayCome_75 rfl ?_
              refine z_if_eq (tgt := 96) dX7_mayCome_76 rfl (by decide) (fun c76 => ?_) (fun c76 => ?_)
              · refine z_iconst (v := nI 1) dX7_mayCome_96 rfl (by decide) ?_
                refine z_goto (tgt := 101) dX7_mayCome_97 (by decide) ?_
                refine z_istore_4 dX7_mayCome_101 rfl ?_
                refine z_iinc_5 (v := nI (k + 1)) dX7_mayCome_103 rfl (zinc _) ?_
                refine z_goto (tgt := 54) dX7_mayCome_106 (by decide) ?_
                have K9 := (K (by simp only [X7_mayCome_L54v2_B, if_neg c62, if_pos c76]))
                try simp only [X7_mayCome_L54v2_F, if_neg c62, if_pos c76] at K9
                exact K9
              · refine z_aload_n dX7_mayCome_79 rfl rfl ?_
                refine z_get dX7_mayCome_80 rfl hiX7_mayCome_X7 13 lkX7_mayCome_34 (Nat.le_of_ble_eq_true rfl) h76 rfl (by decide) rfl ?_
                refine z_iload dX7_mayCome_83 rfl rfl ?_
                refine z_ialdN (j := k) dX7_mayCome_85 rfl (Nat.le_of_ble_eq_true rfl) h85 (rfl) (by omega) (by decide) ?_
                refine z_aload_n dX7_mayCome_86 rfl rfl ?_
                refine z_get dX7_mayCome_87 rfl hiX7_mayCome_X7 13 lkX7_mayCome_34 (Nat.le_of_ble_eq_true rfl) h76 rfl (by decide) rfl ?_
                refine z_iload_n dX7_mayCome_90 rfl rfl ?_
                refine z_ialdN (j := wds - 1) dX7_mayCome_91 rfl (Nat.le_of_ble_eq_true rfl) h85 (rfl) (by omega) (by decide) ?_
                refine z_iand dX7_mayCome_92 rfl ?_
                refine z_if_ne (tgt := 100) dX7_mayCome_93 rfl (by decide) (fun c93 => ?_) (fun c93 => ?_)
                · refine z_iconst (v := nI 0) dX7_mayCome_100 rfl (by decide) ?_
                  refine z_istore_4 dX7_mayCome_101 rfl ?_
                  refine z_iinc_5 (v := nI (k + 1)) dX7_mayCome_103 rfl (zinc _) ?_
                  refine z_goto (tgt := 54) dX7_mayCome_106 (by decide) ?_
                  have K9 := (K (by simp only [X7_mayCome_L54v2_B, if_neg c62, if_neg c76, if_neg c93]))
                  try simp only [X7_mayCome_L54v2_F, if_neg c62, if_neg c76, if_neg c93] at K9
                  exact K9
                · refine z_iconst (v := nI 1) dX7_mayCome_96 rfl (by decide) ?_
                  refine z_goto (tgt := 101) dX7_mayCome_97 (by decide) ?_
                  refine z_istore_4 dX7_mayCome_101 rfl ?_
                  refine z_iinc_5 (v := nI (k + 1)) dX7_mayCome_103 rfl (zinc _) ?_
                  refine z_goto (tgt := 54) dX7_mayCome_106 (by decide) ?_
                  have K9 := (K (by simp only [X7_mayCome_L54v2_B, if_neg c62, if_neg c76, if_pos c93]))
                  try simp only [X7_mayCome_L54v2_F, if_neg c62, if_neg c76, if_pos c93] at K9
                  exact K9
        · intro may1 hI K
          refine z_iload dX7_mayCome_54 rfl rfl ?_
          refine z_iload_n dX7_mayCome_56 rfl rfl ?_
          refine z_icmp_ge (tgt := 109) dX7_mayCome_57 rfl (by decide) (fun c57 => ?_) (fun c57 => ?_)
          · exact K
          · exact absurd (nI_le (Nat.le_refl _) (by omega)) c57
        · intro hJ54 hle54
          refine z_iload dX7_mayCome_109 rfl rfl ?_
          exact z_ireturn dX7_mayCome_111 rfl (zb01 hJ54) (Nat.le_refl _) (Nat.le_refl _) (fun _ => rfl) ⟨by simp only [X7_mayCome_v, if_neg c1, if_neg c28, if_neg c41], rfl⟩
      · refine z_iconst (v := nI 1) dX7_mayCome_44 rfl (by decide) ?_
        refine z_goto (tgt := 49) dX7_mayCome_45 (by decide) ?_
        refine z_istore_4 dX7_mayCome_49 rfl ?_
        refine z_iconst (v := nI 0) dX7_mayCome_51 rfl (by decide) ?_
        refine z_istore_5 dX7_mayCome_52 rfl ?_
        refine z_forX (head := fun k (st9 : (Int32)) => Z G mX7_mayCome (zrm 0 0) ex _ 54 [some (.ref (zB G + 76)), some (.int lt), some (.int (nI sz)), some (.int (nI (wds - 1))), some (.int st9), some (.int (nI k))] [] (zN, zus g []) 0 0) (out := fun k (st9 : (Int32)) => Z G mX7_mayCome (zrm 0 0) ex (fun r h => r = some (.int (X7_mayCome_v wds wm lt sz)) ∧ h = (zN, g)) 109 [some (.ref (zB G + 76)), some (.int lt), some (.int (nI sz)), some (.int (nI (wds - 1))), some (.int st9), some (.int (nI k))] [] (zN, zus g []) 0 0) (B := (X7_mayCome_L54v3_B wds wm lt)) (F := (X7_mayCome_L54v3_F wds wm lt)) (n := wds - 1) (fun _ a => a = nI 0 ∨ a = nI 1) (fun _ a => a = nI 0 ∨ a = nI 1) (fun i a hi h _ => by
              unfold X7_mayCome_L54v3_F
              repeat' split
              all_goals first | exact h | exact Or.inl rfl | exact Or.inr rfl) (fun i a b hi h hB => by
              unfold X7_mayCome_L54v3_B at hB
              repeat' split at hB
              all_goals (cases hB <;> first | exact h | exact Or.inl rfl | exact Or.inr rfl)) (fun _ h => h) ?_ ?_ (wds - 1) 0 (nI 1) (by omega) (by first | exact Or.inl rfl | exact Or.inr rfl) ?_
        · intro k may1 hi hI Ko K
          refine z_iload dX7_mayCome_54 rfl rfl ?_
          refine z_iload_n dX7_mayCome_56 rfl rfl ?_
          refine z_icmp_ge (tgt := 109) dX7_mayCome_57 rfl (by decide) (fun c57 => ?_) (fun c57 => ?_)
          · exact absurd c57 (nI_ge hi (by omega))
          · refine z_iload dX7_mayCome_60 rfl rfl ?_
            refine z_if_eq (tgt := 109) dX7_mayCome_62 rfl (by decide) (fun c62 => ?_) (fun c62 => ?_)
            · exact Ko may1 (by simp only [X7_mayCome_L54v3_B, if_pos c62])
            · refine z_aload_n dX7_mayCome_65 rfl rfl ?_
              refine z_get dX7_mayCome_66 rfl hiX7_mayCome_X7 13 lkX7_mayCome_34 (Nat.le_of_ble_eq_true rfl) h76 rfl (by decide) rfl ?_
              refine z_iload dX7_mayCome_69 rfl rfl ?_
              refine z_ialdN (j := k) dX7_mayCome_71 rfl (Nat.le_of_ble_eq_true rfl) h85 (rfl) (by omega) (by decide) ?_
              refine z_iload_n dX7_mayCome_72 rfl rfl ?_
              refine z_ishr dX7_mayCome_73 rfl ?_
              refine z_iconst (v := nI 1) dX7_mayCome_74 rfl (by decide) ?_
              refine z_iand dX7_mayCome_75 rfl ?_
              refine z_if_eq (tgt := 96) dX7_mayCome_76 rfl (by decide) (fun c76 => ?_) (fun c76 => ?_)
              · refine z_iconst (v := nI 1) dX7_mayCome_96 rfl (by decide) ?_
                refine z_goto (tgt := 101) dX7_mayCome_97 (by decide) ?_
                refine z_istore_4 dX7_mayCome_101 rfl ?_
                refine z_iinc_5 (v := nI (k + 1)) dX7_mayCome_103 rfl (zinc _) ?_
                refine z_goto (tgt := 54) dX7_mayCome_106 (by decide) ?_
                have K9 := (K (by simp only [X7_mayCome_L54v3_B, if_neg c62, if_pos c76]))
                try simp only [X7_mayCome_L54v3_F, if_neg c62, if_pos c76] at K9
                exact K9
              · refine z_aload_n dX7_mayCome_79 rfl rfl ?_
                refine z_get dX7_mayCome_80 rfl hiX7_mayCome_X7 13 lkX7_mayCome_34 (Nat.le_of_ble_eq_true rfl) h76 rfl (by decide) rfl ?_
                refine z_iload dX7_mayCome_83 rfl rfl ?_
                refine z_ialdN (j := k) dX7_mayCome_85 rfl (Nat.le_of_ble_eq_true rfl) h85 (rfl) (by omega) (by decide) ?_
                refine z_aload_n dX7_mayCome_86 rfl rfl ?_
                refine z_get dX7_mayCome_87 rfl hiX7_mayCome_X7 13 lkX7_mayCome_34 (Nat.le_of_ble_eq_true rfl) h76 rfl (by decide) rfl ?_
                refine z_iload_n dX7_mayCome_90 rfl rfl ?_
                refine z_ialdN (j := wds - 1) dX7_mayCome_91 rfl (Nat.le_of_ble_eq_true rfl) h85 (rfl) (by omega) (by decide) ?_
                refine z_iand dX7_mayCome_92 rfl ?_
                refine z_if_ne (tgt := 100) dX7_mayCome_93 rfl (by decide) (fun c93 => ?_) (fun c93 => ?_)
                · refine z_iconst (v := nI 0) dX7_mayCome_100 rfl (by decide) ?_
                  refine z_istore_4 dX7_mayCome_101 rfl ?_
                  refine z_iinc_5 (v := nI (k + 1)) dX7_mayCome_103 rfl (zinc _) ?_
                  refine z_goto (tgt := 54) dX7_mayCome_106 (by decide) ?_
                  have K9 := (K (by simp only [X7_mayCome_L54v3_B, if_neg c62, if_neg c76, if_neg c93]))
                  try simp only [X7_mayCome_L54v3_F, if_neg c62, if_neg c76, if_neg c93] at K9
                  exact K9
                · refine z_iconst (v := nI 1) dX7_mayCome_96 rfl (by decide) ?_
                  refine z_goto (tgt := 101) dX7_mayCome_97 (by decide) ?_
                  refine z_istore_4 dX7_mayCome_101 rfl ?_
                  refine z_iinc_5 (v := nI (k + 1)) dX7_mayCome_103 rfl (zinc _) ?_
                  refine z_goto (tgt := 54) dX7_mayCome_106 (by decide) ?_
                  have K9 := (K (by simp only [X7_mayCome_L54v3_B, if_neg c62, if_neg c76, if_pos c93]))
                  try simp only [X7_mayCome_L54v3_F, if_neg c62, if_neg c76, if_pos c93] at K9
                  exact K9
        · intro may1 hI K
          refine z_iload dX7_mayCome_54 rfl rfl ?_
          refine z_iload_n dX7_mayCome_56 rfl rfl ?_
          refine z_icmp_ge (tgt := 109) dX7_mayCome_57 rfl (by decide) (fun c57 => ?_) (fun c57 => ?_)
          · exact K
          · exact absurd (nI_le (Nat.le_refl _) (by omega)) c57
        · intro hJ54 hle54
          refine z_iload dX7_mayCome_109 rfl rfl ?_
          exact z_ireturn dX7_mayCome_111 rfl (zb01 hJ54) (Nat.le_refl _) (Nat.le_refl _) (fun _ => rfl) ⟨by simp only [X7_mayCome_v, if_neg c1, if_neg c28, if_pos c41], rfl⟩
  · refine z_aload_n dX7_mayCome_4 rfl rfl ?_
    refine z_get dX7_mayCome_5 rfl hiX7_mayCome_X7 10 lkX7_mayCome_132 (Nat.le_of_ble_eq_true rfl) h76 rfl (by decide) rfl ?_
    refine z_bipush (v := nI 12) dX7_mayCome_8 rfl (by decide) ?_
    refine z_icmp_ge (tgt := 17) dX7_mayCome_10 rfl (by decide) (fun c10 => ?_) (fun c10 => ?_)
    · refine z_iconst (v := nI 0) dX7_mayCome_17 rfl (by decide) ?_
      exact z_ireturn dX7_mayCome_18 rfl rfl (Nat.le_refl _) (Nat.le_refl _) (fun _ => rfl) ⟨by simp only [X7_mayCome_v, if_pos c1, if_pos c10], rfl⟩
    · refine z_iconst (v := nI 1) dX7_mayCome_13 rfl (by decide) ?_
      refine z_goto (tgt := 18) dX7_mayCome_14 (by decide) ?_
      exact z_ireturn dX7_mayCome_18 rfl rfl (Nat.le_refl _) (Nat.le_refl _) (fun _ => rfl) ⟨by simp only [X7_mayCome_v, if_pos c1, if_neg c10], rfl⟩
abbrev mX7_isTriple : zM := (cX7_isTriple, 4, (some .boolean), RX7, wsX7_isTriple, "isTriple")
theorem hiX7_isTriple_X7 : ∀ w ∈ wsX70, w ∈ wsX7_isTriple := fun w h => List.mem_cons_of_mem _ (List.mem_append_right _ h)
theorem lkX7_isTriple_143 : Cond.fieldLink RX7 143 "ConfigSearchModel" "points" "I" ∈ wsX7_isTriple := by decide +kernel
def X7_isTriple_v (pts : Nat) (a b c : Int32) : Int32 := if (X7_isIn_v a (nI 0) ((nI pts) - (nI 1))) = 0 then (nI 0) else (if (X7_isIn_v b (nI 0) ((nI pts) - (nI 1))) = 0 then (nI 0) else (if (X7_isIn_v c (nI 0) ((nI pts) - (nI 1))) = 0 then (nI 0) else (if a = b then (nI 0) else (if b = c then (nI 0) else (if a = c then (nI 0) else (nI 1))))))
set_option maxRecDepth 100000 in
set_option maxHeartbeats 4000000 in
theorem c_X7_isTriple (G : zG) (ex : Bool) (g : Nat → va_E) (code : Int32) (tps pts lns wds brs ors : Nat) (stp hasP fld laid told : Int32) (rws : Nat) (cms : Int32) (cmT : Nat) (cmS isN : Int32) (trs : Nat) (a b c : Int32)  (h76 : g 76 = (oMod G code (nI tps) (nI pts) (nI lns) (nI wds) (nI brs) (nI ors) stp hasP fld laid told (nI rws) cms (nI cmT) cmS isN (nI trs))) : zC G yX7_isTriple wsX7_isTriple (zrm 1 22) ex [.ref (zB G + 76), .int a, .int b, .int c] (zN, g) (fun r h => r = some (.int (X7_isTriple_v pts a b c)) ∧ h = (zN, g)) := by
  refine zC_of mX7_isTriple (lv := [some (.ref (zB G + 76)), some (.int a), some (.int b), some (.int c)]) rfl rfl (by decide) (by intro v hv; simp at hv; rcases hv with rfl | rfl | rfl | rfl <;> rfl) (Nat.le_of_ble_eq_true rfl) rfl ?_
  refine z_0 ?_
  refine z_iload_n dX7_isTriple_0 rfl rfl ?_
  refine z_iconst (v := nI 0) dX7_isTriple_1 rfl (by decide) ?_
  refine z_aload_n dX7_isTriple_2 rfl rfl ?_
  refine z_get dX7_isTriple_3 rfl hiX7_isTriple_X7 3 lkX7_isTriple_143 (Nat.le_of_ble_eq_true rfl) h76 rfl (by decide) rfl ?_
  refine z_iconst (v := nI 1) dX7_isTriple_6 rfl (by decide) ?_
  refine z_isub dX7_isTriple_7 rfl ?_
  refine z_callSi (c_X7_isIn G ex _ a (nI 0) ((nI pts) - (nI 1))) gX7_isTriple_X7_isIn rfl dX7_isTriple_8 rfl rfl okk_X7_isIn ⟨Nat.le_of_ble_eq_true rfl, Nat.le_of_ble_eq_true rfl⟩ ⟨Nat.le_of_ble_eq_true rfl, Nat.le_of_ble_eq_true rfl⟩ (Nat.le_of_ble_eq_true rfl) ?_
  refine z_if_eq (tgt := 61) dX7_isTriple_11 rfl (by decide) (fun c11 => ?_) (fun c11 => ?_)
  · refine z_iconst (v := nI 0) dX7_isTriple_61 rfl (by decide) ?_
    exact z_ireturn dX7_isTriple_62 rfl rfl (Nat.le_refl _) (Nat.le_refl _) (fun _ => rfl) ⟨by simp only [X7_isTriple_v, if_pos c11], rfl⟩
  · refine z_iload_n dX7_isTriple_14 rfl rfl ?_
    refine z_iconst (v := nI 0) dX7_isTriple_15 rfl (by decide) ?_
    refine z_aload_n dX7_isTriple_16 rfl rfl ?_
    refine z_get dX7_isTriple_17 rfl hiX7_isTriple_X7 3 lkX7_isTriple_143 (Nat.le_of_ble_eq_true rfl) h76 rfl (by decide) rfl ?_
    refine z_iconst (v := nI 1) dX7_isTriple_20 rfl (by decide) ?_
    refine z_isub dX7_isTriple_21 rfl ?_
    refine z_callSi (c_X7_isIn G ex _ b (nI 0) ((nI pts) - (nI 1))) gX7_isTriple_X7_isIn rfl dX7_isTriple_22 rfl rfl okk_X7_isIn ⟨Nat.le_of_ble_eq_true rfl, Nat.le_of_ble_eq_true rfl⟩ ⟨Nat.le_of_ble_eq_true rfl, Nat.le_of_ble_eq_true rfl⟩ (Nat.le_of_ble_eq_true rfl) ?_
    refine z_if_eq (tgt := 61) dX7_isTriple_25 rfl (by decide) (fun c25 => ?_) (fun c25 => ?_)
    · refine z_iconst (v := nI 0) dX7_isTriple_61 rfl (by decide) ?_
      exact z_ireturn dX7_isTriple_62 rfl rfl (Nat.le_refl _) (Nat.le_refl _) (fun _ => rfl) ⟨by simp only [X7_isTriple_v, if_neg c11, if_pos c25], rfl⟩
    · refine z_iload_n dX7_isTriple_28 rfl rfl ?_
      refine z_iconst (v := nI 0) dX7_isTriple_29 rfl (by decide) ?_
      refine z_aload_n dX7_isTriple_30 rfl rfl ?_
      refine z_get dX7_isTriple_31 rfl hiX7_isTriple_X7 3 lkX7_isTriple_143 (Nat.le_of_ble_eq_true rfl) h76 rfl (by decide) rfl ?_
      refine z_iconst (v := nI 1) dX7_isTriple_34 rfl (by decide) ?_
      refine z_isub dX7_isTriple_35 rfl ?_
      refine z_callSi (c_X7_isIn G ex _ c (nI 0) ((nI pts) - (nI 1))) gX7_isTriple_X7_isIn rfl dX7_isTriple_36 rfl rfl okk_X7_isIn ⟨Nat.le_of_ble_eq_true rfl, Nat.le_of_ble_eq_true rfl⟩ ⟨Nat.le_of_ble_eq_true rfl, Nat.le_of_ble_eq_true rfl⟩ (Nat.le_of_ble_eq_true rfl) ?_
      refine z_if_eq (tgt := 61) dX7_isTriple_39 rfl (by decide) (fun c39 => ?_) (fun c39 => ?_)
      · refine z_iconst (v := nI 0) dX7_isTriple_61 rfl (by decide) ?_
        exact z_ireturn dX7_isTriple_62 rfl rfl (Nat.le_refl _) (Nat.le_refl _) (fun _ => rfl) ⟨by simp only [X7_isTriple_v, if_neg c11, if_neg c25, if_pos c39], rfl⟩
      · refine z_iload_n dX7_isTriple_42 rfl rfl ?_
        refine z_iload_n dX7_isTriple_43 rfl rfl ?_
        refine z_icmp_eq (tgt := 61) dX7_isTriple_44 rfl (by decide) (fun c44 => ?_) (fun c44 => ?_)
        · refine z_iconst (v := nI 0) dX7_isTriple_61 rfl (by decide) ?_
          exact z_ireturn dX7_isTriple_62 rfl rfl (Nat.le_refl _) (Nat.le_refl _) (fun _ => rfl) ⟨by simp only [X7_isTriple_v, if_neg c11, if_neg c25, if_neg c39, if_pos c44], rfl⟩
        · refine z_iload_n dX7_isTriple_47 rfl rfl ?_
          refine z_iload_n dX7_isTriple_48 rfl rfl ?_
          refine z_icmp_eq (tgt := 61) dX7_isTriple_49 rfl (by decide) (fun c49 => ?_) (fun c49 => ?_)
          · refine z_iconst (v := nI 0) dX7_isTriple_61 rfl (by decide) ?_
            exact z_ireturn dX7_isTriple_62 rfl rfl (Nat.le_refl _) (Nat.le_refl _) (fun _ => rfl) ⟨by simp only [X7_isTriple_v, if_neg c11, if_neg c25, if_neg c39, if_neg c44, if_pos c49], rfl⟩
          · refine z_iload_n dX7_isTriple_52 rfl rfl ?_
            refine z_iload_n dX7_isTriple_53 rfl rfl ?_
            refine z_icmp_eq (tgt := 61) dX7_isTriple_54 rfl (by decide) (fun c54 => ?_) (fun c54 => ?_)
            · refine z_iconst (v := nI 0) dX7_isTriple_61 rfl (by decide) ?_
              exact z_ireturn dX7_isTriple_62 rfl rfl (Nat.le_refl _) (Nat.le_refl _) (fun _ => rfl) ⟨by simp only [X7_isTriple_v, if_neg c11, if_neg c25, if_neg c39, if_neg c44, if_neg c49, if_pos c54], rfl⟩
            · refine z_iconst (v := nI 1) dX7_isTriple_57 rfl (by decide) ?_
              refine z_goto (tgt := 62) dX7_isTriple_58 (by decide) ?_
              exact z_ireturn dX7_isTriple_62 rfl rfl (Nat.le_refl _) (Nat.le_refl _) (fun _ => rfl) ⟨by simp only [X7_isTriple_v, if_neg c11, if_neg c25, if_neg c39, if_neg c44, if_neg c49, if_neg c54], rfl⟩
abbrev mX7_maskOf : zM := (cX7_maskOf, 3, (some .int), RX7, wsX7_maskOf, "maskOf")
def X7_maskOf_v (a b c : Int32) : Int32 := (((nI 1) <<< (a &&& 31)) ||| ((nI 1) <<< (b &&& 31))) ||| ((nI 1) <<< (c &&& 31))
set_option maxRecDepth 100000 in
set_option maxHeartbeats 4000000 in
theorem c_X7_maskOf (G : zG) (ex : Bool) (g : Nat → va_E) (a b c : Int32)   : zC G yX7_maskOf wsX7_maskOf (zrm 0 0) ex [.int a, .int b, .int c] (zN, g) (fun r h => r = some (.int (X7_maskOf_v a b c)) ∧ h = (zN, g)) := by
  refine zC_of mX7_maskOf (lv := [some (.int a), some (.int b), some (.int c)]) rfl rfl (by decide) (by intro v hv; simp at hv; rcases hv with rfl | rfl | rfl <;> rfl) (Nat.le_of_ble_eq_true rfl) rfl ?_
  refine z_0 ?_
  refine z_iconst (v := nI 1) dX7_maskOf_0 rfl (by decide) ?_
  refine z_iload_n dX7_maskOf_1 rfl rfl ?_
  refine z_ishl dX7_maskOf_2 rfl ?_
  refine z_iconst (v := nI 1) dX7_maskOf_3 rfl (by decide) ?_
  refine z_iload_n dX7_maskOf_4 rfl rfl ?_
  refine z_ishl dX7_maskOf_5 rfl ?_
  refine z_ior dX7_maskOf_6 rfl ?_
  refine z_iconst (v := nI 1) dX7_maskOf_7 rfl (by decide) ?_
  refine z_iload_n dX7_maskOf_8 rfl rfl ?_
  refine z_ishl dX7_maskOf_9 rfl ?_
  refine z_ior dX7_maskOf_10 rfl ?_
  exact z_ireturn dX7_maskOf_11 rfl rfl (Nat.le_refl _) (Nat.le_refl _) (fun _ => rfl) ⟨by simp only [X7_maskOf_v], rfl⟩
abbrev mX7_turnOf : zM := (cX7_turnOf, 4, (some .int), RX7, wsX7_turnOf, "turnOf")
def X7_turnOf_v (a b c : Int32) : Int32 := if a ≤ b then (if a ≤ c then (if b ≤ c then (if ((nI ((0 + 0) + 0)) - (nI ((0 + 0) + 0)) / (nI 2) * (nI 2)) = 0 then (nI 1) else (-1)) else (if ((nI ((0 + 0) + 1)) - (nI ((0 + 0) + 1)) / (nI 2) * (nI 2)) = 0 then (nI 1) else (-1))) else (if b ≤ c then (if ((nI ((0 + 1) + 0)) - (nI ((0 + 1) + 0)) / (nI 2) * (nI 2)) = 0 then (nI 1) else (-1)) else (if ((nI ((0 + 1) + 1)) - (nI ((0 + 1) + 1)) / (nI 2) * (nI 2)) = 0 then (nI 1) else (-1)))) else (if a ≤ c then (if b ≤ c then (if ((nI ((1 + 0) + 0)) - (nI ((1 + 0) + 0)) / (nI 2) * (nI 2)) = 0 then (nI 1) else (-1)) else (if ((nI ((1 + 0) + 1)) - (nI ((1 + 0) + 1)) / (nI 2) * (nI 2)) = 0 then (nI 1) else (-1))) else (if b ≤ c then (if ((nI ((1 + 1) + 0)) - (nI ((1 + 1) + 0)) / (nI 2) * (nI 2)) = 0 then (nI 1) else (-1)) else (if ((nI ((1 + 1) + 1)) - (nI ((1 + 1) + 1)) / (nI 2) * (nI 2)) = 0 then (nI 1) else (-1))))
set_option maxRecDepth 100000 in
set_option maxHeartbeats 4000000 in
theorem c_X7_turnOf (G : zG) (ex : Bool) (g : Nat → va_E) (a b c : Int32)   : zC G yX7_turnOf wsX7_turnOf (zrm 0 0) ex [.int a, .int b, .int c] (zN, g) (fun r h => r = some (.int (X7_turnOf_v a b c)) ∧ h = (zN, g)) := by
  refine zC_of mX7_turnOf (lv := [some (.int a), some (.int b), some (.int c), none]) rfl rfl (by decide) (by intro v hv; simp at hv; rcases hv with rfl | rfl | rfl <;> rfl) (Nat.le_of_ble_eq_true rfl) rfl ?_
  refine z_0 ?_
  refine z_iload_n dX7_turnOf_0 rfl rfl ?_
  refine z_iload_n dX7_turnOf_1 rfl rfl ?_
  refine z_icmp_le (tgt := 9) dX7_turnOf_2 rfl (by decide) (fun c2 => ?_) (fun c2 => ?_)
  · refine z_iconst (v := nI 0) dX7_turnOf_9 rfl (by decide) ?_
    refine z_iload_n dX7_turnOf_10 rfl rfl ?_
    refine z_iload_n dX7_turnOf_11 rfl rfl ?_
    refine z_icmp_le (tgt := 19) dX7_turnOf_12 rfl (by decide) (fun c12 => ?_) (fun c12 => ?_)
    · refine z_iconst (v := nI 0) dX7_turnOf_19 rfl (by decide) ?_
      refine z_iadd dX7_turnOf_20 rfl ?_
      refine z_iload_n dX7_turnOf_21 rfl rfl ?_
      refine z_iload_n dX7_turnOf_22 rfl rfl ?_
      refine z_icmp_le (tgt := 30) dX7_turnOf_23 rfl (by decide) (fun c23 => ?_) (fun c23 => ?_)
      · refine z_iconst (v := nI 0) dX7_turnOf_30 rfl (by decide) ?_
        refine z_iadd dX7_turnOf_31 rfl ?_
        refine z_top (show ((nI 0) + (nI 0)) + (nI 0) = nI ((0 + 0) + 0) from (zq_add (zq_add rfl rfl) rfl)) ?_
        refine z_istore_3 dX7_turnOf_32 rfl ?_
        refine z_iload_n dX7_turnOf_33 rfl rfl ?_
        refine z_iconst (v := nI 2) dX7_turnOf_34 rfl (by decide) ?_
        refine z_irem dX7_turnOf_35 rfl (by decide) ?_
        refine z_if_ne (tgt := 43) dX7_turnOf_36 rfl (by decide) (fun c36 => ?_) (fun c36 => ?_)
        · refine z_iconst (v := (-1)) dX7_turnOf_43 rfl (by decide) ?_
          exact z_ireturn dX7_turnOf_44 rfl rfl (Nat.le_refl _) (Nat.le_refl _) (fun _ => rfl) ⟨by simp only [X7_turnOf_v, if_pos c2, if_pos c12, if_pos c23, if_neg c36], rfl⟩
        · refine z_iconst (v := nI 1) dX7_turnOf_39 rfl (by decide) ?_
          refine z_goto (tgt := 44) dX7_turnOf_40 (by decide) ?_
          exact z_ireturn dX7_turnOf_44 rfl rfl (Nat.le_refl _) (Nat.le_refl _) (fun _ => rfl) ⟨by simp only [X7_turnOf_v, if_pos c2, if_pos c12, if_pos c23, if_pos c36], rfl⟩
      · refine z_iconst (v := nI 1) dX7_turnOf_26 rfl (by decide) ?_
        refine z_goto (tgt := 31) dX7_turnOf_27 (by decide) ?_
        refine z_iadd dX7_turnOf_31 rfl ?_
        refine z_top (show ((nI 0) + (nI 0)) + (nI 1) = nI ((0 + 0) + 1) from (zq_add (zq_add rfl rfl) rfl)) ?_
        refine z_istore_3 dX7_turnOf_32 rfl ?_
        refine z_iload_n dX7_turnOf_33 rfl rfl ?_
        refine z_iconst (v := nI 2) dX7_turnOf_34 rfl (by decide) ?_
        refine z_irem dX7_turnOf_35 rfl (by decide) ?_
        refine z_if_ne (tgt := 43) dX7_turnOf_36 rfl (by decide) (fun c36 => ?_) (fun c36 => ?_)
        · refine z_iconst (v := (-1)) dX7_turnOf_43 rfl (by decide) ?_
          exact z_ireturn dX7_turnOf_44 rfl rfl (Nat.le_refl _) (Nat.le_refl _) (fun _ => rfl) ⟨by simp only [X7_turnOf_v, if_pos c2, if_pos c12, if_neg c23, if_neg c36], rfl⟩
        · refine z_iconst (v := nI 1) dX7_turnOf_39 rfl (by decide) ?_
          refine z_goto (tgt := 44) dX7_turnOf_40 (by decide) ?_
          exact z_ireturn dX7_turnOf_44 rfl rfl (Nat.le_refl _) (Nat.le_refl _) (fun _ => rfl) ⟨by simp only [X7_turnOf_v, if_pos c2, if_pos c12, if_neg c23, if_pos c36], rfl⟩
    · refine z_iconst (v := nI 1) dX7_turnOf_15 rfl (by decide) ?_
      refine z_goto (tgt := 20) dX7_turnOf_16 (by decide) ?_
      refine z_iadd dX7_turnOf_20 rfl ?_
      refine z_iload_n dX7_turnOf_21 rfl rfl ?_
      refine z_iload_n dX7_turnOf_22 rfl rfl ?_
      refine z_icmp_le (tgt := 30) dX7_turnOf_23 rfl (by decide) (fun c23 => ?_) (fun c23 => ?_)
      · refine z_iconst (v := nI 0) dX7_turnOf_30 rfl (by decide) ?_
        refine z_iadd dX7_turnOf_31 rfl ?_
        refine z_top (show ((nI 0) + (nI 1)) + (nI 0) = nI ((0 + 1) + 0) from (zq_add (zq_add rfl rfl) rfl)) ?_
        refine z_istore_3 dX7_turnOf_32 rfl ?_
        refine z_iload_n dX7_turnOf_33 rfl rfl ?_
        refine z_iconst (v := nI 2) dX7_turnOf_34 rfl (by decide) ?_
        refine z_irem dX7_turnOf_35 rfl (by decide) ?_
        refine z_if_ne (tgt := 43) dX7_turnOf_36 rfl (by decide) (fun c36 => ?_) (fun c36 => ?_)
        · refine z_iconst (v := (-1)) dX7_turnOf_43 rfl (by decide) ?_
          exact z_ireturn dX7_turnOf_44 rfl rfl (Nat.le_refl _) (Nat.le_refl _) (fun _ => rfl) ⟨by simp only [X7_turnOf_v, if_pos c2, if_neg c12, if_pos c23, if_neg c36], rfl⟩
        · refine z_iconst (v := nI 1) dX7_turnOf_39 rfl (by decide) ?_
          refine z_goto (tgt := 44) dX7_turnOf_40 (by decide) ?_
          exact z_ireturn dX7_turnOf_44 rfl rfl (Nat.le_refl _) (Nat.le_refl _) (fun _ => rfl) ⟨by simp only [X7_turnOf_v, if_pos c2, if_neg c12, if_pos c23, if_pos c36], rfl⟩
      · refine z_iconst (v := nI 1) dX7_turnOf_26 rfl (by decide) ?_
        refine z_goto (tgt := 31) dX7_turnOf_27 (by decide) ?_
        refine z_iadd dX7_turnOf_31 rfl ?_
        refine z_top (show ((nI 0) + (nI 1)) + (nI 1) = nI ((0 + 1) + 1) from (zq_add (zq_add rfl rfl) rfl)) ?_
        refine z_istore_3 dX7_turnOf_32 rfl ?_
        refine z_iload_n dX7_turnOf_33 rfl rfl ?_
        refine z_iconst (v := nI 2) dX7_turnOf_34 rfl (by decide) ?_
        refine z_irem dX7_turnOf_35 rfl (by decide) ?_
        refine z_if_ne (tgt := 43) dX7_turnOf_36 rfl (by decide) (fun c36 => ?_) (fun c36 => ?_)
        · refine z_iconst (v := (-1)) dX7_turnOf_43 rfl (by decide) ?_
          exact z_ireturn dX7_turnOf_44 rfl rfl (Nat.le_refl _) (Nat.le_refl _) (fun _ => rfl) ⟨by simp only [X7_turnOf_v, if_pos c2, if_neg c12, if_neg c23, if_neg c36], rfl⟩
        · refine z_iconst (v := nI 1) dX7_turnOf_39 rfl (by decide) ?_
          refine z_goto (tgt := 44) dX7_turnOf_40 (by decide) ?_
          exact z_ireturn dX7_turnOf_44 rfl rfl (Nat.le_refl _) (Nat.le_refl _) (fun _ => rfl) ⟨by simp only [X7_turnOf_v, if_pos c2, if_neg c12, if_neg c23, if_pos c36], rfl⟩
  · refine z_iconst (v := nI 1) dX7_turnOf_5 rfl (by decide) ?_
    refine z_goto (tgt := 10) dX7_turnOf_6 (by decide) ?_
    refine z_iload_n dX7_turnOf_10 rfl rfl ?_
    refine z_iload_n dX7_turnOf_11 rfl rfl ?_
    refine z_icmp_le (tgt := 19) dX7_turnOf_12 rfl (by decide) (fun c12 => ?_) (fun c12 => ?_)
    · refine z_iconst (v := nI 0) dX7_turnOf_19 rfl (by decide) ?_
      refine z_iadd dX7_turnOf_20 rfl ?_
      refine z_iload_n dX7_turnOf_21 rfl rfl ?_
      refine z_iload_n dX7_turnOf_22 rfl rfl ?_
      refine z_icmp_le (tgt := 30) dX7_turnOf_23 rfl (by decide) (fun c23 => ?_) (fun c23 => ?_)
      · refine z_iconst (v := nI 0) dX7_turnOf_30 rfl (by decide) ?_
        refine z_iadd dX7_turnOf_31 rfl ?_
        refine z_top (show ((nI 1) + (nI 0)) + (nI 0) = nI ((1 + 0) + 0) from (zq_add (zq_add rfl rfl) rfl)) ?_
        refine z_istore_3 dX7_turnOf_32 rfl ?_
        refine z_iload_n dX7_turnOf_33 rfl rfl ?_
        refine z_iconst (v := nI 2) dX7_turnOf_34 rfl (by decide) ?_
        refine z_irem dX7_turnOf_35 rfl (by decide) ?_
        refine z_if_ne (tgt := 43) dX7_turnOf_36 rfl (by decide) (fun c36 => ?_) (fun c36 => ?_)
        · refine z_iconst (v := (-1)) dX7_turnOf_43 rfl (by decide) ?_
          exact z_ireturn dX7_turnOf_44 rfl rfl (Nat.le_refl _) (Nat.le_refl _) (fun _ => rfl) ⟨by simp only [X7_turnOf_v, if_neg c2, if_pos c12, if_pos c23, if_neg c36], rfl⟩
        · refine z_iconst (v := nI 1) dX7_turnOf_39 rfl (by decide) ?_
          refine z_goto (tgt := 44) dX7_turnOf_40 (by decide) ?_
          exact z_ireturn dX7_turnOf_44 rfl rfl (Nat.le_refl _) (Nat.le_refl _) (fun _ => rfl) ⟨by simp only [X7_turnOf_v, if_neg c2, if_pos c12, if_pos c23, if_pos c36], rfl⟩
      · refine z_iconst (v := nI 1) dX7_turnOf_26 rfl (by decide) ?_
        refine z_goto (tgt := 31) dX7_turnOf_27 (by decide) ?_
        refine z_iadd dX7_turnOf_31 rfl ?_
        refine z_top (show ((nI 1) + (nI 0)) + (nI 1) = nI ((1 + 0) + 1) from (zq_add (zq_add rfl rfl) rfl)) ?_
        refine z_istore_3 dX7_turnOf_32 rfl ?_
        refine z_iload_n dX7_turnOf_33 rfl rfl ?_
        refine z_iconst (v := nI 2) dX7_turnOf_34 rfl (by decide) ?_
        refine z_irem dX7_turnOf_35 rfl (by decide) ?_
        refine z_if_ne (tgt := 43) dX7_turnOf_36 rfl (by decide) (fun c36 => ?_) (fun c36 => ?_)
        · refine z_iconst (v := (-1)) dX7_turnOf_43 rfl (by decide) ?_
          exact z_ireturn dX7_turnOf_44 rfl rfl (Nat.le_refl _) (Nat.le_refl _) (fun _ => rfl) ⟨by simp only [X7_turnOf_v, if_neg c2, if_pos c12, if_neg c23, if_neg c36], rfl⟩
        · refine z_iconst (v := nI 1) dX7_turnOf_39 rfl (by decide) ?_
          refine z_goto (tgt := 44) dX7_turnOf_40 (by decide) ?_
          exact z_ireturn dX7_turnOf_44 rfl rfl (Nat.le_refl _) (Nat.le_refl _) (fun _ => rfl) ⟨by simp only [X7_turnOf_v, if_neg c2, if_pos c12, if_neg c23, if_pos c36], rfl⟩
    · refine z_iconst (v := nI 1) dX7_turnOf_15 rfl (by decide) ?_
      refine z_goto (tgt := 20) dX7_turnOf_16 (by decide) ?_
      refine z_iadd dX7_turnOf_20 rfl ?_
      refine z_iload_n dX7_turnOf_21 rfl rfl ?_
      refine z_iload_n dX7_turnOf_22 rfl rfl ?_
      refine z_icmp_le (tgt := 30) dX7_turnOf_23 rfl (by decide) (fun c23 => ?_) (fun c23 => ?_)
      · refine z_iconst (v := nI 0) dX7_turnOf_30 rfl (by decide) ?_
        refine z_iadd dX7_turnOf_31 rfl ?_
        refine z_top (show ((nI 1) + (nI 1)) + (nI 0) = nI ((1 + 1) + 0) from (zq_add (zq_add rfl rfl) rfl)) ?_
        refine z_istore_3 dX7_turnOf_32 rfl ?_
        refine z_iload_n dX7_turnOf_33 rfl rfl ?_
        refine z_iconst (v := nI 2) dX7_turnOf_34 rfl (by decide) ?_
        refine z_irem dX7_turnOf_35 rfl (by decide) ?_
        refine z_if_ne (tgt := 43) dX7_turnOf_36 rfl (by decide) (fun c36 => ?_) (fun c36 => ?_)
        · refine z_iconst (v := (-1)) dX7_turnOf_43 rfl (by decide) ?_
          exact z_ireturn dX7_turnOf_44 rfl rfl (Nat.le_refl _) (Nat.le_refl _) (fun _ => rfl) ⟨by simp only [X7_turnOf_v, if_neg c2, if_neg c12, if_pos c23, if_neg c36], rfl⟩
        · refine z_iconst (v := nI 1) dX7_turnOf_39 rfl (by decide) ?_
          refine z_goto (tgt := 44) dX7_turnOf_40 (by decide) ?_
          exact z_ireturn dX7_turnOf_44 rfl rfl (Nat.le_refl _) (Nat.le_refl _) (fun _ => rfl) ⟨by simp only [X7_turnOf_v, if_neg c2, if_neg c12, if_pos c23, if_pos c36], rfl⟩
      · refine z_iconst (v := nI 1) dX7_turnOf_26 rfl (by decide) ?_
        refine z_goto (tgt := 31) dX7_turnOf_27 (by decide) ?_
        refine z_iadd dX7_turnOf_31 rfl ?_
        refine z_top (show ((nI 1) + (nI 1)) + (nI 1) = nI ((1 + 1) + 1) from (zq_add (zq_add rfl rfl) rfl)) ?_
        refine z_istore_3 dX7_turnOf_32 rfl ?_
        refine z_iload_n dX7_turnOf_33 rfl rfl ?_
        refine z_iconst (v := nI 2) dX7_turnOf_34 rfl (by decide) ?_
        refine z_irem dX7_turnOf_35 rfl (by decide) ?_
        refine z_if_ne (tgt := 43) dX7_turnOf_36 rfl (by decide) (fun c36 => ?_) (fun c36 => ?_)
        · refine z_iconst (v := (-1)) dX7_turnOf_43 rfl (by decide) ?_
          exact z_ireturn dX7_turnOf_44 rfl rfl (Nat.le_refl _) (Nat.le_refl _) (fun _ => rfl) ⟨by simp only [X7_turnOf_v, if_neg c2, if_neg c12, if_neg c23, if_neg c36], rfl⟩
        · refine z_iconst (v := nI 1) dX7_turnOf_39 rfl (by decide) ?_
          refine z_goto (tgt := 44) dX7_turnOf_40 (by decide) ?_
          exact z_ireturn dX7_turnOf_44 rfl rfl (Nat.le_refl _) (Nat.le_refl _) (fun _ => rfl) ⟨by simp only [X7_turnOf_v, if_neg c2, if_neg c12, if_neg c23, if_pos c36], rfl⟩
abbrev mX7_isFlat : zM := (cX7_isFlat, 4, (some .boolean), RX7, wsX7_isFlat, "isFlat")
theorem hiX7_isFlat_X7 : ∀ w ∈ wsX70, w ∈ wsX7_isFlat := fun w h => List.mem_cons_of_mem _ (List.mem_append_right _ h)
theorem lkX7_isFlat_146 : Cond.fieldLink RX7 146 "ConfigSearchModel" "lines" "I" ∈ wsX7_isFlat := by decide +kernel
theorem lkX7_isFlat_25 : Cond.fieldLink RX7 25 "ConfigSearchModel" "lineMask" "[I" ∈ wsX7_isFlat := by decide +kernel
def X7_isFlat_L4_F (lm : Nat → Int32) (mk : Int32) (k : Nat) (a9 : (Int32)) : (Int32) := if a9 = 0 then (if ((lm k) &&& mk) = mk then (nI 1) else (nI 0)) else a9
def X7_isFlat_L4_B (lm : Nat → Int32) (mk : Int32) (k : Nat) (a9 : (Int32)) : Option ((Int32)) := if a9 = 0 then (if ((lm k) &&& mk) = mk then none else none) else (some a9)
def X7_isFlat_v (lns : Nat) (lm : Nat → Int32) (mk : Int32) : Int32 := (zfoldX (X7_isFlat_L4_B lm mk) (X7_isFlat_L4_F lm mk) lns 0 (nI 0)).2
set_option maxRecDepth 100000 in
set_option maxHeartbeats 4000000 in
theorem c_X7_isFlat (G : zG) (ex : Bool) (g : Nat → va_E) (code : Int32) (tps pts lns wds brs ors : Nat) (stp hasP fld laid told : Int32) (rws : Nat) (cms : Int32) (cmT : Nat) (cmS isN : Int32) (trs : Nat) (lm : Nat → Int32) (mk : Int32) (hl : lns ≤ 12) (h76 : g 76 = (oMod G code (nI tps) (nI pts) (nI lns) (nI wds) (nI brs) (nI ors) stp hasP fld laid told (nI rws) cms (nI cmT) cmS isN (nI trs))) (h82 : g 82 = (zI G 12 lm)) : zC G yX7_isFlat wsX7_isFlat (zrm 0 0) ex [.ref (zB G + 76), .int mk] (zN, g) (fun r h => r = some (.int (X7_isFlat_v lns lm mk)) ∧ h = (zN, g)) := by
  refine zC_of mX7_isFlat (lv := [some (.ref (zB G + 76)), some (.int mk), none, none]) rfl rfl (by decide) (by intro v hv; simp at hv; rcases hv with rfl | rfl <;> rfl) (Nat.le_of_ble_eq_true rfl) rfl ?_
  refine z_0 ?_
  refine z_iconst (v := nI 0) dX7_isFlat_0 rfl (by decide) ?_
  refine z_istore_2 dX7_isFlat_1 rfl ?_
  refine z_iconst (v := nI 0) dX7_isFlat_2 rfl (by decide) ?_
  refine z_istore_3 dX7_isFlat_3 rfl ?_
  refine z_forX (head := fun k (st9 : (Int32)) => Z G mX7_isFlat (zrm 0 0) ex _ 4 [some (.ref (zB G + 76)), some (.int mk), some (.int st9), some (.int (nI k))] [] (zN, zus g []) 0 0) (out := fun k (st9 : (Int32)) => Z G mX7_isFlat (zrm 0 0) ex (fun r h => r = some (.int (X7_isFlat_v lns lm mk)) ∧ h = (zN, g)) 40 [some (.ref (zB G + 76)), some (.int mk), some (.int st9), some (.int (nI k))] [] (zN, zus g []) 0 0) (B := (X7_isFlat_L4_B lm mk)) (F := (X7_isFlat_L4_F lm mk)) (n := lns) (fun _ a => a = nI 0 ∨ a = nI 1) (fun _ a => a = nI 0 ∨ a = nI 1) (fun i a hi h _ => by
        unfold X7_isFlat_L4_F
        repeat' split
        all_goals first | exact h | exact Or.inl rfl | exact Or.inr rfl) (fun i a b hi h hB => by
        unfold X7_isFlat_L4_B at hB
        repeat' split at hB
        all_goals (cases hB <;> first | exact h | exact Or.inl rfl | exact Or.inr rfl)) (fun _ h => h) ?_ ?_ lns 0 (nI 0) (by omega) (by first | exact Or.inl rfl | exact Or.inr rfl) ?_
  · intro k is1 hi hI Ko K
    refine z_iload_n dX7_isFlat_4 rfl rfl ?_
    refine z_aload_n dX7_isFlat_5 rfl rfl ?_
    refine z_get dX7_isFlat_6 rfl hiX7_isFlat_X7 4 lkX7_isFlat_146 (Nat.le_of_ble_eq_true rfl) h76 rfl (by decide) rfl ?_
    refine z_icmp_ge (tgt := 40) dX7_isFlat_9 rfl (by decide) (fun c9 => ?_) (fun c9 => ?_)
    · exact absurd c9 (nI_ge hi (by omega))
    · refine z_iload_n dX7_isFlat_12 rfl rfl ?_
      refine z_if_ne (tgt := 40) dX7_isFlat_13 rfl (by decide) (fun c13 => ?_) (fun c13 => ?_)
      · exact Ko is1 (by simp only [X7_isFlat_L4_B, if_neg c13])
      · refine z_aload_n dX7_isFlat_16 rfl rfl ?_
        refine z_get dX7_isFlat_17 rfl hiX7_isFlat_X7 9 lkX7_isFlat_25 (Nat.le_of_ble_eq_true rfl) h76 rfl (by decide) rfl ?_
        refine z_iload_n dX7_isFlat_20 rfl rfl ?_
        refine z_ialdN (j := k) dX7_isFlat_21 rfl (Nat.le_of_ble_eq_true rfl) h82 (rfl) (by omega) (by decide) ?_
        refine z_iload_n dX7_isFlat_22 rfl rfl ?_
        refine z_iand dX7_isFlat_23 rfl ?_
        refine z_iload_n dX7_isFlat_24 rfl rfl ?_
        refine z_icmp_ne (tgt := 32) dX7_isFlat_25 rfl (by decide) (fun c25 => ?_) (fun c25 => ?_)
        · refine z_iconst (v := nI 0) dX7_isFlat_32 rfl (by decide) ?_
          refine z_istore_2 dX7_isFlat_33 rfl ?_
          refine z_iinc_3 (v := nI (k + 1)) dX7_isFlat_34 rfl (zinc _) ?_
          refine z_goto (tgt := 4) dX7_isFlat_37 (by decide) ?_
          have K9 := (K (by simp only [X7_isFlat_L4_B, if_pos c13, if_neg c25]))
          try simp only [X7_isFlat_L4_F, if_pos c13, if_neg c25] at K9
          exact K9
        · refine z_iconst (v := nI 1) dX7_isFlat_28 rfl (by decide) ?_
          refine z_goto (tgt := 33) dX7_isFlat_29 (by decide) ?_
          refine z_istore_2 dX7_isFlat_33 rfl ?_
          refine z_iinc_3 (v := nI (k + 1)) dX7_isFlat_34 rfl (zinc _) ?_
          refine z_goto (tgt := 4) dX7_isFlat_37 (by decide) ?_
          have K9 := (K (by simp only [X7_isFlat_L4_B, if_pos c13, if_pos c25]))
          try simp only [X7_isFlat_L4_F, if_pos c13, if_pos c25] at K9
          exact K9
  · intro is1 hI K
    refine z_iload_n dX7_isFlat_4 rfl rfl ?_
    refine z_aload_n dX7_isFlat_5 rfl rfl ?_
    refine z_get dX7_isFlat_6 rfl hiX7_isFlat_X7 4 lkX7_isFlat_146 (Nat.le_of_ble_eq_true rfl) h76 rfl (by decide) rfl ?_
    refine z_icmp_ge (tgt := 40) dX7_isFlat_9 rfl (by decide) (fun c9 => ?_) (fun c9 => ?_)
    · exact K
    · exact absurd (nI_le (Nat.le_refl _) (by omega)) c9
  · intro hJ4 hle4
    refine z_iload_n dX7_isFlat_40 rfl rfl ?_
    exact z_ireturn dX7_isFlat_41 rfl (zb01 hJ4) (Nat.le_refl _) (Nat.le_refl _) (fun _ => rfl) ⟨by simp only [X7_isFlat_v], rfl⟩
abbrev mX7_barAt : zM := (cX7_barAt, 4, (some .int), RX7, wsX7_barAt, "barAt")
theorem hiX7_barAt_X7 : ∀ w ∈ wsX70, w ∈ wsX7_barAt := fun w h => List.mem_cons_of_mem _ (List.mem_append_right _ h)
theorem lkX7_barAt_149 : Cond.fieldLink RX7 149 "ConfigSearchModel" "bars" "I" ∈ wsX7_barAt := by decide +kernel
theorem lkX7_barAt_37 : Cond.fieldLink RX7 37 "ConfigSearchModel" "barMask" "[I" ∈ wsX7_barAt := by decide +kernel
def X7_barAt_L5_F (bm : Nat → Int32) (mk : Int32) (k : Nat) (a9 : (Int32)) : (Int32) := if (bm k) = mk then (nI k) else a9
def X7_barAt_v (brs : Nat) (bm : Nat → Int32) (mk : Int32) : Int32 := (zfold (X7_barAt_L5_F bm mk) brs 0 (-4))
set_option maxRecDepth 100000 in
set_option maxHeartbeats 4000000 in
theorem c_X7_barAt (G : zG) (ex : Bool) (g : Nat → va_E) (code : Int32) (tps pts lns wds brs ors : Nat) (stp hasP fld laid told : Int32) (rws : Nat) (cms : Int32) (cmT : Nat) (cmS isN : Int32) (trs : Nat) (bm : Nat → Int32) (mk : Int32) (hb : brs ≤ 20) (h76 : g 76 = (oMod G code (nI tps) (nI pts) (nI lns) (nI wds) (nI brs) (nI ors) stp hasP fld laid told (nI rws) cms (nI cmT) cmS isN (nI trs))) (h86 : g 86 = (zI G 20 bm)) : zC G yX7_barAt wsX7_barAt (zrm 0 0) ex [.ref (zB G + 76), .int mk] (zN, g) (fun r h => r = some (.int (X7_barAt_v brs bm mk)) ∧ h = (zN, g)) := by
  refine zC_of mX7_barAt (lv := [some (.ref (zB G + 76)), some (.int mk), none, none]) rfl rfl (by decide) (by intro v hv; simp at hv; rcases hv with rfl | rfl <;> rfl) (Nat.le_of_ble_eq_true rfl) rfl ?_
  refine z_0 ?_
  refine z_bipush (v := (-4)) dX7_barAt_0 rfl (by decide) ?_
  refine z_istore_2 dX7_barAt_2 rfl ?_
  refine z_iconst (v := nI 0) dX7_barAt_3 rfl (by decide) ?_
  refine z_istore_3 dX7_barAt_4 rfl ?_
  refine z_forI (head := fun k (st9 : (Int32)) => Z G mX7_barAt (zrm 0 0) ex _ 5 [some (.ref (zB G + 76)), some (.int mk), some (.int st9), some (.int (nI k))] [] (zN, zus g []) 0 0) (F := (X7_barAt_L5_F bm mk)) (n := brs) (fun _ _ => True) (fun _ _ _ _ => trivial) ?_ brs 0 (-4) (by omega) trivial ?_
  · intro k at1 hi _ K
    refine z_iload_n dX7_barAt_5 rfl rfl ?_
    refine z_aload_n dX7_barAt_6 rfl rfl ?_
    refine z_get dX7_barAt_7 rfl hiX7_barAt_X7 14 lkX7_barAt_149 (Nat.le_of_ble_eq_true rfl) h76 rfl (by decide) rfl ?_
    refine z_icmp_ge (tgt := 35) dX7_barAt_10 rfl (by decide) (fun c10 => ?_) (fun c10 => ?_)
    · exact absurd c10 (nI_ge hi (by omega))
    · refine z_aload_n dX7_barAt_13 rfl rfl ?_
      refine z_get dX7_barAt_14 rfl hiX7_barAt_X7 15 lkX7_barAt_37 (Nat.le_of_ble_eq_true rfl) h76 rfl (by decide) rfl ?_
      refine z_iload_n dX7_barAt_17 rfl rfl ?_
      refine z_ialdN (j := k) dX7_barAt_18 rfl (Nat.le_of_ble_eq_true rfl) h86 (rfl) (by omega) (by decide) ?_
      refine z_iload_n dX7_barAt_19 rfl rfl ?_
      refine z_icmp_ne (tgt := 27) dX7_barAt_20 rfl (by decide) (fun c20 => ?_) (fun c20 => ?_)
      · refine z_iload_n dX7_barAt_27 rfl rfl ?_
        refine z_istore_2 dX7_barAt_28 rfl ?_
        refine z_iinc_3 (v := nI (k + 1)) dX7_barAt_29 rfl (zinc _) ?_
        refine z_goto (tgt := 5) dX7_barAt_32 (by decide) ?_
        have K9 := K
        try simp only [X7_barAt_L5_F, if_neg c20] at K9
        exact K9
      · refine z_iload_n dX7_barAt_23 rfl rfl ?_
        refine z_goto (tgt := 28) dX7_barAt_24 (by decide) ?_
        refine z_istore_2 dX7_barAt_28 rfl ?_
        refine z_iinc_3 (v := nI (k + 1)) dX7_barAt_29 rfl (zinc _) ?_
        refine z_goto (tgt := 5) dX7_barAt_32 (by decide) ?_
        have K9 := K
        try simp only [X7_barAt_L5_F, if_pos c20] at K9
        exact K9
  · intro _
    refine z_iload_n dX7_barAt_5 rfl rfl ?_
    refine z_aload_n dX7_barAt_6 rfl rfl ?_
    refine z_get dX7_barAt_7 rfl hiX7_barAt_X7 14 lkX7_barAt_149 (Nat.le_of_ble_eq_true rfl) h76 rfl (by decide) rfl ?_
    refine z_icmp_ge (tgt := 35) dX7_barAt_10 rfl (by decide) (fun c10 => ?_) (fun c10 => ?_)
    · refine z_iload_n dX7_barAt_35 rfl rfl ?_
      exact z_ireturn dX7_barAt_36 rfl rfl (Nat.le_refl _) (Nat.le_refl _) (fun _ => rfl) ⟨by simp only [X7_barAt_v], rfl⟩
    · exact absurd (nI_le (Nat.le_refl _) (by omega)) c10
abbrev mX7_orientAt : zM := (cX7_orientAt, 4, (some .int), RX7, wsX7_orientAt, "orientAt")
theorem hiX7_orientAt_X7 : ∀ w ∈ wsX70, w ∈ wsX7_orientAt := fun w h => List.mem_cons_of_mem _ (List.mem_append_right _ h)
theorem lkX7_orientAt_152 : Cond.fieldLink RX7 152 "ConfigSearchModel" "orients" "I" ∈ wsX7_orientAt := by decide +kernel
theorem lkX7_orientAt_40 : Cond.fieldLink RX7 40 "ConfigSearchModel" "orientMask" "[I" ∈ wsX7_orientAt := by decide +kernel
def X7_orientAt_L5_F (om : Nat → Int32) (mk : Int32) (k : Nat) (a9 : (Int32)) : (Int32) := if (om k) = mk then (nI k) else a9
def X7_orientAt_v (ors : Nat) (om : Nat → Int32) (mk : Int32) : Int32 := (zfold (X7_orientAt_L5_F om mk) ors 0 (-4))
set_option maxRecDepth 100000 in
set_option maxHeartbeats 4000000 in
theorem c_X7_orientAt (G : zG) (ex : Bool) (g : Nat → va_E) (code : Int32) (tps pts lns wds brs ors : Nat) (stp hasP fld laid told : Int32) (rws : Nat) (cms : Int32) (cmT : Nat) (cmS isN : Int32) (trs : Nat) (om : Nat → Int32) (mk : Int32) (ho : ors ≤ 20) (h76 : g 76 = (oMod G code (nI tps) (nI pts) (nI lns) (nI wds) (nI brs) (nI ors) stp hasP fld laid told (nI rws) cms (nI cmT) cmS isN (nI trs))) (h87 : g 87 = (zI G 20 om)) : zC G yX7_orientAt wsX7_orientAt (zrm 0 0) ex [.ref (zB G + 76), .int mk] (zN, g) (fun r h => r = some (.int (X7_orientAt_v ors om mk)) ∧ h = (zN, g)) := by
  refine zC_of mX7_orientAt (lv := [some (.ref (zB G + 76)), some (.int mk), none, none]) rfl rfl (by decide) (by intro v hv; simp at hv; rcases hv with rfl | rfl <;> rfl) (Nat.le_of_ble_eq_true rfl) rfl ?_
  refine z_0 ?_
  refine z_bipush (v := (-4)) dX7_orientAt_0 rfl (by decide) ?_
  refine z_istore_2 dX7_orientAt_2 rfl ?_
  refine z_iconst (v := nI 0) dX7_orientAt_3 rfl (by decide) ?_
  refine z_istore_3 dX7_orientAt_4 rfl ?_
  refine z_forI (head := fun k (st9 : (Int32)) => Z G mX7_orientAt (zrm 0 0) ex _ 5 [some (.ref (zB G + 76)), some (.int mk), some (.int st9), some (.int (nI k))] [] (zN, zus g []) 0 0) (F := (X7_orientAt_L5_F om mk)) (n := ors) (fun _ _ => True) (fun _ _ _ _ => trivial) ?_ ors 0 (-4) (by omega) trivial ?_
  · intro k at1 hi _ K
    refine z_iload_n dX7_orientAt_5 rfl rfl ?_
    refine z_aload_n dX7_orientAt_6 rfl rfl ?_
    refine z_get dX7_orientAt_7 rfl hiX7_orientAt_X7 16 lkX7_orientAt_152 (Nat.le_of_ble_eq_true rfl) h76 rfl (by decide) rfl ?_
    refine z_icmp_ge (tgt := 35) dX7_orientAt_10 rfl (by decide) (fun c10 => ?_) (fun c10 => ?_)
    · exact absurd c10 (nI_ge hi (by omega))
    · refine z_aload_n dX7_orientAt_13 rfl rfl ?_
      refine z_get dX7_orientAt_14 rfl hiX7_orientAt_X7 17 lkX7_orientAt_40 (Nat.le_of_ble_eq_true rfl) h76 rfl (by decide) rfl ?_
      refine z_iload_n dX7_orientAt_17 rfl rfl ?_
      refine z_ialdN (j := k) dX7_orientAt_18 rfl (Nat.le_of_ble_eq_true rfl) h87 (rfl) (by omega) (by decide) ?_
      refine z_iload_n dX7_orientAt_19 rfl rfl ?_
      refine z_icmp_ne (tgt := 27) dX7_orientAt_20 rfl (by decide) (fun c20 => ?_) (fun c20 => ?_)
      · refine z_iload_n dX7_orientAt_27 rfl rfl ?_
        refine z_istore_2 dX7_orientAt_28 rfl ?_
        refine z_iinc_3 (v := nI (k + 1)) dX7_orientAt_29 rfl (zinc _) ?_
        refine z_goto (tgt := 5) dX7_orientAt_32 (by decide) ?_
        have K9 := K
        try simp only [X7_orientAt_L5_F, if_neg c20] at K9
        exact K9
      · refine z_iload_n dX7_orientAt_23 rfl rfl ?_
        refine z_goto (tgt := 28) dX7_orientAt_24 (by decide) ?_
        refine z_istore_2 dX7_orientAt_28 rfl ?_
        refine z_iinc_3 (v := nI (k + 1)) dX7_orientAt_29 rfl (zinc _) ?_
        refine z_goto (tgt := 5) dX7_orientAt_32 (by decide) ?_
        have K9 := K
        try simp only [X7_orientAt_L5_F, if_pos c20] at K9
        exact K9
  · intro _
    refine z_iload_n dX7_orientAt_5 rfl rfl ?_
    refine z_aload_n dX7_orientAt_6 rfl rfl ?_
    refine z_get dX7_orientAt_7 rfl hiX7_orientAt_X7 16 lkX7_orientAt_152 (Nat.le_of_ble_eq_true rfl) h76 rfl (by decide) rfl ?_
    refine z_icmp_ge (tgt := 35) dX7_orientAt_10 rfl (by decide) (fun c10 => ?_) (fun c10 => ?_)
    · refine z_iload_n dX7_orientAt_35 rfl rfl ?_
      exact z_ireturn dX7_orientAt_36 rfl rfl (Nat.le_refl _) (Nat.le_refl _) (fun _ => rfl) ⟨by simp only [X7_orientAt_v], rfl⟩
    · exact absurd (nI_le (Nat.le_refl _) (by omega)) c10
theorem orientAt_in {ors : Nat} {om : Nat → Int32} {mk : Int32} (ho : ors ≤ 20) : X7_orientAt_v ors om mk = -4 ∨ vp_in (X7_orientAt_v ors om mk) ors := by
  unfold X7_orientAt_v
  refine zfold_I (n := ors) (fun _ a => a = -4 ∨ vp_in a ors) (fun i a hi h => ?_) ors 0 (-4) (by omega) (Or.inl rfl)
  unfold X7_orientAt_L5_F
  split
  · exact Or.inr (vp_in_nI hi (by omega))
  · exact h
theorem vp_in_mono {x : Int32} {n m : Nat} (h : vp_in x n) (hm : n ≤ m) : vp_in x m := fun q => h (q.elim Or.inl (fun z => Or.inr (by omega)))
