abbrev mX7_bar : zM := (cX7_bar, 5, (some .int), RX7, wsX7_bar, "bar")
theorem hiX7_bar_X7 : ∀ w ∈ wsX70, w ∈ wsX7_bar := fun w h => List.mem_cons_of_mem _ (List.mem_append_right _ h)
theorem lkX7_bar_122 : Cond.fieldLink RX7 122 "ConfigSearchModel" "code" "I" ∈ wsX7_bar := by decide +kernel
theorem okk_X7_isTriple : zOk yX7_isTriple 3 := by unfold zOk; decide +kernel
theorem okk_X7_maskOf : zOk yX7_maskOf 3 := by unfold zOk; decide +kernel
theorem okk_X7_isFlat : zOk yX7_isFlat 1 := by unfold zOk; decide +kernel
theorem okk_X7_barAt : zOk yX7_barAt 1 := by unfold zOk; decide +kernel
theorem lkX7_bar_149 : Cond.fieldLink RX7 149 "ConfigSearchModel" "bars" "I" ∈ wsX7_bar := by decide +kernel
theorem lkX7_bar_37 : Cond.fieldLink RX7 37 "ConfigSearchModel" "barMask" "[I" ∈ wsX7_bar := by decide +kernel
def X7_bar_v (pts lns brs : Nat) (lm bm : Nat → Int32) (a b c : Int32) : Int32 := if (X7_isTriple_v pts a b c) = 0 then (-9) else (if (X7_isFlat_v lns lm (X7_maskOf_v a b c)) = 0 then (if (X7_barAt_v brs bm (X7_maskOf_v a b c)) = (-4) then (if (nI brs) = (nI 20) then (-3) else (nI (brs + 1))) else (nI brs)) else (-2))
def X7_bar_p76_0 (pts lns brs : Nat) (lm bm : Nat → Int32) (a b c : Int32) : Nat := if (X7_isTriple_v pts a b c) = 0 then 0 else (if (X7_isFlat_v lns lm (X7_maskOf_v a b c)) = 0 then (if (X7_barAt_v brs bm (X7_maskOf_v a b c)) = (-4) then (if (nI brs) = (nI 20) then 0 else 0) else 0) else 0)
def X7_bar_p76_5 (pts lns brs : Nat) (lm bm : Nat → Int32) (a b c : Int32) : Nat := if (X7_isTriple_v pts a b c) = 0 then brs else (if (X7_isFlat_v lns lm (X7_maskOf_v a b c)) = 0 then (if (X7_barAt_v brs bm (X7_maskOf_v a b c)) = (-4) then (if (nI brs) = (nI 20) then brs else (brs + 1)) else brs) else brs)
def X7_bar_c86 (pts lns brs : Nat) (lm bm : Nat → Int32) (a b c : Int32) : Nat → Int32 := if (X7_isTriple_v pts a b c) = 0 then bm else (if (X7_isFlat_v lns lm (X7_maskOf_v a b c)) = 0 then (if (X7_barAt_v brs bm (X7_maskOf_v a b c)) = (-4) then (if (nI brs) = (nI 20) then bm else (upd bm brs (X7_maskOf_v a b c))) else bm) else bm)
set_option maxRecDepth 100000 in
set_option maxHeartbeats 4000000 in
theorem c_X7_bar (G : zG) (ex : Bool) (g : Nat → va_E) (code : Int32) (tps pts lns wds brs ors : Nat) (stp hasP fld laid told : Int32) (rws : Nat) (cms : Int32) (cmT : Nat) (cmS isN : Int32) (trs : Nat) (lm bm : Nat → Int32) (a b c : Int32) (hl : lns ≤ 12) (hb : brs ≤ 20) (h76 : g 76 = (oMod G code (nI tps) (nI pts) (nI lns) (nI wds) (nI brs) (nI ors) stp hasP fld laid told (nI rws) cms (nI cmT) cmS isN (nI trs))) (h82 : g 82 = (zI G 12 lm)) (h86 : g 86 = (zI G 20 bm)) : zC G yX7_bar wsX7_bar (zrm 2 45) ex [.ref (zB G + 76), .int a, .int b, .int c] (zN, g) (fun r h => r = some (.int (X7_bar_v pts lns brs lm bm a b c)) ∧ h = (zN, zus g [(76, (oMod G (nI (X7_bar_p76_0 pts lns brs lm bm a b c)) (nI tps) (nI pts) (nI lns) (nI wds) (nI (X7_bar_p76_5 pts lns brs lm bm a b c)) (nI ors) stp hasP fld laid told (nI rws) cms (nI cmT) cmS isN (nI trs))), (86, zI G 20 (X7_bar_c86 pts lns brs lm bm a b c))])) := by
  refine zC_of mX7_bar (lv := [some (.ref (zB G + 76)), some (.int a), some (.int b), some (.int c), none]) rfl rfl (by decide) (by intro v hv; simp at hv; rcases hv with rfl | rfl | rfl | rfl <;> rfl) (Nat.le_of_ble_eq_true rfl) rfl ?_
  refine z_0 ?_
  refine z_heap (g' := zu (zus g []) 76 (oMod G code (nI tps) (nI pts) (nI lns) (nI wds) (nI brs) (nI ors) stp hasP fld laid told (nI rws) cms (nI cmT) cmS isN (nI trs))) (zu_self (zus g []) 76 _ h76).symm ?_
  refine z_n (L' := [(76, (oMod G code (nI tps) (nI pts) (nI lns) (nI wds) (nI brs) (nI ors) stp hasP fld laid told (nI rws) cms (nI cmT) cmS isN (nI trs)))]) rfl ?_
  refine z_heap (g' := zu (zus g [(76, (oMod G code (nI tps) (nI pts) (nI lns) (nI wds) (nI brs) (nI ors) stp hasP fld laid told (nI rws) cms (nI cmT) cmS isN (nI trs)))]) 86 (zI G 20 bm)) (zu_self (zus g [(76, (oMod G code (nI tps) (nI pts) (nI lns) (nI wds) (nI brs) (nI ors) stp hasP fld laid told (nI rws) cms (nI cmT) cmS isN (nI trs)))]) 86 _ h86).symm ?_
  refine z_n (L' := [(76, (oMod G code (nI tps) (nI pts) (nI lns) (nI wds) (nI brs) (nI ors) stp hasP fld laid told (nI rws) cms (nI cmT) cmS isN (nI trs))), (86, (zI G 20 bm))]) rfl ?_
  refine z_aload_n dX7_bar_0 rfl rfl ?_
  refine z_iconst (v := nI 0) dX7_bar_1 rfl (by decide) ?_
  refine z_putN (e9 := (oMod G (nI 0) (nI tps) (nI pts) (nI lns) (nI wds) (nI brs) (nI ors) stp hasP fld laid told (nI rws) cms (nI cmT) cmS isN (nI trs))) tyX7 tyX7_ok nmX7 dX7_bar_2 rfl hiX7_bar_X7 0 lkX7_bar_122 rfl (by decide +kernel) (Nat.le_of_ble_eq_true rfl) rfl rfl (by decide) (Nat.le_of_ble_eq_true rfl) rfl rfl rfl ?_
  refine z_n (L' := [(76, (oMod G (nI 0) (nI tps) (nI pts) (nI lns) (nI wds) (nI brs) (nI ors) stp hasP fld laid told (nI rws) cms (nI cmT) cmS isN (nI trs))), (86, (zI G 20 bm))]) rfl ?_
  refine z_aload_n dX7_bar_5 rfl rfl ?_
  refine z_iload_n dX7_bar_6 rfl rfl ?_
  refine z_iload_n dX7_bar_7 rfl rfl ?_
  refine z_iload_n dX7_bar_8 rfl rfl ?_
  refine z_callVi (c_X7_isTriple G ex _ (nI 0) tps pts lns wds brs ors stp hasP fld laid told rws cms cmT cmS isN trs a b c rfl) gX7_bar_X7_isTriple rfl dX7_bar_9 rfl rfl rfl okk_X7_isTriple (Nat.le_of_ble_eq_true rfl) rfl rfl ⟨Nat.le_of_ble_eq_true rfl, Nat.le_of_ble_eq_true rfl⟩ ⟨Nat.le_of_ble_eq_true rfl, Nat.le_of_ble_eq_true rfl⟩ (Nat.le_of_ble_eq_true rfl) ?_
  refine z_if_ne (tgt := 18) dX7_bar_12 rfl (by decide) (fun c12 => ?_) (fun c12 => ?_)
  · refine z_iload_n dX7_bar_18 rfl rfl ?_
    refine z_iload_n dX7_bar_19 rfl rfl ?_
    refine z_iload_n dX7_bar_20 rfl rfl ?_
    refine z_callSi (c_X7_maskOf G ex _ a b c) gX7_bar_X7_maskOf rfl dX7_bar_21 rfl rfl okk_X7_maskOf ⟨Nat.le_of_ble_eq_true rfl, Nat.le_of_ble_eq_true rfl⟩ ⟨Nat.le_of_ble_eq_true rfl, Nat.le_of_ble_eq_true rfl⟩ (Nat.le_of_ble_eq_true rfl) ?_
    refine z_istore_4 dX7_bar_24 rfl ?_
    refine z_aload_n dX7_bar_26 rfl rfl ?_
    refine z_iload dX7_bar_27 rfl rfl ?_
    refine z_callVi (c_X7_isFlat G ex _ (nI 0) tps pts lns wds brs ors stp hasP fld laid told rws cms cmT cmS isN trs lm (X7_maskOf_v a b c) (by omega) rfl h82) gX7_bar_X7_isFlat rfl dX7_bar_29 rfl rfl rfl okk_X7_isFlat (Nat.le_of_ble_eq_true rfl) rfl rfl ⟨Nat.le_of_ble_eq_true rfl, Nat.le_of_ble_eq_true rfl⟩ ⟨Nat.le_of_ble_eq_true rfl, Nat.le_of_ble_eq_true rfl⟩ (Nat.le_of_ble_eq_true rfl) ?_
    refine z_if_eq (tgt := 38) dX7_bar_32 rfl (by decide) (fun c32 => ?_) (fun c32 => ?_)
    · refine z_aload_n dX7_bar_38 rfl rfl ?_
      refine z_iload dX7_bar_39 rfl rfl ?_
      refine z_callVi (c_X7_barAt G ex _ (nI 0) tps pts lns wds brs ors stp hasP fld laid told rws cms cmT cmS isN trs bm (X7_maskOf_v a b c) (by omega) rfl rfl) gX7_bar_X7_barAt rfl dX7_bar_41 rfl rfl rfl okk_X7_barAt (Nat.le_of_ble_eq_true rfl) rfl rfl ⟨Nat.le_of_ble_eq_true rfl, Nat.le_of_ble_eq_true rfl⟩ ⟨Nat.le_of_ble_eq_true rfl, Nat.le_of_ble_eq_true rfl⟩ (Nat.le_of_ble_eq_true rfl) ?_
      refine z_bipush (v := (-4)) dX7_bar_44 rfl (by decide) ?_
      refine z_icmp_ne (tgt := 82) dX7_bar_46 rfl (by decide) (fun c46 => ?_) (fun c46 => ?_)
      · refine z_aload_n dX7_bar_82 rfl rfl ?_
        refine z_get dX7_bar_83 rfl hiX7_bar_X7 14 lkX7_bar_149 (Nat.le_of_ble_eq_true rfl) rfl rfl (by decide) rfl ?_
        exact z_ireturn dX7_bar_86 rfl rfl (Nat.le_refl _) (Nat.le_refl _) (fun _ => rfl) ⟨by simp only [X7_bar_v, if_neg c12, if_pos c32, if_neg c46], by simp only [X7_bar_p76_0, X7_bar_p76_5, X7_bar_c86, if_neg c12, if_pos c32, if_neg c46]⟩
      · refine z_aload_n dX7_bar_49 rfl rfl ?_
        refine z_get dX7_bar_50 rfl hiX7_bar_X7 14 lkX7_bar_149 (Nat.le_of_ble_eq_true rfl) rfl rfl (by decide) rfl ?_
        refine z_bipush (v := nI 20) dX7_bar_53 rfl (by decide) ?_
        refine z_icmp_ne (tgt := 61) dX7_bar_55 rfl (by decide) (fun c55 => ?_) (fun c55 => ?_)
        · refine z_aload_n dX7_bar_61 rfl rfl ?_
          refine z_get dX7_bar_62 rfl hiX7_bar_X7 15 lkX7_bar_37 (Nat.le_of_ble_eq_true rfl) rfl rfl (by decide) rfl ?_
          refine z_aload_n dX7_bar_65 rfl rfl ?_
          refine z_get dX7_bar_66 rfl hiX7_bar_X7 14 lkX7_bar_149 (Nat.le_of_ble_eq_true rfl) rfl rfl (by decide) rfl ?_
          refine z_iload dX7_bar_69 rfl rfl ?_
          refine z_iastN (j := brs) dX7_bar_71 rfl (Nat.le_of_ble_eq_true rfl) rfl (rfl) (znlt hb c55) (by decide) ?_
          refine z_n (L' := [(76, (oMod G (nI 0) (nI tps) (nI pts) (nI lns) (nI wds) (nI brs) (nI ors) stp hasP fld laid told (nI rws) cms (nI cmT) cmS isN (nI trs))), (86, (zI G 20 (upd bm brs (X7_maskOf_v a b c))))]) rfl ?_
          refine z_aload_n dX7_bar_72 rfl rfl ?_
          refine z_dup dX7_bar_73 rfl rfl ?_
          refine z_get dX7_bar_74 rfl hiX7_bar_X7 14 lkX7_bar_149 (Nat.le_of_ble_eq_true rfl) rfl rfl (by decide) rfl ?_
          refine z_iconst (v := nI 1) dX7_bar_77 rfl (by decide) ?_
          refine z_iadd dX7_bar_78 rfl ?_
          refine z_top (show (nI brs) + (nI 1) = nI (brs + 1) from (zq_add rfl rfl)) ?_
          refine z_putN (e9 := (oMod G (nI 0) (nI tps) (nI pts) (nI lns) (nI wds) (nI (brs + 1)) (nI ors) stp hasP fld laid told (nI rws) cms (nI cmT) cmS isN (nI trs))) tyX7 tyX7_ok nmX7 dX7_bar_79 rfl hiX7_bar_X7 14 lkX7_bar_149 rfl (by decide +kernel) (Nat.le_of_ble_eq_true rfl) rfl rfl (by decide) (Nat.le_of_ble_eq_true rfl) rfl rfl rfl ?_
          refine z_n (L' := [(76, (oMod G (nI 0) (nI tps) (nI pts) (nI lns) (nI wds) (nI (brs + 1)) (nI ors) stp hasP fld laid told (nI rws) cms (nI cmT) cmS isN (nI trs))), (86, (zI G 20 (upd bm brs (X7_maskOf_v a b c))))]) rfl ?_
          refine z_aload_n dX7_bar_82 rfl rfl ?_
          refine z_get dX7_bar_83 rfl hiX7_bar_X7 14 lkX7_bar_149 (Nat.le_of_ble_eq_true rfl) rfl rfl (by decide) rfl ?_
          exact z_ireturn dX7_bar_86 rfl rfl (Nat.le_refl _) (Nat.le_refl _) (fun _ => rfl) ⟨by simp only [X7_bar_v, if_neg c12, if_pos c32, if_pos c46, if_neg c55], by simp only [X7_bar_p76_0, X7_bar_p76_5, X7_bar_c86, if_neg c12, if_pos c32, if_pos c46, if_neg c55]⟩
        · refine z_bipush (v := (-3)) dX7_bar_58 rfl (by decide) ?_
          exact z_ireturn dX7_bar_60 rfl rfl (Nat.le_refl _) (Nat.le_refl _) (fun _ => rfl) ⟨by simp only [X7_bar_v, if_neg c12, if_pos c32, if_pos c46, if_pos c55], by simp only [X7_bar_p76_0, X7_bar_p76_5, X7_bar_c86, if_neg c12, if_pos c32, if_pos c46, if_pos c55]⟩
    · refine z_bipush (v := (-2)) dX7_bar_35 rfl (by decide) ?_
      exact z_ireturn dX7_bar_37 rfl rfl (Nat.le_refl _) (Nat.le_refl _) (fun _ => rfl) ⟨by simp only [X7_bar_v, if_neg c12, if_neg c32], by simp only [X7_bar_p76_0, X7_bar_p76_5, X7_bar_c86, if_neg c12, if_neg c32]⟩
  · refine z_bipush (v := (-9)) dX7_bar_15 rfl (by decide) ?_
    exact z_ireturn dX7_bar_17 rfl rfl (Nat.le_refl _) (Nat.le_refl _) (fun _ => rfl) ⟨by simp only [X7_bar_v, if_pos c12], by simp only [X7_bar_p76_0, X7_bar_p76_5, X7_bar_c86, if_pos c12]⟩
abbrev mX7_orient : zM := (cX7_orient, 8, (some .int), RX7, wsX7_orient, "orient")
theorem hiX7_orient_X7 : ∀ w ∈ wsX70, w ∈ wsX7_orient := fun w h => List.mem_cons_of_mem _ (List.mem_append_right _ h)
theorem lkX7_orient_122 : Cond.fieldLink RX7 122 "ConfigSearchModel" "code" "I" ∈ wsX7_orient := by decide +kernel
theorem okk_X7_turnOf : zOk yX7_turnOf 3 := by unfold zOk; decide +kernel
theorem okk_X7_orientAt : zOk yX7_orientAt 1 := by unfold zOk; decide +kernel
theorem lkX7_orient_152 : Cond.fieldLink RX7 152 "ConfigSearchModel" "orients" "I" ∈ wsX7_orient := by decide +kernel
theorem lkX7_orient_40 : Cond.fieldLink RX7 40 "ConfigSearchModel" "orientMask" "[I" ∈ wsX7_orient := by decide +kernel
theorem lkX7_orient_43 : Cond.fieldLink RX7 43 "ConfigSearchModel" "orientSign" "[I" ∈ wsX7_orient := by decide +kernel
def X7_orient_v (pts lns ors : Nat) (lm om os : Nat → Int32) (a b c sg : Int32) : Int32 := if (X7_isTriple_v pts a b c) = 0 then (-9) else (if sg = (nI 1) then (if (X7_isFlat_v lns lm (X7_maskOf_v a b c)) = 0 then (if (X7_orientAt_v ors om (X7_maskOf_v a b c)) = (-4) then (if (nI ors) = (nI 20) then (-3) else (nI (ors + 1))) else (if (os (X7_orientAt_v ors om (X7_maskOf_v a b c)).toNatClampNeg) = (sg * (X7_turnOf_v a b c)) then (nI ors) else (-2))) else (-2)) else (if sg = (-1) then (if (X7_isFlat_v lns lm (X7_maskOf_v a b c)) = 0 then (if (X7_orientAt_v ors om (X7_maskOf_v a b c)) = (-4) then (if (nI ors) = (nI 20) then (-3) else (nI (ors + 1))) else (if (os (X7_orientAt_v ors om (X7_maskOf_v a b c)).toNatClampNeg) = (sg * (X7_turnOf_v a b c)) then (nI ors) else (-2))) else (-2)) else (-9)))
def X7_orient_p76_0 (pts lns ors : Nat) (lm om os : Nat → Int32) (a b c sg : Int32) : Nat := if (X7_isTriple_v pts a b c) = 0 then 0 else (if sg = (nI 1) then (if (X7_isFlat_v lns lm (X7_maskOf_v a b c)) = 0 then (if (X7_orientAt_v ors om (X7_maskOf_v a b c)) = (-4) then (if (nI ors) = (nI 20) then 0 else 0) else (if (os (X7_orientAt_v ors om (X7_maskOf_v a b c)).toNatClampNeg) = (sg * (X7_turnOf_v a b c)) then 0 else 0)) else 0) else (if sg = (-1) then (if (X7_isFlat_v lns lm (X7_maskOf_v a b c)) = 0 then (if (X7_orientAt_v ors om (X7_maskOf_v a b c)) = (-4) then (if (nI ors) = (nI 20) then 0 else 0) else (if (os (X7_orientAt_v ors om (X7_maskOf_v a b c)).toNatClampNeg) = (sg * (X7_turnOf_v a b c)) then 0 else 0)) else 0) else 0))
def X7_orient_p76_6 (pts lns ors : Nat) (lm om os : Nat → Int32) (a b c sg : Int32) : Nat := if (X7_isTriple_v pts a b c) = 0 then ors else (if sg = (nI 1) then (if (X7_isFlat_v lns lm (X7_maskOf_v a b c)) = 0 then (if (X7_orientAt_v ors om (X7_maskOf_v a b c)) = (-4) then (if (nI ors) = (nI 20) then ors else (ors + 1)) else (if (os (X7_orientAt_v ors om (X7_maskOf_v a b c)).toNatClampNeg) = (sg * (X7_turnOf_v a b c)) then ors else ors)) else ors) else (if sg = (-1) then (if (X7_isFlat_v lns lm (X7_maskOf_v a b c)) = 0 then (if (X7_orientAt_v ors om (X7_maskOf_v a b c)) = (-4) then (if (nI ors) = (nI 20) then ors else (ors + 1)) else (if (os (X7_orientAt_v ors om (X7_maskOf_v a b c)).toNatClampNeg) = (sg * (X7_turnOf_v a b c)) then ors else ors)) else ors) else ors))
def X7_orient_c87 (pts lns ors : Nat) (lm om os : Nat → Int32) (a b c sg : Int32) : Nat → Int32 := if (X7_isTriple_v pts a b c) = 0 then om else (if sg = (nI 1) then (if (X7_isFlat_v lns lm (X7_maskOf_v a b c)) = 0 then (if (X7_orientAt_v ors om (X7_maskOf_v a b c)) = (-4) then (if (nI ors) = (nI 20) then om else (upd om ors (X7_maskOf_v a b c))) else (if (os (X7_orientAt_v ors om (X7_maskOf_v a b c)).toNatClampNeg) = (sg * (X7_turnOf_v a b c)) then om else om)) else om) else (if sg = (-1) then (if (X7_isFlat_v lns lm (X7_maskOf_v a b c)) = 0 then (if (X7_orientAt_v ors om (X7_maskOf_v a b c)) = (-4) then (if (nI ors) = (nI 20) then om else (upd om ors (X7_maskOf_v a b c))) else (if (os (X7_orientAt_v ors om (X7_maskOf_v a b c)).toNatClampNeg) = (sg * (X7_turnOf_v a b c)) then om else om)) else om) else om))
def X7_orient_c88 (pts lns ors : Nat) (lm om os : Nat → Int32) (a b c sg : Int32) : Nat → Int32 := if (X7_isTriple_v pts a b c) = 0 then os else (if sg = (nI 1) then (if (X7_isFlat_v lns lm (X7_maskOf_v a b c)) = 0 then (if (X7_orientAt_v ors om (X7_maskOf_v a b c)) = (-4) then (if (nI ors) = (nI 20) then os else (upd os ors (sg * (X7_turnOf_v a b c)))) else (if (os (X7_orientAt_v ors om (X7_maskOf_v a b c)).toNatClampNeg) = (sg * (X7_turnOf_v a b c)) then os else os)) else os) else (if sg = (-1) then (if (X7_isFlat_v lns lm (X7_maskOf_v a b c)) = 0 then (if (X7_orientAt_v ors om (X7_maskOf_v a b c)) = (-4) then (if (nI ors) = (nI 20) then os else (upd os ors (sg * (X7_turnOf_v a b c)))) else (if (os (X7_orientAt_v ors om (X7_maskOf_v a b c)).toNatClampNeg) = (sg * (X7_turnOf_v a b c)) then os else os)) else os) else os))
set_option maxRecDepth 100000 in
set_option maxHeartbeats 4000000 in
theorem c_X7_orient (G : zG) (ex : Bool) (g : Nat → va_E) (code : Int32) (tps pts lns wds brs ors : Nat) (stp hasP fld laid told : Int32) (rws : Nat) (cms : Int32) (cmT : Nat) (cmS isN : Int32) (trs : Nat) (lm om os : Nat → Int32) (a b c sg : Int32) (hl : lns ≤ 12) (ho : ors ≤ 20) (h76 : g 76 = (oMod G code (nI tps) (nI pts) (nI lns) (nI wds) (nI brs) (nI ors) stp hasP fld laid told (nI rws) cms (nI cmT) cmS isN (nI trs))) (h82 : g 82 = (zI G 12 lm)) (h87 : g 87 = (zI G 20 om)) (h88 : g 88 = (zI G 20 os)) : zC G yX7_orient wsX7_orient (zrm 2 45) ex [.ref (zB G + 76), .int a, .int b, .int c, .int sg] (zN, g) (fun r h => r = some (.int (X7_orient_v pts lns ors lm om os a b c sg)) ∧ h = (zN, zus g [(76, (oMod G (nI (X7_orient_p76_0 pts lns ors lm om os a b c sg)) (nI tps) (nI pts) (nI lns) (nI wds) (nI brs) (nI (X7_orient_p76_6 pts lns ors lm om os a b c sg)) stp hasP fld laid told (nI rws) cms (nI cmT) cmS isN (nI trs))), (87, zI G 20 (X7_orient_c87 pts lns ors lm om os a b c sg)), (88, zI G 20 (X7_orient_c88 pts lns ors lm om os a b c sg))])) := by
  refine zC_of mX7_orient (lv := [some (.ref (zB G + 76)), some (.int a), some (.int b), some (.int c), some (.int sg), none, none, none]) rfl rfl (by decide) (by intro v hv; simp at hv; rcases hv with rfl | rfl | rfl | rfl | rfl <;> rfl) (Nat.le_of_ble_eq_true rfl) rfl ?_
  refine z_0 ?_
  refine z_heap (g' := zu (zus g []) 76 (oMod G code (nI tps) (nI pts) (nI lns) (nI wds) (nI brs) (nI ors) stp hasP fld laid told (nI rws) cms (nI cmT) cmS isN (nI trs))) (zu_self (zus g []) 76 _ h76).symm ?_
  refine z_n (L' := [(76, (oMod G code (nI tps) (nI pts) (nI lns) (nI wds) (nI brs) (nI ors) stp hasP fld laid told (nI rws) cms (nI cmT) cmS isN (nI trs)))]) rfl ?_
  refine z_heap (g' := zu (zus g [(76, (oMod G code (nI tps) (nI pts) (nI lns) (nI wds) (nI brs) (nI ors) stp hasP fld laid told (nI rws) cms (nI cmT) cmS isN (nI trs)))]) 87 (zI G 20 om)) (zu_self (zus g [(76, (oMod G code (nI tps) (nI pts) (nI lns) (nI wds) (nI brs) (nI ors) stp hasP fld laid told (nI rws) cms (nI cmT) cmS isN (nI trs)))]) 87 _ h87).symm ?_
  refine z_n (L' := [(76, (oMod G code (nI tps) (nI pts) (nI lns) (nI wds) (nI brs) (nI ors) stp hasP fld laid told (nI rws) cms (nI cmT) cmS isN (nI trs))), (87, (zI G 20 om))]) rfl ?_
  refine z_heap (g' := zu (zus g [(76, (oMod G code (nI tps) (nI pts) (nI lns) (nI wds) (nI brs) (nI ors) stp hasP fld laid told (nI rws) cms (nI cmT) cmS isN (nI trs))), (87, (zI G 20 om))]) 88 (zI G 20 os)) (zu_self (zus g [(76, (oMod G code (nI tps) (nI pts) (nI lns) (nI wds) (nI brs) (nI ors) stp hasP fld laid told (nI rws) cms (nI cmT) cmS isN (nI trs))), (87, (zI G 20 om))]) 88 _ h88).symm ?_
  refine z_n (L' := [(76, (oMod G code (nI tps) (nI pts) (nI lns) (nI wds) (nI brs) (nI ors) stp hasP fld laid told (nI rws) cms (nI cmT) cmS isN (nI trs))), (87, (zI G 20 om)), (88, (zI G 20 os))]) rfl ?_
  refine z_aload_n dX7_orient_0 rfl rfl ?_
  refine z_iconst (v := nI 0) dX7_orient_1 rfl (by decide) ?_
  refine z_putN (e9 := (oMod G (nI 0) (nI tps) (nI pts) (nI lns) (nI wds) (nI brs) (nI ors) stp hasP fld laid told (nI rws) cms (nI cmT) cmS isN (nI trs))) tyX7 tyX7_ok nmX7 dX7_orient_2 rfl hiX7_orient_X7 0 lkX7_orient_122 rfl (by decide +kernel) (Nat.le_of_ble_eq_true rfl) rfl rfl (by decide) (Nat.le_of_ble_eq_true rfl) rfl rfl rfl ?_
  refine z_n (L' := [(76, (oMod G (nI 0) (nI tps) (nI pts) (nI lns) (nI wds) (nI brs) (nI ors) stp hasP fld laid told (nI rws) cms (nI cmT) cmS isN (nI trs))), (87, (zI G 20 om)), (88, (zI G 20 os))]) rfl ?_
  refine z_aload_n dX7_orient_5 rfl rfl ?_
  refine z_iload_n dX7_orient_6 rfl rfl ?_
  refine z_iload_n dX7_orient_7 rfl rfl ?_
  refine z_iload_n dX7_orient_8 rfl rfl ?_
  refine z_callVi (c_X7_isTriple G ex _ (nI 0) tps pts lns wds brs ors stp hasP fld laid told rws cms cmT cmS isN trs a b c rfl) gX7_orient_X7_isTriple rfl dX7_orient_9 rfl rfl rfl okk_X7_isTriple (Nat.le_of_ble_eq_true rfl) rfl rfl ⟨Nat.le_of_ble_eq_true rfl, Nat.le_of_ble_eq_true rfl⟩ ⟨Nat.le_of_ble_eq_true rfl, Nat.le_of_ble_eq_true rfl⟩ (Nat.le_of_ble_eq_true rfl) ?_
  refine z_if_eq (tgt := 27) dX7_orient_12 rfl (by decide) (fun c12 => ?_) (fun c12 => ?_)
  · refine z_bipush (v := (-9)) dX7_orient_27 rfl (by decide) ?_
    exact z_ireturn dX7_orient_29 rfl rfl (Nat.le_refl _) (Nat.le_refl _) (fun _ => rfl) ⟨by simp only [X7_orient_v, if_pos c12], by simp only [X7_orient_p76_0, X7_orient_p76_6, X7_orient_c87, X7_orient_c88, if_pos c12]⟩
  · refine z_iload dX7_orient_15 rfl rfl ?_
    refine z_iconst (v := nI 1) dX7_orient_17 rfl (by decide) ?_
    refine z_icmp_eq (tgt := 30) dX7_orient_18 rfl (by decide) (fun c18 => ?_) (fun c18 => ?_)
    · refine z_iload_n dX7_orient_30 rfl rfl ?_
      refine z_iload_n dX7_orient_31 rfl rfl ?_
      refine z_iload_n dX7_orient_32 rfl rfl ?_
      refine z_callSi (c_X7_maskOf G ex _ a b c) gX7_orient_X7_maskOf rfl dX7_orient_33 rfl rfl okk_X7_maskOf ⟨Nat.le_of_ble_eq_true rfl, Nat.le_of_ble_eq_true rfl⟩ ⟨Nat.le_of_ble_eq_true rfl, Nat.le_of_ble_eq_true rfl⟩ (Nat.le_of_ble_eq_true rfl) ?_
      refine z_istore_5 dX7_orient_36 rfl ?_
      refine z_iload dX7_orient_38 rfl rfl ?_
      refine z_iload_n dX7_orient_40 rfl rfl ?_
      refine z_iload_n dX7_orient_41 rfl rfl ?_
      refine z_iload_n dX7_orient_42 rfl rfl ?_
      refine z_callSi (c_X7_turnOf G ex _ a b c) gX7_orient_X7_turnOf rfl dX7_orient_43 rfl rfl okk_X7_turnOf ⟨Nat.le_of_ble_eq_true rfl, Nat.le_of_ble_eq_true rfl⟩ ⟨Nat.le_of_ble_eq_true rfl, Nat.le_of_ble_eq_true rfl⟩ (Nat.le_of_ble_eq_true rfl) ?_
      refine z_imul dX7_orient_46 rfl ?_
      refine z_istore_6 dX7_orient_47 rfl ?_
      refine z_aload_n dX7_orient_49 rfl rfl ?_
      refine z_iload dX7_orient_50 rfl rfl ?_
      refine z_callVi (c_X7_orientAt G ex _ (nI 0) tps pts lns wds brs ors stp hasP fld laid told rws cms cmT cmS isN trs om (X7_maskOf_v a b c) (by omega) rfl rfl) gX7_orient_X7_orientAt rfl dX7_orient_52 rfl rfl rfl okk_X7_orientAt (Nat.le_of_ble_eq_true rfl) rfl rfl ⟨Nat.le_of_ble_eq_true rfl, Nat.le_of_ble_eq_true rfl⟩ ⟨Nat.le_of_ble_eq_true rfl, Nat.le_of_ble_eq_true rfl⟩ (Nat.le_of_ble_eq_true rfl) ?_
      refine z_istore_7 dX7_orient_55 rfl ?_
      refine z_aload_n dX7_orient_57 rfl rfl ?_
      refine z_iload dX7_orient_58 rfl rfl ?_
      refine z_callVi (c_X7_isFlat G ex _ (nI 0) tps pts lns wds brs ors stp hasP fld laid told rws cms cmT cmS isN trs lm (X7_maskOf_v a b c) (by omega) rfl h82) gX7_orient_X7_isFlat rfl dX7_orient_60 rfl rfl rfl okk_X7_isFlat (Nat.le_of_ble_eq_true rfl) rfl rfl ⟨Nat.le_of_ble_eq_true rfl, Nat.le_of_ble_eq_true rfl⟩ ⟨Nat.le_of_ble_eq_true rfl, Nat.le_of_ble_eq_true rfl⟩ (Nat.le_of_ble_eq_true rfl) ?_
      refine z_if_ne (tgt := 85) dX7_orient_63 rfl (by decide) (fun c63 => ?_) (fun c63 => ?_)
      · refine z_bipush (v := (-2)) dX7_orient_85 rfl (by decide) ?_
        exact z_ireturn dX7_orient_87 rfl rfl (Nat.le_refl _) (Nat.le_refl _) (fun _ => rfl) ⟨by simp only [X7_orient_v, if_neg c12, if_pos c18, if_neg c63], by simp only [X7_orient_p76_0, X7_orient_p76_6, X7_orient_c87, X7_orient_c88, if_neg c12, if_pos c18, if_neg c63]⟩
      · refine z_iload dX7_orient_66 rfl rfl ?_
        refine z_bipush (v := (-4)) dX7_orient_68 rfl (by decide) ?_
        refine z_icmp_eq (tgt := 88) dX7_orient_70 rfl (by decide) (fun c70 => ?_) (fun c70 => ?_)
        · refine z_iload dX7_orient_88 rfl rfl ?_
          refine z_bipush (v := (-4)) dX7_orient_90 rfl (by decide) ?_
          refine z_icmp_ne (tgt := 139) dX7_orient_92 rfl (by decide) (fun c92 => ?_) (fun c92 => ?_)
          · exact absurd c70 c92
          · refine z_aload_n dX7_orient_95 rfl rfl ?_
            refine z_get dX7_orient_96 rfl hiX7_orient_X7 16 lkX7_orient_152 (Nat.le_of_ble_eq_true rfl) rfl rfl (by decide) rfl ?_
            refine z_bipush (v := nI 20) dX7_orient_99 rfl (by decide) ?_
            refine z_icmp_ne (tgt := 107) dX7_orient_101 rfl (by decide) (fun c101 => ?_) (fun c101 => ?_)
            · refine z_aload_n dX7_orient_107 rfl rfl ?_
              refine z_get dX7_orient_108 rfl hiX7_orient_X7 17 lkX7_orient_40 (Nat.le_of_ble_eq_true rfl) rfl rfl (by decide) rfl ?_
              refine z_aload_n dX7_orient_111 rfl rfl ?_
              refine z_get dX7_orient_112 rfl hiX7_orient_X7 16 lkX7_orient_152 (Nat.le_of_ble_eq_true rfl) rfl rfl (by decide) rfl ?_
              refine z_iload dX7_orient_115 rfl rfl ?_
              refine z_iastN (j := ors) dX7_orient_117 rfl (Nat.le_of_ble_eq_true rfl) rfl (rfl) (znlt ho c101) (by decide) ?_
              refine z_n (L' := [(76, (oMod G (nI 0) (nI tps) (nI pts) (nI lns) (nI wds) (nI brs) (nI ors) stp hasP fld laid told (nI rws) cms (nI cmT) cmS isN (nI trs))), (87, (zI G 20 (upd om ors (X7_maskOf_v a b c)))), (88, (zI G 20 os))]) rfl ?_
              refine z_aload_n dX7_orient_118 rfl rfl ?_
              refine z_get dX7_orient_119 rfl hiX7_orient_X7 18 lkX7_orient_43 (Nat.le_of_ble_eq_true rfl) rfl rfl (by decide) rfl ?_
              refine z_aload_n dX7_orient_122 rfl rfl ?_
              refine z_get dX7_orient_123 rfl hiX7_orient_X7 16 lkX7_orient_152 (Nat.le_of_ble_eq_true rfl) rfl rfl (by decide) rfl ?_
              refine z_iload dX7_orient_126 rfl rfl ?_
              refine z_iastN (j := ors) dX7_orient_128 rfl (Nat.le_of_ble_eq_true rfl) rfl (rfl) (znlt ho c101) (by decide) ?_
              refine z_n (L' := [(76, (oMod G (nI 0) (nI tps) (nI pts) (nI lns) (nI wds) (nI brs) (nI ors) stp hasP fld laid told (nI rws) cms (nI cmT) cmS isN (nI trs))), (87, (zI G 20 (upd om ors (X7_maskOf_v a b c)))), (88, (zI G 20 (upd os ors (sg * (X7_turnOf_v a b c)))))]) rfl ?_
              refine z_aload_n dX7_orient_129 rfl rfl ?_
              refine z_dup dX7_orient_130 rfl rfl ?_
              refine z_get dX7_orient_131 rfl hiX7_orient_X7 16 lkX7_orient_152 (Nat.le_of_ble_eq_true rfl) rfl rfl (by decide) rfl ?_
              refine z_iconst (v := nI 1) dX7_orient_134 rfl (by decide) ?_
              refine z_iadd dX7_orient_135 rfl ?_
              refine z_top (show (nI ors) + (nI 1) = nI (ors + 1) from (zq_add rfl rfl)) ?_
              refine z_putN (e9 := (oMod G (nI 0) (nI tps) (nI pts) (nI lns) (nI wds) (nI brs) (nI (ors + 1)) stp hasP fld laid told (nI rws) cms (nI cmT) cmS isN (nI trs))) tyX7 tyX7_ok nmX7 dX7_orient_136 rfl hiX7_orient_X7 16 lkX7_orient_152 rfl (by decide +kernel) (Nat.le_of_ble_eq_true rfl) rfl rfl (by decide) (Nat.le_of_ble_eq_true rfl) rfl rfl rfl ?_
              refine z_n (L' := [(76, (oMod G (nI 0) (nI tps) (nI pts) (nI lns) (nI wds) (nI brs) (nI (ors + 1)) stp hasP fld laid told (nI rws) cms (nI cmT) cmS isN (nI trs))), (87, (zI G 20 (upd om ors (X7_maskOf_v a b c)))), (88, (zI G 20 (upd os ors (sg * (X7_turnOf_v a b c)))))]) rfl ?_
              refine z_aload_n dX7_orient_139 rfl rfl ?_
              refine z_get dX7_orient_140 rfl hiX7_orient_X7 16 lkX7_orient_152 (Nat.le_of_ble_eq_true rfl) rfl rfl (by decide) rfl ?_
              exact z_ireturn dX7_orient_143 rfl rfl (Nat.le_refl _) (Nat.le_refl _) (fun _ => rfl) ⟨by simp only [X7_orient_v, if_neg c12, if_pos c18, if_pos c63, if_pos c70, if_neg c101], by simp only [X7_orient_p76_0, X7_orient_p76_6, X7_orient_c87, X7_orient_c88, if_neg c12, if_pos c18, if_pos c63, if_pos c70, if_neg c101]⟩
            · refine z_bipush (v := (-3)) dX7_orient_104 rfl (by decide) ?_
              exact z_ireturn dX7_orient_106 rfl rfl (Nat.le_refl _) (Nat.le_refl _) (fun _ => rfl) ⟨by simp only [X7_orient_v, if_neg c12, if_pos c18, if_pos c63, if_pos c70, if_pos c101], by simp only [X7_orient_p76_0, X7_orient_p76_6, X7_orient_c87, X7_orient_c88, if_neg c12, if_pos c18, if_pos c63, if_pos c70, if_pos c101]⟩
        · refine z_aload_n dX7_orient_73 rfl rfl ?_
          refine z_get dX7_orient_74 rfl hiX7_orient_X7 18 lkX7_orient_43 (Nat.le_of_ble_eq_true rfl) rfl rfl (by decide) rfl ?_
          refine z_iload dX7_orient_77 rfl rfl ?_
          refine z_iald dX7_orient_79 rfl (Nat.le_of_ble_eq_true rfl) rfl (vp_in_mono ((orientAt_in ho).resolve_left c70) ho) ?_
          refine z_iload dX7_orient_80 rfl rfl ?_
          refine z_icmp_eq (tgt := 88) dX7_orient_82 rfl (by decide) (fun c82 => ?_) (fun c82 => ?_)
          · refine z_iload dX7_orient_88 rfl rfl ?_
            refine z_bipush (v := (-4)) dX7_orient_90 rfl (by decide) ?_
            refine z_icmp_ne (tgt := 139) dX7_orient_92 rfl (by decide) (fun c92 => ?_) (fun c92 => ?_)
            · refine z_aload_n dX7_orient_139 rfl rfl ?_
              refine z_get dX7_orient_140 rfl hiX7_orient_X7 16 lkX7_orient_152 (Nat.le_of_ble_eq_true rfl) rfl rfl (by decide) rfl ?_
              exact z_ireturn dX7_orient_143 rfl rfl (Nat.le_refl _) (Nat.le_refl _) (fun _ => rfl) ⟨by simp only [X7_orient_v, if_neg c12, if_pos c18, if_pos c63, if_neg c70, if_pos c82], by simp only [X7_orient_p76_0, X7_orient_p76_6, X7_orient_c87, X7_orient_c88, if_neg c12, if_pos c18, if_pos c63, if_neg c70, if_pos c82]⟩
            · exact absurd c92 c70
          · refine z_bipush (v := (-2)) dX7_orient_85 rfl (by decide) ?_
            exact z_ireturn dX7_orient_87 rfl rfl (Nat.le_refl _) (Nat.le_refl _) (fun _ => rfl) ⟨by simp only [X7_orient_v, if_neg c12, if_pos c18, if_pos c63, if_neg c70, if_neg c82], by simp only [X7_orient_p76_0, X7_orient_p76_6, X7_orient_c87, X7_orient_c88, if_neg c12, if_pos c18, if_pos c63, if_neg c70, if_neg c82]⟩
    · refine z_iload dX7_orient_21 rfl rfl ?_
      refine z_iconst (v := (-1)) dX7_orient_23 rfl (by decide) ?_
      refine z_icmp_eq (tgt := 30) dX7_orient_24 rfl (by decide) (fun c24 => ?_) (fun c24 => ?_)
      · refine z_iload_n dX7_orient_30 rfl rfl ?_
        refine z_iload_n dX7_orient_31 rfl rfl ?_
        refine z_iload_n dX7_orient_32 rfl rfl ?_
        refine z_callSi (c_X7_maskOf G ex _ a b c) gX7_orient_X7_maskOf rfl dX7_orient_33 rfl rfl okk_X7_maskOf ⟨Nat.le_of_ble_eq_true rfl, Nat.le_of_ble_eq_true rfl⟩ ⟨Nat.le_of_ble_eq_true rfl, Nat.le_of_ble_eq_true rfl⟩ (Nat.le_of_ble_eq_true rfl) ?_
        refine z_istore_5 dX7_orient_36 rfl ?_
        refine z_iload dX7_orient_38 rfl rfl ?_
        refine z_iload_n dX7_orient_40 rfl rfl ?_
        refine z_iload_n dX7_orient_41 rfl rfl ?_
        refine z_iload_n dX7_orient_42 rfl rfl ?_
        refine z_callSi (c_X7_turnOf G ex _ a b c) gX7_orient_X7_turnOf rfl dX7_orient_43 rfl rfl okk_X7_turnOf ⟨Nat.le_of_ble_eq_true rfl, Nat.le_of_ble_eq_true rfl⟩ ⟨Nat.le_of_ble_eq_true rfl, Nat.le_of_ble_eq_true rfl⟩ (Nat.le_of_ble_eq_true rfl) ?_
        refine z_imul dX7_orient_46 rfl ?_
        refine z_istore_6 dX7_orient_47 rfl ?_
        refine z_aload_n dX7_orient_49 rfl rfl ?_
        refine z_iload dX7_orient_50 rfl rfl ?_
        refine z_callVi (c_X7_orientAt G ex _ (nI 0) tps pts lns wds brs ors stp hasP fld laid told rws cms cmT cmS isN trs om (X7_maskOf_v a b c) (by omega) rfl rfl) gX7_orient_X7_orientAt rfl dX7_orient_52 rfl rfl rfl okk_X7_orientAt (Nat.le_of_ble_eq_true rfl) rfl rfl ⟨Nat.le_of_ble_eq_true rfl, Nat.le_of_ble_eq_true rfl⟩ ⟨Nat.le_of_ble_eq_true rfl, Nat.le_of_ble_eq_true rfl⟩ (Nat.le_of_ble_eq_true rfl) ?_
        refine z_istore_7 dX7_orient_55 rfl ?_
        refine z_aload_n dX7_orient_57 rfl rfl ?_
        refine z_iload dX7_orient_58 rfl rfl ?_
        refine z_callVi (c_X7_isFlat G ex _ (nI 0) tps pts lns wds brs ors stp hasP fld laid told rws cms cmT cmS isN trs lm (X7_maskOf_v a b c) (by omega) rfl h82) gX7_orient_X7_isFlat rfl dX7_orient_60 rfl rfl rfl okk_X7_isFlat (Nat.le_of_ble_eq_true rfl) rfl rfl ⟨Nat.le_of_ble_eq_true rfl, Nat.le_of_ble_eq_true rfl⟩ ⟨Nat.le_of_ble_eq_true rfl, Nat.le_of_ble_eq_true rfl⟩ (Nat.le_of_ble_eq_true rfl) ?_
        refine z_if_ne (tgt := 85) dX7_orient_63 rfl (by decide) (fun c63 => ?_) (fun c63 => ?_)
        · refine z_bipush (v := (-2)) dX7_orient_85 rfl (by decide) ?_
          exact z_ireturn dX7_orient_87 rfl rfl (Nat.le_refl _) (Nat.le_refl _) (fun _ => rfl) ⟨by simp only [X7_orient_v, if_neg c12, if_neg c18, if_pos c24, if_neg c63], by simp only [X7_orient_p76_0, X7_orient_p76_6, X7_orient_c87, X7_orient_c88, if_neg c12, if_neg c18, if_pos c24, if_neg c63]⟩
        · refine z_iload dX7_orient_66 rfl rfl ?_
          refine z_bipush (v := (-4)) dX7_orient_68 rfl (by decide) ?_
          refine z_icmp_eq (tgt := 88) dX7_orient_70 rfl (by decide) (fun c70 => ?_) (fun c70 => ?_)
          · refine z_iload dX7_orient_88 rfl rfl ?_
            refine z_bipush (v := (-4)) dX7_orient_90 rfl (by decide) ?_
            refine z_icmp_ne (tgt := 139) dX7_orient_92 rfl (by decide) (fun c92 => ?_) (fun c92 => ?_)
            · exact absurd c70 c92
            · refine z_aload_n dX7_orient_95 rfl rfl ?_
              refine z_get dX7_orient_96 rfl hiX7_orient_X7 16 lkX7_orient_152 (Nat.le_of_ble_eq_true rfl) rfl rfl (by decide) rfl ?_
              refine z_bipush (v := nI 20) dX7_orient_99 rfl (by decide) ?_
              refine z_icmp_ne (tgt := 107) dX7_orient_101 rfl (by decide) (fun c101 => ?_) (fun c101 => ?_)
              · refine z_aload_n dX7_orient_107 rfl rfl ?_
                refine z_get dX7_orient_108 rfl hiX7_orient_X7 17 lkX7_orient_40 (Nat.le_of_ble_eq_true rfl) rfl rfl (by decide) rfl ?_
                refine z_aload_n dX7_orient_111 rfl rfl ?_
                refine z_get dX7_orient_112 rfl hiX7_orient_X7 16 lkX7_orient_152 (Nat.le_of_ble_eq_true rfl) rfl rfl (by decide) rfl ?_
                refine z_iload dX7_orient_115 rfl rfl ?_
                refine z_iastN (j := ors) dX7_orient_117 rfl (Nat.le_of_ble_eq_true rfl) rfl (rfl) (znlt ho c101) (by decide) ?_
                refine z_n (L' := [(76, (oMod G (nI 0) (nI tps) (nI pts) (nI lns) (nI wds) (nI brs) (nI ors) stp hasP fld laid told (nI rws) cms (nI cmT) cmS isN (nI trs))), (87, (zI G 20 (upd om ors (X7_maskOf_v a b c)))), (88, (zI G 20 os))]) rfl ?_
                refine z_aload_n dX7_orient_118 rfl rfl ?_
                refine z_get dX7_orient_119 rfl hiX7_orient_X7 18 lkX7_orient_43 (Nat.le_of_ble_eq_true rfl) rfl rfl (by decide) rfl ?_
                refine z_aload_n dX7_orient_122 rfl rfl ?_
                refine z_get dX7_orient_123 rfl hiX7_orient_X7 16 lkX7_orient_152 (Nat.le_of_ble_eq_true rfl) rfl rfl (by decide) rfl ?_
                refine z_iload dX7_orient_126 rfl rfl ?_
                refine z_iastN (j := ors) dX7_orient_128 rfl (Nat.le_of_ble_eq_true rfl) rfl (rfl) (znlt ho c101) (by decide) ?_
                refine z_n (L' := [(76, (oMod G (nI 0) (nI tps) (nI pts) (nI lns) (nI wds) (nI brs) (nI ors) stp hasP fld laid told (nI rws) cms (nI cmT) cmS isN (nI trs))), (87, (zI G 20 (upd om ors (X7_maskOf_v a b c)))), (88, (zI G 20 (upd os ors (sg * (X7_turnOf_v a b c)))))]) rfl ?_
                refine z_aload_n dX7_orient_129 rfl rfl ?_
                refine z_dup dX7_orient_130 rfl rfl ?_
                refine z_get dX7_orient_131 rfl hiX7_orient_X7 16 lkX7_orient_152 (Nat.le_of_ble_eq_true rfl) rfl rfl (by decide) rfl ?_
                refine z_iconst (v := nI 1) dX7_orient_134 rfl (by decide) ?_
                refine z_iadd dX7_orient_135 rfl ?_
                refine z_top (show (nI ors) + (nI 1) = nI (ors + 1) from (zq_add rfl rfl)) ?_
                refine z_putN (e9 := (oMod G (nI 0) (nI tps) (nI pts) (nI lns) (nI wds) (nI brs) (nI (ors + 1)) stp hasP fld laid told (nI rws) cms (nI cmT) cmS isN (nI trs))) tyX7 tyX7_ok nmX7 dX7_orient_136 rfl hiX7_orient_X7 16 lkX7_orient_152 rfl (by decide +kernel) (Nat.le_of_ble_eq_true rfl) rfl rfl (by decide) (Nat.le_of_ble_eq_true rfl) rfl rfl rfl ?_
                refine z_n (L' := [(76, (oMod G (nI 0) (nI tps) (nI pts) (nI lns) (nI wds) (nI brs) (nI (ors + 1)) stp hasP fld laid told (nI rws) cms (nI cmT) cmS isN (nI trs))), (87, (zI G 20 (upd om ors (X7_maskOf_v a b c)))), (88, (zI G 20 (upd os ors (sg * (X7_turnOf_v a b c)))))]) rfl ?_
                refine z_aload_n dX7_orient_139 rfl rfl ?_
                refine z_get dX7_orient_140 rfl hiX7_orient_X7 16 lkX7_orient_152 (Nat.le_of_ble_eq_true rfl) rfl rfl (by decide) rfl ?_
                exact z_ireturn dX7_orient_143 rfl rfl (Nat.le_refl _) (Nat.le_refl _) (fun _ => rfl) ⟨by simp only [X7_orient_v, if_neg c12, if_neg c18, if_pos c24, if_pos c63, if_pos c70, if_neg c101], by simp only [X7_orient_p76_0, X7_orient_p76_6, X7_orient_c87, X7_orient_c88, if_neg c12, if_neg c18, if_pos c24, if_pos c63, if_pos c70, if_neg c101]⟩
              · refine z_bipush (v := (-3)) dX7_orient_104 rfl (by decide) ?_
                exact z_ireturn dX7_orient_106 rfl rfl (Nat.le_refl _) (Nat.le_refl _) (fun _ => rfl) ⟨by simp only [X7_orient_v, if_neg c12, if_neg c18, if_pos c24, if_pos c63, if_pos c70, if_pos c101], by simp only [X7_orient_p76_0, X7_orient_p76_6, X7_orient_c87, X7_orient_c88, if_neg c12, if_neg c18, if_pos c24, if_pos c63, if_pos c70, if_pos c101]⟩
          · refine z_aload_n dX7_orient_73 rfl rfl ?_
            refine z_get dX7_orient_74 rfl hiX7_orient_X7 18 lkX7_orient_43 (Nat.le_of_ble_eq_true rfl) rfl rfl (by decide) rfl ?_
            refine z_iload dX7_orient_77 rfl rfl ?_
            refine z_iald dX7_orient_79 rfl (Nat.le_of_ble_eq_true rfl) rfl (vp_in_mono ((orientAt_in ho).resolve_left c70) ho) ?_
            refine z_iload dX7_orient_80 rfl rfl ?_
            refine z_icmp_eq (tgt := 88) dX7_orient_82 rfl (by decide) (fun c82 => ?_) (fun c82 => ?_)
            · refine z_iload dX7_orient_88 rfl rfl ?_
              refine z_bipush (v := (-4)) dX7_orient_90 rfl (by decide) ?_
              refine z_icmp_ne (tgt := 139) dX7_orient_92 rfl (by decide) (fun c92 => ?_) (fun c92 => ?_)
              · refine z_aload_n dX7_orient_139 rfl rfl ?_
                refine z_get dX7_orient_140 rfl hiX7_orient_X7 16 lkX7_orient_152 (Nat.le_of_ble_eq_true rfl) rfl rfl (by decide) rfl ?_
                exact z_ireturn dX7_orient_143 rfl rfl (Nat.le_refl _) (Nat.le_refl _) (fun _ => rfl) ⟨by simp only [X7_orient_v, if_neg c12, if_neg c18, if_pos c24, if_pos c63, if_neg c70, if_pos c82], by simp only [X7_orient_p76_0, X7_orient_p76_6, X7_orient_c87, X7_orient_c88, if_neg c12, if_neg c18, if_pos c24, if_pos c63, if_neg c70, if_pos c82]⟩
              · exact absurd c92 c70
            · refine z_bipush (v := (-2)) dX7_orient_85 rfl (by decide) ?_
              exact z_ireturn dX7_orient_87 rfl rfl (Nat.le_refl _) (Nat.le_refl _) (fun _ => rfl) ⟨by simp only [X7_orient_v, if_neg c12, if_neg c18, if_pos c24, if_pos c63, if_neg c70, if_neg c82], by simp only [X7_orient_p76_0, X7_orient_p76_6, X7_orient_c87, X7_orient_c88, if_neg c12, if_neg c18, if_pos c24, if_pos c63, if_neg c70, if_neg c82]⟩
      · refine z_bipush (v := (-9)) dX7_orient_27 rfl (by decide) ?_
        exact z_ireturn dX7_orient_29 rfl rfl (Nat.le_refl _) (Nat.le_refl _) (fun _ => rfl) ⟨by simp only [X7_orient_v, if_neg c12, if_neg c18, if_neg c24], by simp only [X7_orient_p76_0, X7_orient_p76_6, X7_orient_c87, X7_orient_c88, if_neg c12, if_neg c18, if_neg c24]⟩
abbrev mX7_isPrime : zM := (cX7_isPrime, 1, (some .boolean), RX7, wsX7_isPrime, "isPrime")
def X7_isPrime_v (p : Int32) : Int32 := if p = (nI 2) then (nI 1) else (if p = (nI 3) then (nI 1) else (if p = (nI 5) then (nI 1) else (if p = (nI 7) then (nI 1) else (if p = (nI 11) then (nI 1) else (if p = (nI 13) then (nI 1) else (nI 0))))))
set_option maxRecDepth 100000 in
set_option maxHeartbeats 4000000 in
theorem c_X7_isPrime (G : zG) (ex : Bool) (g : Nat → va_E) (p : Int32)   : zC G yX7_isPrime wsX7_isPrime (zrm 0 0) ex [.int p] (zN, g) (fun r h => r = some (.int (X7_isPrime_v p)) ∧ h = (zN, g)) := by
  refine zC_of mX7_isPrime (lv := [some (.int p)]) rfl rfl (by decide) (by intro v hv; simp at hv; subst hv; rfl) (Nat.le_of_ble_eq_true rfl) rfl ?_
  refine z_0 ?_
  refine z_iload_n dX7_isPrime_0 rfl rfl ?_
  refine z_iconst (v := nI 2) dX7_isPrime_1 rfl (by decide) ?_
  refine z_icmp_eq (tgt := 33) dX7_isPrime_2 rfl (by decide) (fun c2 => ?_) (fun c2 => ?_)
  · refine z_iconst (v := nI 1) dX7_isPrime_33 rfl (by decide) ?_
    refine z_goto (tgt := 38) dX7_isPrime_34 (by decide) ?_
    exact z_ireturn dX7_isPrime_38 rfl rfl (Nat.le_refl _) (Nat.le_refl _) (fun _ => rfl) ⟨by simp only [X7_isPrime_v, if_pos c2], rfl⟩
  · refine z_iload_n dX7_isPrime_5 rfl rfl ?_
    refine z_iconst (v := nI 3) dX7_isPrime_6 rfl (by decide) ?_
    refine z_icmp_eq (tgt := 33) dX7_isPrime_7 rfl (by decide) (fun c7 => ?_) (fun c7 => ?_)
    · refine z_iconst (v := nI 1) dX7_isPrime_33 rfl (by decide) ?_
      refine z_goto (tgt := 38) dX7_isPrime_34 (by decide) ?_
      exact z_ireturn dX7_isPrime_38 rfl rfl (Nat.le_refl _) (Nat.le_refl _) (fun _ => rfl) ⟨by simp only [X7_isPrime_v, if_neg c2, if_pos c7], rfl⟩
    · refine z_iload_n dX7_isPrime_10 rfl rfl ?_
      refine z_iconst (v := nI 5) dX7_isPrime_11 rfl (by decide) ?_
      refine z_icmp_eq (tgt := 33) dX7_isPrime_12 rfl (by decide) (fun c12 => ?_) (fun c12 => ?_)
      · refine z_iconst (v := nI 1) dX7_isPrime_33 rfl (by decide) ?_
        refine z_goto (tgt := 38) dX7_isPrime_34 (by decide) ?_
        exact z_ireturn dX7_isPrime_38 rfl rfl (Nat.le_refl _) (Nat.le_refl _) (fun _ => rfl) ⟨by simp only [X7_isPrime_v, if_neg c2, if_neg c7, if_pos c12], rfl⟩
      · refine z_iload_n dX7_isPrime_15 rfl rfl ?_
        refine z_bipush (v := nI 7) dX7_isPrime_16 rfl (by decide) ?_
        refine z_icmp_eq (tgt := 33) dX7_isPrime_18 rfl (by decide) (fun c18 => ?_) (fun c18 => ?_)
        · refine z_iconst (v := nI 1) dX7_isPrime_33 rfl (by decide) ?_
          refine z_goto (tgt := 38) dX7_isPrime_34 (by decide) ?_
          exact z_ireturn dX7_isPrime_38 rfl rfl (Nat.le_refl _) (Nat.le_refl _) (fun _ => rfl) ⟨by simp only [X7_isPrime_v, if_neg c2, if_neg c7, if_neg c12, if_pos c18], rfl⟩
        · refine z_iload_n dX7_isPrime_21 rfl rfl ?_
          refine z_bipush (v := nI 11) dX7_isPrime_22 rfl (by decide) ?_
          refine z_icmp_eq (tgt := 33) dX7_isPrime_24 rfl (by decide) (fun c24 => ?_) (fun c24 => ?_)
          · refine z_iconst (v := nI 1) dX7_isPrime_33 rfl (by decide) ?_
            refine z_goto (tgt := 38) dX7_isPrime_34 (by decide) ?_
            exact z_ireturn dX7_isPrime_38 rfl rfl (Nat.le_refl _) (Nat.le_refl _) (fun _ => rfl) ⟨by simp only [X7_isPrime_v, if_neg c2, if_neg c7, if_neg c12, if_neg c18, if_pos c24], rfl⟩
          · refine z_iload_n dX7_isPrime_27 rfl rfl ?_
            refine z_bipush (v := nI 13) dX7_isPrime_28 rfl (by decide) ?_
            refine z_icmp_ne (tgt := 37) dX7_isPrime_30 rfl (by decide) (fun c30 => ?_) (fun c30 => ?_)
            · refine z_iconst (v := nI 0) dX7_isPrime_37 rfl (by decide) ?_
              exact z_ireturn dX7_isPrime_38 rfl rfl (Nat.le_refl _) (Nat.le_refl _) (fun _ => rfl) ⟨by simp only [X7_isPrime_v, if_neg c2, if_neg c7, if_neg c12, if_neg c18, if_neg c24, if_neg c30], rfl⟩
            · refine z_iconst (v := nI 1) dX7_isPrime_33 rfl (by decide) ?_
              refine z_goto (tgt := 38) dX7_isPrime_34 (by decide) ?_
              exact z_ireturn dX7_isPrime_38 rfl rfl (Nat.le_refl _) (Nat.le_refl _) (fun _ => rfl) ⟨by simp only [X7_isPrime_v, if_neg c2, if_neg c7, if_neg c12, if_neg c18, if_neg c24, if_pos c30], rfl⟩
abbrev mX7_part : zM := (cX7_part, 3, (some .int), RX7, wsX7_part, "part")
def X7_part_v (f pl i : Int32) : Int32 := if f = 0 then (if i = 0 then (nI 1) else (if i = (nI 1) then (pl / (nI 5)) else (pl - pl / (nI 5) * (nI 5)))) else (if pl = 0 then (if i = (nI 2) then (nI 1) else (nI 0)) else (if f < pl then (if i = 0 then (nI 1) else (if i = (nI 1) then (((pl - f) - (nI 1)) / f) else (((pl - f) - (nI 1)) - ((pl - f) - (nI 1)) / f * f))) else (if i = 0 then (nI 0) else (if i = (nI 1) then (nI 1) else (pl - (nI 1))))))
set_option maxRecDepth 100000 in
set_option maxHeartbeats 4000000 in
theorem c_X7_part (G : zG) (ex : Bool) (g : Nat → va_E) (f pl i : Int32)   : zC G yX7_part wsX7_part (zrm 0 0) ex [.int f, .int pl, .int i] (zN, g) (fun r h => r = some (.int (X7_part_v f pl i)) ∧ h = (zN, g)) := by
  refine zC_of mX7_part (lv := [some (.int f), some (.int pl), some (.int i)]) rfl rfl (by decide) (by intro v hv; simp at hv; rcases hv with rfl | rfl | rfl <;> rfl) (Nat.le_of_ble_eq_true rfl) rfl ?_
  refine z_0 ?_
  refine z_iload_n dX7_part_0 rfl rfl ?_
  refine z_if_ne (tgt := 27) dX7_part_1 rfl (by decide) (fun c1 => ?_) (fun c1 => ?_)
  · refine z_iload_n dX7_part_27 rfl rfl ?_
    refine z_if_ne (tgt := 42) dX7_part_28 rfl (by decide) (fun c28 => ?_) (fun c28 => ?_)
    · refine z_iload_n dX7_part_42 rfl rfl ?_
      refine z_iload_n dX7_part_43 rfl rfl ?_
      refine z_icmp_gt (tgt := 68) dX7_part_44 rfl (by decide) (fun c44 => ?_) (fun c44 => ?_)
      · refine z_iload_n dX7_part_68 rfl rfl ?_
        refine z_if_ne (tgt := 76) dX7_part_69 rfl (by decide) (fun c69 => ?_) (fun c69 => ?_)
        · refine z_iload_n dX7_part_76 rfl rfl ?_
          refine z_iconst (v := nI 1) dX7_part_77 rfl (by decide) ?_
          refine z_icmp_ne (tgt := 91) dX7_part_78 rfl (by decide) (fun c78 => ?_) (fun c78 => ?_)
          · refine z_iload_n dX7_part_91 rfl rfl ?_
            refine z_iload_n dX7_part_92 rfl rfl ?_
            refine z_isub dX7_part_93 rfl ?_
            refine z_iconst (v := nI 1) dX7_part_94 rfl (by decide) ?_
            refine z_isub dX7_part_95 rfl ?_
            refine z_iload_n dX7_part_96 rfl rfl ?_
            refine z_irem dX7_part_97 rfl (by assumption) ?_
            exact z_ireturn dX7_part_98 rfl rfl (Nat.le_refl _) (Nat.le_refl _) (fun _ => rfl) ⟨by simp only [X7_part_v, if_neg c1, if_neg c28, if_pos c44, if_neg c69, if_neg c78], rfl⟩
          · refine z_iload_n dX7_part_81 rfl rfl ?_
            refine z_iload_n dX7_part_82 rfl rfl ?_
            refine z_isub dX7_part_83 rfl ?_
            refine z_iconst (v := nI 1) dX7_part_84 rfl (by decide) ?_
            refine z_isub dX7_part_85 rfl ?_
            refine z_iload_n dX7_part_86 rfl rfl ?_
            refine z_idiv dX7_part_87 rfl (by assumption) ?_
            refine z_goto (tgt := 98) dX7_part_88 (by decide) ?_
            exact z_ireturn dX7_part_98 rfl rfl (Nat.le_refl _) (Nat.le_refl _) (fun _ => rfl) ⟨by simp only [X7_part_v, if_neg c1, if_neg c28, if_pos c44, if_neg c69, if_pos c78], rfl⟩
        · refine z_iconst (v := nI 1) dX7_part_72 rfl (by decide) ?_
          refine z_goto (tgt := 98) dX7_part_73 (by decide) ?_
          exact z_ireturn dX7_part_98 rfl rfl (Nat.le_refl _) (Nat.le_refl _) (fun _ => rfl) ⟨by simp only [X7_part_v, if_neg c1, if_neg c28, if_pos c44, if_pos c69], rfl⟩
      · refine z_iload_n dX7_part_47 rfl rfl ?_
        refine z_if_ne (tgt := 55) dX7_part_48 rfl (by decide) (fun c48 => ?_) (fun c48 => ?_)
        · refine z_iload_n dX7_part_55 rfl rfl ?_
          refine z_iconst (v := nI 1) dX7_part_56 rfl (by decide) ?_
          refine z_icmp_ne (tgt := 64) dX7_part_57 rfl (by decide) (fun c57 => ?_) (fun c57 => ?_)
          · refine z_iload_n dX7_part_64 rfl rfl ?_
            refine z_iconst (v := nI 1) dX7_part_65 rfl (by decide) ?_
            refine z_isub dX7_part_66 rfl ?_
            exact z_ireturn dX7_part_67 rfl rfl (Nat.le_refl _) (Nat.le_refl _) (fun _ => rfl) ⟨by simp only [X7_part_v, if_neg c1, if_neg c28, if_neg c44, if_neg c48, if_neg c57], rfl⟩
          · refine z_iconst (v := nI 1) dX7_part_60 rfl (by decide) ?_
            refine z_goto (tgt := 67) dX7_part_61 (by decide) ?_
            exact z_ireturn dX7_part_67 rfl rfl (Nat.le_refl _) (Nat.le_refl _) (fun _ => rfl) ⟨by simp only [X7_part_v, if_neg c1, if_neg c28, if_neg c44, if_neg c48, if_pos c57], rfl⟩
        · refine z_iconst (v := nI 0) dX7_part_51 rfl (by decide) ?_
          refine z_goto (tgt := 67) dX7_part_52 (by decide) ?_
          exact z_ireturn dX7_part_67 rfl rfl (Nat.le_refl _) (Nat.le_refl _) (fun _ => rfl) ⟨by simp only [X7_part_v, if_neg c1, if_neg c28, if_neg c44, if_pos c48], rfl⟩
    · refine z_iload_n dX7_part_31 rfl rfl ?_
      refine z_iconst (v := nI 2) dX7_part_32 rfl (by decide) ?_
      refine z_icmp_ne (tgt := 40) dX7_part_33 rfl (by decide) (fun c33 => ?_) (fun c33 => ?_)
      · refine z_iconst (v := nI 0) dX7_part_40 rfl (by decide) ?_
        exact z_ireturn dX7_part_41 rfl rfl (Nat.le_refl _) (Nat.le_refl _) (fun _ => rfl) ⟨by simp only [X7_part_v, if_neg c1, if_pos c28, if_neg c33], rfl⟩
      · refine z_iconst (v := nI 1) dX7_part_36 rfl (by decide) ?_
        refine z_goto (tgt := 41) dX7_part_37 (by decide) ?_
        exact z_ireturn dX7_part_41 rfl rfl (Nat.le_refl _) (Nat.le_refl _) (fun _ => rfl) ⟨by simp only [X7_part_v, if_neg c1, if_pos c28, if_pos c33], rfl⟩
  · refine z_iload_n dX7_part_4 rfl rfl ?_
    refine z_if_ne (tgt := 12) dX7_part_5 rfl (by decide) (fun c5 => ?_) (fun c5 => ?_)
    · refine z_iload_n dX7_part_12 rfl rfl ?_
      refine z_iconst (v := nI 1) dX7_part_13 rfl (by decide) ?_
      refine z_icmp_ne (tgt := 23) dX7_part_14 rfl (by decide) (fun c14 => ?_) (fun c14 => ?_)
      · refine z_iload_n dX7_part_23 rfl rfl ?_
        refine z_iconst (v := nI 5) dX7_part_24 rfl (by decide) ?_
        refine z_irem dX7_part_25 rfl (by decide) ?_
        exact z_ireturn dX7_part_26 rfl rfl (Nat.le_refl _) (Nat.le_refl _) (fun _ => rfl) ⟨by simp only [X7_part_v, if_pos c1, if_neg c5, if_neg c14], rfl⟩
      · refine z_iload_n dX7_part_17 rfl rfl ?_
        refine z_iconst (v := nI 5) dX7_part_18 rfl (by decide) ?_
        refine z_idiv dX7_part_19 rfl (by decide) ?_
        refine z_goto (tgt := 26) dX7_part_20 (by decide) ?_
        exact z_ireturn dX7_part_26 rfl rfl (Nat.le_refl _) (Nat.le_refl _) (fun _ => rfl) ⟨by simp only [X7_part_v, if_pos c1, if_neg c5, if_pos c14], rfl⟩
    · refine z_iconst (v := nI 1) dX7_part_8 rfl (by decide) ?_
      refine z_goto (tgt := 26) dX7_part_9 (by decide) ?_
      exact z_ireturn dX7_part_26 rfl rfl (Nat.le_refl _) (Nat.le_refl _) (fun _ => rfl) ⟨by simp only [X7_part_v, if_pos c1, if_pos c5], rfl⟩
abbrev mX7_placesOf : zM := (cX7_placesOf, 1, (some .int), RX7, wsX7_placesOf, "placesOf")
def X7_placesOf_n (fd : Nat) : Nat := if (nI fd) = 0 then 25 else (((fd * fd) + fd) + 1)
set_option maxRecDepth 100000 in
set_option maxHeartbeats 4000000 in
theorem c_X7_placesOf (G : zG) (ex : Bool) (g : Nat → va_E) (fd : Nat)   : zC G yX7_placesOf wsX7_placesOf (zrm 0 0) ex [.int (nI fd)] (zN, g) (fun r h => r = some (.int (nI (X7_placesOf_n fd))) ∧ h = (zN, g)) := by
  refine zC_of mX7_placesOf (lv := [some (.int (nI fd))]) rfl rfl (by decide) (by intro v hv; simp at hv; subst hv; rfl) (Nat.le_of_ble_eq_true rfl) rfl ?_
  refine z_0 ?_
  refine z_iload_n dX7_placesOf_0 rfl rfl ?_
  refine z_if_ne (tgt := 9) dX7_placesOf_1 rfl (by decide) (fun c1 => ?_) (fun c1 => ?_)
  · refine z_iload_n dX7_placesOf_9 rfl rfl ?_
    refine z_iload_n dX7_placesOf_10 rfl rfl ?_
    refine z_imul dX7_placesOf_11 rfl ?_
    refine z_iload_n dX7_placesOf_12 rfl rfl ?_
    refine z_iadd dX7_placesOf_13 rfl ?_
    refine z_iconst (v := nI 1) dX7_placesOf_14 rfl (by decide) ?_
    refine z_iadd dX7_placesOf_15 rfl ?_
    refine z_top (show (((nI fd) * (nI fd)) + (nI fd)) + (nI 1) = nI (((fd * fd) + fd) + 1) from (zq_add (zq_add (zq_mul rfl rfl) rfl) rfl)) ?_
    exact z_ireturn dX7_placesOf_16 rfl rfl (Nat.le_refl _) (Nat.le_refl _) (fun _ => rfl) ⟨by simp only [X7_placesOf_n, if_neg c1], rfl⟩
  · refine z_bipush (v := nI 25) dX7_placesOf_4 rfl (by decide) ?_
    refine z_goto (tgt := 16) dX7_placesOf_6 (by decide) ?_
    exact z_ireturn dX7_placesOf_16 rfl rfl (Nat.le_refl _) (Nat.le_refl _) (fun _ => rfl) ⟨by simp only [X7_placesOf_n, if_pos c1], rfl⟩
abbrev mX7_layField : zM := (cX7_layField, 3, none, RX7, wsX7_layField, "layField")
theorem okk_X7_placesOf : zOk yX7_placesOf 1 := by unfold zOk; decide +kernel
theorem hiX7_layField_X7 : ∀ w ∈ wsX70, w ∈ wsX7_layField := fun w h => List.mem_cons_of_mem _ (List.mem_append_right _ h)
theorem lkX7_layField_55 : Cond.fieldLink RX7 55 "ConfigSearchModel" "laid" "I" ∈ wsX7_layField := by decide +kernel
theorem lkX7_layField_59 : Cond.fieldLink RX7 59 "ConfigSearchModel" "first" "[I" ∈ wsX7_layField := by decide +kernel
theorem okk_X7_part : zOk yX7_part 3 := by unfold zOk; decide +kernel
theorem lkX7_layField_62 : Cond.fieldLink RX7 62 "ConfigSearchModel" "second" "[I" ∈ wsX7_layField := by decide +kernel
theorem lkX7_layField_65 : Cond.fieldLink RX7 65 "ConfigSearchModel" "third" "[I" ∈ wsX7_layField := by decide +kernel
def X7_layField_L2_F (laid : Int32) (fd : Nat) (k : Nat) (a9 : (Nat → Int32) × (Nat → Int32) × (Nat → Int32)) : (Nat → Int32) × (Nat → Int32) × (Nat → Int32) := if (nI fd) = laid then (a9.1, a9.2.1, a9.2.2) else (upd a9.1 k (X7_part_v (nI fd) (nI k) (nI 0)), upd a9.2.1 k (X7_part_v (nI fd) (nI k) (nI 1)), upd a9.2.2 k (X7_part_v (nI fd) (nI k) (nI 2)))
def X7_layField_L2_B (laid : Int32) (fd : Nat) (k : Nat) (a9 : (Nat → Int32) × (Nat → Int32) × (Nat → Int32)) : Option ((Nat → Int32) × (Nat → Int32) × (Nat → Int32)) := if (nI fd) = laid then (some (a9.1, a9.2.1, a9.2.2)) else none
def X7_layField_p76_10 (fd : Nat) : Nat := fd
def X7_layField_c92 (laid : Int32) (fs sc th : Nat → Int32) (fd : Nat) : Nat → Int32 := ((zfoldX (X7_layField_L2_B laid fd) (X7_layField_L2_F laid fd) (X7_placesOf_n fd) 0 (fs, sc, th)).2).1
def X7_layField_c93 (laid : Int32) (fs sc th : Nat → Int32) (fd : Nat) : Nat → Int32 := ((zfoldX (X7_layField_L2_B laid fd) (X7_layField_L2_F laid fd) (X7_placesOf_n fd) 0 (fs, sc, th)).2).2.1
def X7_layField_c94 (laid : Int32) (fs sc th : Nat → Int32) (fd : Nat) : Nat → Int32 := ((zfoldX (X7_layField_L2_B laid fd) (X7_layField_L2_F laid fd) (X7_placesOf_n fd) 0 (fs, sc, th)).2).2.2
set_option maxRecDepth 100000 in
set_option maxHeartbeats 4000000 in
theorem c_X7_layField (G : zG) (ex : Bool) (g : Nat → va_E) (code : Int32) (tps pts lns wds brs ors : Nat) (stp hasP fld laid told : Int32) (rws : Nat) (cms : Int32) (cmT : Nat) (cmS isN : Int32) (trs : Nat) (fs sc th : Nat → Int32) (fd : Nat) (hf : X7_placesOf_n fd ≤ 183) (h76 : g 76 = (oMod G code (nI tps) (nI pts) (nI lns) (nI wds) (nI brs) (nI ors) stp hasP fld laid told (nI rws) cms (nI cmT) cmS isN (nI trs))) (h92 : g 92 = (zI G 183 fs)) (h93 : g 93 = (zI G 183 sc)) (h94 : g 94 = (zI G 183 th)) : zC G yX7_layField wsX7_layField (zrm 1 22) ex [.ref (zB G + 76), .int (nI fd)] (zN, g) (fun r h => r = none ∧ h = (zN, zus g [(76, (oMod G code (nI tps) (nI pts) (nI lns) (nI wds) (nI brs) (nI ors) stp hasP fld (nI (X7_layField_p76_10 fd)) told (nI rws) cms (nI cmT) cmS isN (nI trs))), (92, zI G 183 (X7_layField_c92 laid fs sc th fd)), (93, zI G 183 (X7_layField_c93 laid fs sc th fd)), (94, zI G 183 (X7_layField_c94 laid fs sc th fd))])) := by
  refine zC_of mX7_layField (lv := [some (.ref (zB G + 76)), some (.int (nI fd)), none]) rfl rfl (by decide) (by intro v hv; simp at hv; rcases hv with rfl | rfl <;> rfl) (Nat.le_of_ble_eq_true rfl) rfl ?_
  refine z_0 ?_
  refine z_heap (g' := zu (zus g []) 76 (oMod G code (nI tps) (nI pts) (nI lns) (nI wds) (nI brs) (nI ors) stp hasP fld laid told (nI rws) cms (nI cmT) cmS isN (nI trs))) (zu_self (zus g []) 76 _ h76).symm ?_
  refine z_n (L' := [(76, (oMod G code (nI tps) (nI pts) (nI lns) (nI wds) (nI brs) (nI ors) stp hasP fld laid told (nI rws) cms (nI cmT) cmS isN (nI trs)))]) rfl ?_
  refine z_heap (g' := zu (zus g [(76, (oMod G code (nI tps) (nI pts) (nI lns) (nI wds) (nI brs) (nI ors) stp hasP fld laid told (nI rws) cms (nI cmT) cmS isN (nI trs)))]) 92 (zI G 183 fs)) (zu_self (zus g [(76, (oMod G code (nI tps) (nI pts) (nI lns) (nI wds) (nI brs) (nI ors) stp hasP fld laid told (nI rws) cms (nI cmT) cmS isN (nI trs)))]) 92 _ h92).symm ?_
  refine z_n (L' := [(76, (oMod G code (nI tps) (nI pts) (nI lns) (nI wds) (nI brs) (nI ors) stp hasP fld laid told (nI rws) cms (nI cmT) cmS isN (nI trs))), (92, (zI G 183 fs))]) rfl ?_
  refine z_heap (g' := zu (zus g [(76, (oMod G code (nI tps) (nI pts) (nI lns) (nI wds) (nI brs) (nI ors) stp hasP fld laid told (nI rws) cms (nI cmT) cmS isN (nI trs))), (92, (zI G 183 fs))]) 93 (zI G 183 sc)) (zu_self (zus g [(76, (oMod G code (nI tps) (nI pts) (nI lns) (nI wds) (nI brs) (nI ors) stp hasP fld laid told (nI rws) cms (nI cmT) cmS isN (nI trs))), (92, (zI G 183 fs))]) 93 _ h93).symm ?_
  refine z_n (L' := [(76, (oMod G code (nI tps) (nI pts) (nI lns) (nI wds) (nI brs) (nI ors) stp hasP fld laid told (nI rws) cms (nI cmT) cmS isN (nI trs))), (92, (zI G 183 fs)), (93, (zI G 183 sc))]) rfl ?_
  refine z_heap (g' := zu (zus g [(76, (oMod G code (nI tps) (nI pts) (nI lns) (nI wds) (nI brs) (nI ors) stp hasP fld laid told (nI rws) cms (nI cmT) cmS isN (nI trs))), (92, (zI G 183 fs)), (93, (zI G 183 sc))]) 94 (zI G 183 th)) (zu_self (zus g [(76, (oMod G code (nI tps) (nI pts) (nI lns) (nI wds) (nI brs) (nI ors) stp hasP fld laid told (nI rws) cms (nI cmT) cmS isN (nI trs))), (92, (zI G 183 fs)), (93, (zI G 183 sc))]) 94 _ h94).symm ?_
  refine z_n (L' := [(76, (oMod G code (nI tps) (nI pts) (nI lns) (nI wds) (nI brs) (nI ors) stp hasP fld laid told (nI rws) cms (nI cmT) cmS isN (nI trs))), (92, (zI G 183 fs)), (93, (zI G 183 sc)), (94, (zI G 183 th))]) rfl ?_
  refine z_iconst (v := nI 0) dX7_layField_0 rfl (by decide) ?_
  refine z_istore_2 dX7_layField_1 rfl ?_
  refine z_forX (head := fun k (st9 : (Nat → Int32) × (Nat → Int32) × (Nat → Int32)) => Z G mX7_layField (zrm 1 22) ex _ 2 [some (.ref (zB G + 76)), some (.int (nI fd)), some (.int (nI k))] [] (zN, zus g [(76, (oMod G code (nI tps) (nI pts) (nI lns) (nI wds) (nI brs) (nI ors) stp hasP fld laid told (nI rws) cms (nI cmT) cmS isN (nI trs))), (92, (zI G 183 st9.1)), (93, (zI G 183 st9.2.1)), (94, (zI G 183 st9.2.2))]) 0 0) (out := fun k (st9 : (Nat → Int32) × (Nat → Int32) × (Nat → Int32)) => Z G mX7_layField (zrm 1 22) ex (fun r h => r = none ∧ h = (zN, zus g [(76, (oMod G code (nI tps) (nI pts) (nI lns) (nI wds) (nI brs) (nI ors) stp hasP fld (nI (X7_layField_p76_10 fd)) told (nI rws) cms (nI cmT) cmS isN (nI trs))), (92, zI G 183 (X7_layField_c92 laid fs sc th fd)), (93, zI G 183 (X7_layField_c93 laid fs sc th fd)), (94, zI G 183 (X7_layField_c94 laid fs sc th fd))])) 60 [some (.ref (zB G + 76)), some (.int (nI fd)), some (.int (nI k))] [] (zN, zus g [(76, (oMod G code (nI tps) (nI pts) (nI lns) (nI wds) (nI brs) (nI ors) stp hasP fld laid told (nI rws) cms (nI cmT) cmS isN (nI trs))), (92, (zI G 183 st9.1)), (93, (zI G 183 st9.2.1)), (94, (zI G 183 st9.2.2))]) 0 0) (B := (X7_layField_L2_B laid fd)) (F := (X7_layField_L2_F laid fd)) (n := X7_placesOf_n fd) (fun _ _ => True) (fun _ _ => True) (fun _ _ _ _ _ => trivial) (fun _ _ _ _ _ _ => trivial) (fun _ _ => trivial) ?_ ?_ (X7_placesOf_n fd) 0 (fs, sc, th) (by omega) trivial ?_
  · intro k a9 hi _ Ko K
    obtain ⟨fs1, sc1, th1⟩ := a9
    refine z_iload_n dX7_layField_2 rfl rfl ?_
    refine z_iload_n dX7_layField_3 rfl rfl ?_
    refine z_callSi (c_X7_placesOf G ex _ fd) gX7_layField_X7_placesOf rfl dX7_layField_4 rfl rfl okk_X7_placesOf ⟨Nat.le_of_ble_eq_true rfl, Nat.le_of_ble_eq_true rfl⟩ ⟨Nat.le_of_ble_eq_true rfl, Nat.le_of_ble_eq_true rfl⟩ (Nat.le_of_ble_eq_true rfl) ?_
    refine z_icmp_ge (tgt := 60) dX7_layField_7 rfl (by decide) (fun c7 => ?_) (fun c7 => ?_)
    · exact absurd c7 (nI_ge hi (by omega))
    · refine z_iload_n dX7_layField_10 rfl rfl ?_
      refine z_aload_n dX7_layField_11 rfl rfl ?_
      refine z_get dX7_layField_12 rfl hiX7_layField_X7 25 lkX7_layField_55 (Nat.le_of_ble_eq_true rfl) rfl rfl (by decide) rfl ?_
      refine z_icmp_eq (tgt := 60) dX7_layField_15 rfl (by decide) (fun c15 => ?_) (fun c15 => ?_)
      · exact Ko (fs1, sc1, th1) (by simp only [X7_layField_L2_B, if_pos c15])
      · refine z_aload_n dX7_layField_18 rfl rfl ?_
        refine z_get dX7_layField_19 rfl hiX7_layField_X7 26 lkX7_layField_59 (Nat.le_of_ble_eq_true rfl) rfl rfl (by decide) rfl ?_
        refine z_iload_n dX7_layField_22 rfl rfl ?_
        refine z_iload_n dX7_layField_23 rfl rfl ?_
        refine z_iload_n dX7_layField_24 rfl rfl ?_
        refine z_iconst (v := nI 0) dX7_layField_25 rfl (by decide) ?_
        refine z_callSi (c_X7_part G ex _ (nI fd) (nI k) (nI 0)) gX7_layField_X7_part rfl dX7_layField_26 rfl rfl okk_X7_part ⟨Nat.le_of_ble_eq_true rfl, Nat.le_of_ble_eq_true rfl⟩ ⟨Nat.le_of_ble_eq_true rfl, Nat.le_of_ble_eq_true rfl⟩ (Nat.le_of_ble_eq_true rfl) ?_
        refine z_iastN (j := k) dX7_layField_29 rfl (Nat.le_of_ble_eq_true rfl) rfl (rfl) (by omega) (by decide) ?_
        refine z_n (L' := [(76, (oMod G code (nI tps) (nI pts) (nI lns) (nI wds) (nI brs) (nI ors) stp hasP fld laid told (nI rws) cms (nI cmT) cmS isN (nI trs))), (92, (zI G 183 (upd fs1 k (X7_part_v (nI fd) (nI k) (nI 0))))), (93, (zI G 183 sc1)), (94, (zI G 183 th1))]) rfl ?_
        refine z_aload_n dX7_layField_30 rfl rfl ?_
        refine z_get dX7_layField_31 rfl hiX7_layField_X7 27 lkX7_layField_62 (Nat.le_of_ble_eq_true rfl) rfl rfl (by decide) rfl ?_
        refine z_iload_n dX7_layField_34 rfl rfl ?_
        refine z_iload_n dX7_layField_35 rfl rfl ?_
        refine z_iload_n dX7_layField_36 rfl rfl ?_
        refine z_iconst (v := nI 1) dX7_layField_37 rfl (by decide) ?_
        refine z_callSi (c_X7_part G ex _ (nI fd) (nI k) (nI 1)) gX7_layField_X7_part rfl dX7_layField_38 rfl rfl okk_X7_part ⟨Nat.le_of_ble_eq_true rfl, Nat.le_of_ble_eq_true rfl⟩ ⟨Nat.le_of_ble_eq_true rfl, Nat.le_of_ble_eq_true rfl⟩ (Nat.le_of_ble_eq_true rfl) ?_
        refine z_iastN (j := k) dX7_layField_41 rfl (Nat.le_of_ble_eq_true rfl) rfl (rfl) (by omega) (by decide) ?_
        refine z_n (L' := [(76, (oMod G code (nI tps) (nI pts) (nI lns) (nI wds) (nI brs) (nI ors) stp hasP fld laid told (nI rws) cms (nI cmT) cmS isN (nI trs))), (92, (zI G 183 (upd fs1 k (X7_part_v (nI fd) (nI k) (nI 0))))), (93, (zI G 183 (upd sc1 k (X7_part_v (nI fd) (nI k) (nI 1))))), (94, (zI G 183 th1))]) rfl ?_
        refine z_aload_n dX7_layField_42 rfl rfl ?_
        refine z_get dX7_layField_43 rfl hiX7_layField_X7 28 lkX7_layField_65 (Nat.le_of_ble_eq_true rfl) rfl rfl (by decide) rfl ?_
        refine z_iload_n dX7_layField_46 rfl rfl ?_
        refine z_iload_n dX7_layField_47 rfl rfl ?_
        refine z_iload_n dX7_layField_48 rfl rfl ?_
        refine z_iconst (v := nI 2) dX7_layField_49 rfl (by decide) ?_
        refine z_callSi (c_X7_part G ex _ (nI fd) (nI k) (nI 2)) gX7_layField_X7_part rfl dX7_layField_50 rfl rfl okk_X7_part ⟨Nat.le_of_ble_eq_true rfl, Nat.le_of_ble_eq_true rfl⟩ ⟨Nat.le_of_ble_eq_true rfl, Nat.le_of_ble_eq_true rfl⟩ (Nat.le_of_ble_eq_true rfl) ?_
        refine z_iastN (j := k) dX7_layField_53 rfl (Nat.le_of_ble_eq_true rfl) rfl (rfl) (by omega) (by decide) ?_
        refine z_n (L' := [(76, (oMod G code (nI tps) (nI pts) (nI lns) (nI wds) (nI brs) (nI ors) stp hasP fld laid told (nI rws) cms (nI cmT) cmS isN (nI trs))), (92, (zI G 183 (upd fs1 k (X7_part_v (nI fd) (nI k) (nI 0))))), (93, (zI G 183 (upd sc1 k (X7_part_v (nI fd) (nI k) (nI 1))))), (94, (zI G 183 (upd th1 k (X7_part_v (nI fd) (nI k) (nI 2)))))]) rfl ?_
        refine z_iinc_2 (v := nI (k + 1)) dX7_layField_54 rfl (zinc _) ?_
        refine z_goto (tgt := 2) dX7_layField_57 (by decide) ?_
        have K9 := (K (by simp only [X7_layField_L2_B, if_neg c15]))
        try simp only [X7_layField_L2_F, if_neg c15] at K9
        exact K9
  · intro a9 _ K
    obtain ⟨fs1, sc1, th1⟩ := a9
    refine z_iload_n dX7_layField_2 rfl rfl ?_
    refine z_iload_n dX7_layField_3 rfl rfl ?_
    refine z_callSi (c_X7_placesOf G ex _ fd) gX7_layField_X7_placesOf rfl dX7_layField_4 rfl rfl okk_X7_placesOf ⟨Nat.le_of_ble_eq_true rfl, Nat.le_of_ble_eq_true rfl⟩ ⟨Nat.le_of_ble_eq_true rfl, Nat.le_of_ble_eq_true rfl⟩ (Nat.le_of_ble_eq_true rfl) ?_
    refine z_icmp_ge (tgt := 60) dX7_layField_7 rfl (by decide) (fun c7 => ?_) (fun c7 => ?_)
    · exact K
    · exact absurd (nI_le (Nat.le_refl _) (by omega)) c7
  · intro hJ2 hle2
    refine z_aload_n dX7_layField_60 rfl rfl ?_
    refine z_iload_n dX7_layField_61 rfl rfl ?_
    refine z_putN (e9 := (oMod G code (nI tps) (nI pts) (nI lns) (nI wds) (nI brs) (nI ors) stp hasP fld (nI fd) told (nI rws) cms (nI cmT) cmS isN (nI trs))) tyX7 tyX7_ok nmX7 dX7_layField_62 rfl hiX7_layField_X7 25 lkX7_layField_55 rfl (by decide +kernel) (Nat.le_of_ble_eq_true rfl) rfl rfl (by decide) (Nat.le_of_ble_eq_true rfl) rfl rfl rfl ?_
    refine z_n (L' := [(76, (oMod G code (nI tps) (nI pts) (nI lns) (nI wds) (nI brs) (nI ors) stp hasP fld (nI fd) told (nI rws) cms (nI cmT) cmS isN (nI trs))), (92, (zI G 183 (((zfoldX (X7_layField_L2_B laid fd) (X7_layField_L2_F laid fd) (X7_placesOf_n fd) 0 (fs, sc, th)).2).1))), (93, (zI G 183 (((zfoldX (X7_layField_L2_B laid fd) (X7_layField_L2_F laid fd) (X7_placesOf_n fd) 0 (fs, sc, th)).2).2.1))), (94, (zI G 183 (((zfoldX (X7_layField_L2_B laid fd) (X7_layField_L2_F laid fd) (X7_placesOf_n fd) 0 (fs, sc, th)).2).2.2)))]) rfl ?_
    exact z_return dX7_layField_65 rfl (Nat.le_refl _) (Nat.le_refl _) (fun _ => rfl) ⟨rfl, by simp only [X7_layField_p76_10, X7_layField_c92, X7_layField_c93, X7_layField_c94]⟩
abbrev mX7_valueOf : zM := (cX7_valueOf, 6, (some .int), RX7, wsX7_valueOf, "valueOf")
theorem hiX7_valueOf_X7 : ∀ w ∈ wsX70, w ∈ wsX7_valueOf := fun w h => List.mem_cons_of_mem _ (List.mem_append_right _ h)
theorem lkX7_valueOf_59 : Cond.fieldLink RX7 59 "ConfigSearchModel" "first" "[I" ∈ wsX7_valueOf := by decide +kernel
theorem lkX7_valueOf_62 : Cond.fieldLink RX7 62 "ConfigSearchModel" "second" "[I" ∈ wsX7_valueOf := by decide +kernel
theorem lkX7_valueOf_65 : Cond.fieldLink RX7 65 "ConfigSearchModel" "third" "[I" ∈ wsX7_valueOf := by decide +kernel
def X7_valueOf_v (fs sc th : Nat → Int32) (f : Int32) (u v w : Nat) : Int32 := if f = 0 then ((((fs u) * (((sc v) * (th w)) - ((th v) * (sc w)))) - ((sc u) * (((fs v) * (th w)) - ((th v) * (fs w))))) + ((th u) * (((fs v) * (sc w)) - ((sc v) * (fs w))))) else (((((((fs u) * (((sc v) * (th w)) - ((th v) * (sc w)))) - ((sc u) * (((fs v) * (th w)) - ((th v) * (fs w))))) + ((th u) * (((fs v) * (sc w)) - ((sc v) * (fs w))))) - ((((fs u) * (((sc v) * (th w)) - ((th v) * (sc w)))) - ((sc u) * (((fs v) * (th w)) - ((th v) * (fs w))))) + ((th u) * (((fs v) * (sc w)) - ((sc v) * (fs w))))) / f * f) + f) - ((((((fs u) * (((sc v) * (th w)) - ((th v) * (sc w)))) - ((sc u) * (((fs v) * (th w)) - ((th v) * (fs w))))) + ((th u) * (((fs v) * (sc w)) - ((sc v) * (fs w))))) - ((((fs u) * (((sc v) * (th w)) - ((th v) * (sc w)))) - ((sc u) * (((fs v) * (th w)) - ((th v) * (fs w))))) + ((th u) * (((fs v) * (sc w)) - ((sc v) * (fs w))))) / f * f) + f) / f * f)
set_option maxRecDepth 100000 in
set_option maxHeartbeats 4000000 in
theorem c_X7_valueOf (G : zG) (ex : Bool) (g : Nat → va_E) (code : Int32) (tps pts lns wds brs ors : Nat) (stp hasP fld laid told : Int32) (rws : Nat) (cms : Int32) (cmT : Nat) (cmS isN : Int32) (trs : Nat) (fs sc th : Nat → Int32) (f : Int32) (u v w : Nat) (hu : u < 183) (hv : v < 183) (hw : w < 183) (h76 : g 76 = (oMod G code (nI tps) (nI pts) (nI lns) (nI wds) (nI brs) (nI ors) stp hasP fld laid told (nI rws) cms (nI cmT) cmS isN (nI trs))) (h92 : g 92 = (zI G 183 fs)) (h93 : g 93 = (zI G 183 sc)) (h94 : g 94 = (zI G 183 th)) : zC G yX7_valueOf wsX7_valueOf (zrm 0 0) ex [.ref (zB G + 76), .int f, .int (nI u), .int (nI v), .int (nI w)] (zN, g) (fun r h => r = some (.int (X7_valueOf_v fs sc th f u v w)) ∧ h = (zN, g)) := by
  refine zC_of mX7_valueOf (lv := [some (.ref (zB G + 76)), some (.int f), some (.int (nI u)), some (.int (nI v)), some (.int (nI w)), none]) rfl rfl (by decide) (by intro v hv; simp at hv; rcases hv with rfl | rfl | rfl | rfl | rfl <;> rfl) (Nat.le_of_ble_eq_true rfl) rfl ?_
  refine z_0 ?_
  refine z_aload_n dX7_valueOf_0 rfl rfl ?_
  refine z_get dX7_valueOf_1 rfl hiX7_valueOf_X7 26 lkX7_valueOf_59 (Nat.le_of_ble_eq_true rfl) h76 rfl (by decide) rfl ?_
  refine z_iload_n dX7_valueOf_4 rfl rfl ?_
  refine z_ialdN (j := u) dX7_valueOf_5 rfl (Nat.le_of_ble_eq_true rfl) h92 (rfl) (by omega) (by decide) ?_
  refine z_aload_n dX7_valueOf_6 rfl rfl ?_
  refine z_get dX7_valueOf_7 rfl hiX7_valueOf_X7 27 lkX7_valueOf_62 (Nat.le_of_ble_eq_true rfl) h76 rfl (by decide) rfl ?_
  refine z_iload_n dX7_valueOf_10 rfl rfl ?_
  refine z_ialdN (j := v) dX7_valueOf_11 rfl (Nat.le_of_ble_eq_true rfl) h93 (rfl) (by omega) (by decide) ?_
  refine z_aload_n dX7_valueOf_12 rfl rfl ?_
  refine z_get dX7_valueOf_13 rfl hiX7_valueOf_X7 28 lkX7_valueOf_65 (Nat.le_of_ble_eq_true rfl) h76 rfl (by decide) rfl ?_
  refine z_iload dX7_valueOf_16 rfl rfl ?_
  refine z_ialdN (j := w) dX7_valueOf_18 rfl (Nat.le_of_ble_eq_true rfl) h94 (rfl) (by omega) (by decide) ?_
  refine z_imul dX7_valueOf_19 rfl ?_
  refine z_aload_n dX7_valueOf_20 rfl rfl ?_
  refine z_get dX7_valueOf_21 rfl hiX7_valueOf_X7 28 lkX7_valueOf_65 (Nat.le_of_ble_eq_true rfl) h76 rfl (by decide) rfl ?_
  refine z_iload_n dX7_valueOf_24 rfl rfl ?_
  refine z_ialdN (j := v) dX7_valueOf_25 rfl (Nat.le_of_ble_eq_true rfl) h94 (rfl) (by omega) (by decide) ?_
  refine z_aload_n dX7_valueOf_26 rfl rfl ?_
  refine z_get dX7_valueOf_27 rfl hiX7_valueOf_X7 27 lkX7_valueOf_62 (Nat.le_of_ble_eq_true rfl) h76 rfl (by decide) rfl ?_
  refine z_iload dX7_valueOf_30 rfl rfl ?_
  refine z_ialdN (j := w) dX7_valueOf_32 rfl (Nat.le_of_ble_eq_true rfl) h93 (rfl) (by omega) (by decide) ?_
  refine z_imul dX7_valueOf_33 rfl ?_
  refine z_isub dX7_valueOf_34 rfl ?_
  refine z_imul dX7_valueOf_35 rfl ?_
  refine z_aload_n dX7_valueOf_36 rfl rfl ?_
  refine z_get dX7_valueOf_37 rfl hiX7_valueOf_X7 27 lkX7_valueOf_62 (Nat.le_of_ble_eq_true rfl) h76 rfl (by decide) rfl ?_
  refine z_iload_n dX7_valueOf_40 rfl rfl ?_
  refine z_ialdN (j := u) dX7_valueOf_41 rfl (Nat.le_of_ble_eq_true rfl) h93 (rfl) (by omega) (by decide) ?_
  refine z_aload_n dX7_valueOf_42 rfl rfl ?_
  refine z_get dX7_valueOf_43 rfl hiX7_valueOf_X7 26 lkX7_valueOf_59 (Nat.le_of_ble_eq_true rfl) h76 rfl (by decide) rfl ?_
  refine z_iload_n dX7_valueOf_46 rfl rfl ?_
  refine z_ialdN (j := v) dX7_valueOf_47 rfl (Nat.le_of_ble_eq_true rfl) h92 (rfl) (by omega) (by decide) ?_
  refine z_aload_n dX7_valueOf_48 rfl rfl ?_
  refine z_get dX7_valueOf_49 rfl hiX7_valueOf_X7 28 lkX7_valueOf_65 (Nat.le_of_ble_eq_true rfl) h76 rfl (by decide) rfl ?_
  refine z_iload dX7_valueOf_52 rfl rfl ?_
  refine z_ialdN (j := w) dX7_valueOf_54 rfl (Nat.le_of_ble_eq_true rfl) h94 (rfl) (by omega) (by decide) ?_
  refine z_imul dX7_valueOf_55 rfl ?_
  refine z_aload_n dX7_valueOf_56 rfl rfl ?_
  refine z_get dX7_valueOf_57 rfl hiX7_valueOf_X7 28 lkX7_valueOf_65 (Nat.le_of_ble_eq_true rfl) h76 rfl (by decide) rfl ?_
  refine z_iload_n dX7_valueOf_60 rfl rfl ?_
  refine z_ialdN (j := v) dX7_valueOf_61 rfl (Nat.le_of_ble_eq_true rfl) h94 (rfl) (by omega) (by decide) ?_
  refine z_aload_n dX7_valueOf_62 rfl rfl ?_
  refine z_get dX7_valueOf_63 rfl hiX7_valueOf_X7 26 lkX7_valueOf_59 (Nat.le_of_ble_eq_true rfl) h76 rfl (by decide) rfl ?_
  refine z_iload dX7_valueOf_66 rfl rfl ?_
  refine z_ialdN (j := w) dX7_valueOf_68 rfl (Nat.le_of_ble_eq_true rfl) h92 (rfl) (by omega) (by decide) ?_
  refine z_imul dX7_valueOf_69 rfl ?_
  refine z_isub dX7_valueOf_70 rfl ?_
  refine z_imul dX7_valueOf_71 rfl ?_
  refine z_isub dX7_valueOf_72 rfl ?_
  refine z_aload_n dX7_valueOf_73 rfl rfl ?_
  refine z_get dX7_valueOf_74 rfl hiX7_valueOf_X7 28 lkX7_valueOf_65 (Nat.le_of_ble_eq_true rfl) h76 rfl (by decide) rfl ?_
  refine z_iload_n dX7_valueOf_77 rfl rfl ?_
  refine z_ialdN (j := u) dX7_valueOf_78 rfl (Nat.le_of_ble_eq_true rfl) h94 (rfl) (by omega) (by decide) ?_
  refine z_aload_n dX7_valueOf_79 rfl rfl ?_
  refine z_get dX7_valueOf_80 rfl hiX7_valueOf_X7 26 lkX7_valueOf_59 (Nat.le_of_ble_eq_true rfl) h76 rfl (by decide) rfl ?_
  refine z_iload_n dX7_valueOf_83 rfl rfl ?_
  refine z_ialdN (j := v) dX7_valueOf_84 rfl (Nat.le_of_ble_eq_true rfl) h92 (rfl) (by omega) (by decide) ?_
  refine z_aload_n dX7_valueOf_85 rfl rfl ?_
  refine z_get dX7_valueOf_86 rfl hiX7_valueOf_X7 27 lkX7_valueOf_62 (Nat.le_of_ble_eq_true rfl) h76 rfl (by decide) rfl ?_
  refine z_iload dX7_valueOf_89 rfl rfl ?_
  refine z_ialdN (j := w) dX7_valueOf_91 rfl (Nat.le_of_ble_eq_true rfl) h93 (rfl) (by omega) (by decide) ?_
  refine z_imul dX7_valueOf_92 rfl ?_
  refine z_aload_n dX7_valueOf_93 rfl rfl ?_
  refine z_get dX7_valueOf_94 rfl hiX7_valueOf_X7 27 lkX7_valueOf_62 (Nat.le_of_ble_eq_true rfl) h76 rfl (by decide) rfl ?_
  refine z_iload_n dX7_valueOf_97 rfl rfl ?_
  refine z_ialdN (j := v) dX7_valueOf_98 rfl (Nat.le_of_ble_eq_true rfl) h93 (rfl) (by omega) (by decide) ?_
  refine z_aload_n dX7_valueOf_99 rfl rfl ?_
  refine z_get dX7_valueOf_100 rfl hiX7_valueOf_X7 26 lkX7_valueOf_59 (Nat.le_of_ble_eq_true rfl) h76 rfl (by decide) rfl ?_
  refine z_iload dX7_valueOf_103 rfl rfl ?_
  refine z_ialdN (j := w) dX7_valueOf_105 rfl (Nat.le_of_ble_eq_true rfl) h92 (rfl) (by omega) (by decide) ?_
  refine z_imul dX7_valueOf_106 rfl ?_
  refine z_isub dX7_valueOf_107 rfl ?_
  refine z_imul dX7_valueOf_108 rfl ?_
  refine z_iadd dX7_valueOf_109 rfl ?_
  refine z_istore_5 dX7_valueOf_110 rfl ?_
  refine z_iload_n dX7_valueOf_112 rfl rfl ?_
  refine z_if_ne (tgt := 121) dX7_valueOf_113 rfl (by decide) (fun c113 => ?_) (fun c113 => ?_)
  · refine z_iload dX7_valueOf_121 rfl rfl ?_
    refine z_iload_n dX7_valueOf_123 rfl rfl ?_
    refine z_irem dX7_valueOf_124 rfl (by assumption) ?_
    refine z_iload_n dX7_valueOf_125 rfl rfl ?_
    refine z_iadd dX7_valueOf_126 rfl ?_
    refine z_iload_n dX7_valueOf_127 rfl rfl ?_
    refine z_irem dX7_valueOf_128 rfl (by assumption) ?_
    exact z_ireturn dX7_valueOf_129 rfl rfl (Nat.le_refl _) (Nat.le_refl _) (fun _ => rfl) ⟨by simp only [X7_valueOf_v, if_neg c113], rfl⟩
  · refine z_iload dX7_valueOf_116 rfl rfl ?_
    refine z_goto (tgt := 129) dX7_valueOf_118 (by decide) ?_
    exact z_ireturn dX7_valueOf_129 rfl rfl (Nat.le_refl _) (Nat.le_refl _) (fun _ => rfl) ⟨by simp only [X7_valueOf_v, if_pos c113], rfl⟩
abbrev mX7_isRight : zM := (cX7_isRight, 10, (some .boolean), RX7, wsX7_isRight, "isRight")
theorem hiX7_isRight_X7 : ∀ w ∈ wsX70, w ∈ wsX7_isRight := fun w h => List.mem_cons_of_mem _ (List.mem_append_right _ h)
theorem lkX7_isRight_68 : Cond.fieldLink RX7 68 "ConfigSearchModel" "wants" "[I" ∈ wsX7_isRight := by decide +kernel
theorem okk_X7_valueOf : zOk yX7_valueOf 4 := by unfold zOk; decide +kernel
def X7_isRight_v (fs sc th wn : Nat → Int32) (f : Int32) (a b c u v w : Nat) : Int32 := if (wn (((100 * a) + (10 * b)) + c)) = 0 then (nI 1) else (if (wn (((100 * a) + (10 * b)) + c)) = (nI 1) then (if (X7_valueOf_v fs sc th f u v w) = 0 then (nI 1) else (nI 0)) else (if (wn (((100 * a) + (10 * b)) + c)) = (nI 2) then (if (X7_valueOf_v fs sc th f u v w) = 0 then (nI 0) else (nI 1)) else (if (wn (((100 * a) + (10 * b)) + c)) = (nI 3) then (if (X7_valueOf_v fs sc th f u v w) ≤ 0 then (nI 0) else (nI 1)) else (if 0 ≤ (X7_valueOf_v fs sc th f u v w) then (nI 0) else (nI 1)))))
set_option maxRecDepth 100000 in
set_option maxHeartbeats 4000000 in
theorem c_X7_isRight (G : zG) (ex : Bool) (g : Nat → va_E) (code : Int32) (tps pts lns wds brs ors : Nat) (stp hasP fld laid told : Int32) (rws : Nat) (cms : Int32) (cmT : Nat) (cmS isN : Int32) (trs : Nat) (fs sc th wn : Nat → Int32) (f : Int32) (a b c u v w : Nat) (ha : a < 10) (hb : b < 10) (hc : c < 10) (hu : u < 183) (hv : v < 183) (hw : w < 183) (h76 : g 76 = (oMod G code (nI tps) (nI pts) (nI lns) (nI wds) (nI brs) (nI ors) stp hasP fld laid told (nI rws) cms (nI cmT) cmS isN (nI trs))) (h92 : g 92 = (zI G 183 fs)) (h93 : g 93 = (zI G 183 sc)) (h94 : g 94 = (zI G 183 th)) (h95 : g 95 = (zI G 1000 wn)) : zC G yX7_isRight wsX7_isRight (zrm 1 25) ex [.ref (zB G + 76), .int f, .int (nI a), .int (nI b), .int (nI c), .int (nI u), .int (nI v), .int (nI w)] (zN, g) (fun r h => r = some (.int (X7_isRight_v fs sc th wn f a b c u v w)) ∧ h = (zN, g)) := by
  refine zC_of mX7_isRight (lv := [some (.ref (zB G + 76)), some (.int f), some (.int (nI a)), some (.int (nI b)), some (.int (nI c)), some (.int (nI u)), some (.int (nI v)), some (.int (nI w)), none, none]) rfl rfl (by decide) (by intro v hv; simp at hv; rcases hv with rfl | rfl | rfl | rfl | rfl | rfl | rfl | rfl <;> rfl) (Nat.le_of_ble_eq_true rfl) rfl ?_
  refine z_0 ?_
  refine z_aload_n dX7_isRight_0 rfl rfl ?_
  refine z_get dX7_isRight_1 rfl hiX7_isRight_X7 29 lkX7_isRight_68 (Nat.le_of_ble_eq_true rfl) h76 rfl (by decide) rfl ?_
  refine z_bipush (v := nI 100) dX7_isRight_4 rfl (by decide) ?_
  refine z_iload_n dX7_isRight_6 rfl rfl ?_
  refine z_imul dX7_isRight_7 rfl ?_
  refine z_bipush (v := nI 10) dX7_isRight_8 rfl (by decide) ?_
  refine z_iload_n dX7_isRight_10 rfl rfl ?_
  refine z_imul dX7_isRight_11 rfl ?_
  refine z_iadd dX7_isRight_12 rfl ?_
  refine z_iload dX7_isRight_13 rfl rfl ?_
  refine z_iadd dX7_isRight_15 rfl ?_
  refine z_ialdN (j := ((100 * a) + (10 * b)) + c) dX7_isRight_16 rfl (Nat.le_of_ble_eq_true rfl) h95 ((zq_add (zq_add (zq_mul rfl rfl) (zq_mul rfl rfl)) rfl)) (by omega) (by decide) ?_
  refine z_istore_8 dX7_isRight_17 rfl ?_
  refine z_iload dX7_isRight_19 rfl rfl ?_
  refine z_if_ne (tgt := 26) dX7_isRight_21 rfl (by decide) (fun c21 => ?_) (fun c21 => ?_)
  · refine z_aload_n dX7_isRight_26 rfl rfl ?_
    refine z_iload_n dX7_isRight_27 rfl rfl ?_
    refine z_iload dX7_isRight_28 rfl rfl ?_
    refine z_iload dX7_isRight_30 rfl rfl ?_
    refine z_iload dX7_isRight_32 rfl rfl ?_
    refine z_callVi (c_X7_valueOf G ex _ code tps pts lns wds brs ors stp hasP fld laid told rws cms cmT cmS isN trs fs sc th f u v w (by omega) (by omega) (by omega) h76 h92 h93 h94) gX7_isRight_X7_valueOf rfl dX7_isRight_34 rfl rfl rfl okk_X7_valueOf (Nat.le_of_ble_eq_true rfl) h76 rfl ⟨Nat.le_of_ble_eq_true rfl, Nat.le_of_ble_eq_true rfl⟩ ⟨Nat.le_of_ble_eq_true rfl, Nat.le_of_ble_eq_true rfl⟩ (Nat.le_of_ble_eq_true rfl) ?_
    refine z_istore_9 dX7_isRight_37 rfl ?_
    refine z_iload dX7_isRight_39 rfl rfl ?_
    refine z_iconst (v := nI 1) dX7_isRight_41 rfl (by decide) ?_
    refine z_icmp_ne (tgt := 58) dX7_isRight_42 rfl (by decide) (fun c42 => ?_) (fun c42 => ?_)
    · refine z_iload dX7_isRight_58 rfl rfl ?_
      refine z_iconst (v := nI 2) dX7_isRight_60 rfl (by decide) ?_
      refine z_icmp_ne (tgt := 77) dX7_isRight_61 rfl (by decide) (fun c61 => ?_) (fun c61 => ?_)
      · refine z_iload dX7_isRight_77 rfl rfl ?_
        refine z_iconst (v := nI 3) dX7_isRight_79 rfl (by decide) ?_
        refine z_icmp_ne (tgt := 96) dX7_isRight_80 rfl (by decide) (fun c80 => ?_) (fun c80 => ?_)
        · refine z_iload dX7_isRight_96 rfl rfl ?_
          refine z_if_ge (tgt := 105) dX7_isRight_98 rfl (by decide) (fun c98 => ?_) (fun c98 => ?_)
          · refine z_iconst (v := nI 0) dX7_isRight_105 rfl (by decide) ?_
            exact z_ireturn dX7_isRight_106 rfl rfl (Nat.le_refl _) (Nat.le_refl _) (fun _ => rfl) ⟨by simp only [X7_isRight_v, if_neg c21, if_neg c42, if_neg c61, if_neg c80, if_pos c98], rfl⟩
          · refine z_iconst (v := nI 1) dX7_isRight_101 rfl (by decide) ?_
            refine z_goto (tgt := 106) dX7_isRight_102 (by decide) ?_
            exact z_ireturn dX7_isRight_106 rfl rfl (Nat.le_refl _) (Nat.le_refl _) (fun _ => rfl) ⟨by simp only [X7_isRight_v, if_neg c21, if_neg c42, if_neg c61, if_neg c80, if_neg c98], rfl⟩
        · refine z_iload dX7_isRight_83 rfl rfl ?_
          refine z_if_le (tgt := 92) dX7_isRight_85 rfl (by decide) (fun c85 => ?_) (fun c85 => ?_)
          · refine z_iconst (v := nI 0) dX7_isRight_92 rfl (by decide) ?_
            refine z_goto (tgt := 106) dX7_isRight_93 (by decide) ?_
            exact z_ireturn dX7_isRight_106 rfl rfl (Nat.le_refl _) (Nat.le_refl _) (fun _ => rfl) ⟨by simp only [X7_isRight_v, if_neg c21, if_neg c42, if_neg c61, if_pos c80, if_pos c85], rfl⟩
          · refine z_iconst (v := nI 1) dX7_isRight_88 rfl (by decide) ?_
            refine z_goto (tgt := 106) dX7_isRight_89 (by decide) ?_
            exact z_ireturn dX7_isRight_106 rfl rfl (Nat.le_refl _) (Nat.le_refl _) (fun _ => rfl) ⟨by simp only [X7_isRight_v, if_neg c21, if_neg c42, if_neg c61, if_pos c80, if_neg c85], rfl⟩
      · refine z_iload dX7_isRight_64 rfl rfl ?_
        refine z_if_eq (tgt := 73) dX7_isRight_66 rfl (by decide) (fun c66 => ?_) (fun c66 => ?_)
        · refine z_iconst (v := nI 0) dX7_isRight_73 rfl (by decide) ?_
          refine z_goto (tgt := 106) dX7_isRight_74 (by decide) ?_
          exact z_ireturn dX7_isRight_106 rfl rfl (Nat.le_refl _) (Nat.le_refl _) (fun _ => rfl) ⟨by simp only [X7_isRight_v, if_neg c21, if_neg c42, if_pos c61, if_pos c66], rfl⟩
        · refine z_iconst (v := nI 1) dX7_isRight_69 rfl (by decide) ?_
          refine z_goto (tgt := 106) dX7_isRight_70 (by decide) ?_
          exact z_ireturn dX7_isRight_106 rfl rfl (Nat.le_refl _) (Nat.le_refl _) (fun _ => rfl) ⟨by simp only [X7_isRight_v, if_neg c21, if_neg c42, if_pos c61, if_neg c66], rfl⟩
    · refine z_iload dX7_isRight_45 rfl rfl ?_
      refine z_if_ne (tgt := 54) dX7_isRight_47 rfl (by decide) (fun c47 => ?_) (fun c47 => ?_)
      · refine z_iconst (v := nI 0) dX7_isRight_54 rfl (by decide) ?_
        refine z_goto (tgt := 106) dX7_isRight_55 (by decide) ?_
        exact z_ireturn dX7_isRight_106 rfl rfl (Nat.le_refl _) (Nat.le_refl _) (fun _ => rfl) ⟨by simp only [X7_isRight_v, if_neg c21, if_pos c42, if_neg c47], rfl⟩
      · refine z_iconst (v := nI 1) dX7_isRight_50 rfl (by decide) ?_
        refine z_goto (tgt := 106) dX7_isRight_51 (by decide) ?_
        exact z_ireturn dX7_isRight_106 rfl rfl (Nat.le_refl _) (Nat.le_refl _) (fun _ => rfl) ⟨by simp only [X7_isRight_v, if_neg c21, if_pos c42, if_pos c47], rfl⟩
  · refine z_iconst (v := nI 1) dX7_isRight_24 rfl (by decide) ?_
    exact z_ireturn dX7_isRight_25 rfl rfl (Nat.le_refl _) (Nat.le_refl _) (fun _ => rfl) ⟨by simp only [X7_isRight_v, if_pos c21], rfl⟩
abbrev mX7_layWants : zM := (cX7_layWants, 8, none, RX7, wsX7_layWants, "layWants")
theorem okk_X7_layField : zOk yX7_layField 1 := by unfold zOk; decide +kernel
theorem hiX7_layWants_X7 : ∀ w ∈ wsX70, w ∈ wsX7_layWants := fun w h => List.mem_cons_of_mem _ (List.mem_append_right _ h)
theorem lkX7_layWants_143 : Cond.fieldLink RX7 143 "ConfigSearchModel" "points" "I" ∈ wsX7_layWants := by decide +kernel
theorem lkX7_layWants_43 : Cond.fieldLink RX7 43 "ConfigSearchModel" "orientSign" "[I" ∈ wsX7_layWants := by decide +kernel
theorem lkX7_layWants_68 : Cond.fieldLink RX7 68 "ConfigSearchModel" "wants" "[I" ∈ wsX7_layWants := by decide +kernel
def X7_layWants_L32_F (lns : Nat) (brs : Nat) (ors : Nat) (lm : Nat → Int32) (bm : Nat → Int32) (om : Nat → Int32) (os : Nat → Int32) (fd : Nat) (a : Nat) (b : Nat) (c : Nat) (a9 : (Nat → Int32)) : (Nat → Int32) := if (X7_orientAt_v ors om (X7_maskOf_v (nI a) (nI b) (nI c))) = (-4) then (if (X7_barAt_v brs bm (X7_maskOf_v (nI a) (nI b) (nI c))) = (-4) then (if (X7_isFlat_v lns lm (X7_maskOf_v (nI a) (nI b) (nI c))) = 0 then (upd a9 (((100 * a) + (10 * b)) + c) (nI 0)) else (upd a9 (((100 * a) + (10 * b)) + c) (nI 1))) else (if (X7_isFlat_v lns lm (X7_maskOf_v (nI a) (nI b) (nI c))) = 0 then (upd a9 (((100 * a) + (10 * b)) + c) (nI 2)) else (upd a9 (((100 * a) + (10 * b)) + c) (nI 1)))) else (if (nI fd) ≤ 0 then (if (os (X7_orientAt_v ors om (X7_maskOf_v (nI a) (nI b) (nI c))).toNatClampNeg) ≤ 0 then (if (X7_isFlat_v lns lm (X7_maskOf_v (nI a) (nI b) (nI c))) = 0 then (upd a9 (((100 * a) + (10 * b)) + c) (nI 4)) else (upd a9 (((100 * a) + (10 * b)) + c) (nI 1))) else (if (X7_isFlat_v lns lm (X7_maskOf_v (nI a) (nI b) (nI c))) = 0 then (upd a9 (((100 * a) + (10 * b)) + c) (nI 3)) else (upd a9 (((100 * a) + (10 * b)) + c) (nI 1)))) else (if (X7_isFlat_v lns lm (X7_maskOf_v (nI a) (nI b) (nI c))) = 0 then (upd a9 (((100 * a) + (10 * b)) + c) (nI 2)) else (upd a9 (((100 * a) + (10 * b)) + c) (nI 1))))
def X7_layWants_L19_F (pts : Nat) (lns : Nat) (brs : Nat) (ors : Nat) (lm : Nat → Int32) (bm : Nat → Int32) (om : Nat → Int32) (os : Nat → Int32) (fd : Nat) (a : Nat) (b : Nat) (a9 : (Nat → Int32)) : (Nat → Int32) := (zfold (X7_layWants_L32_F lns brs ors lm bm om os fd a b) (pts - (b + 1)) (b + 1) a9)
def X7_layWants_L7_F (pts : Nat) (lns : Nat) (brs : Nat) (ors : Nat) (lm : Nat → Int32) (bm : Nat → Int32) (om : Nat → Int32) (os : Nat → Int32) (fd : Nat) (a : Nat) (a9 : (Nat → Int32)) : (Nat → Int32) := (zfold (X7_layWants_L19_F pts lns brs ors lm bm om os fd a) (pts - (a + 1)) (a + 1) a9)
def X7_layWants_p76_10 (fd : Nat) : Nat := X7_layField_p76_10 fd
def X7_layWants_c92 (laid : Int32) (fs sc th : Nat → Int32) (fd : Nat) : Nat → Int32 := X7_layField_c92 laid fs sc th fd
def X7_layWants_c93 (laid : Int32) (fs sc th : Nat → Int32) (fd : Nat) : Nat → Int32 := X7_layField_c93 laid fs sc th fd
def X7_layWants_c94 (laid : Int32) (fs sc th : Nat → Int32) (fd : Nat) : Nat → Int32 := X7_layField_c94 laid fs sc th fd
def X7_layWants_c95 (pts lns brs ors : Nat) (lm bm om os wn : Nat → Int32) (fd : Nat) : Nat → Int32 := (zfold (X7_layWants_L7_F pts lns brs ors lm bm om os fd) pts 0 wn)
set_option maxRecDepth 100000 in
set_option maxHeartbeats 4000000 in
theorem c_X7_layWants (G : zG) (ex : Bool) (g : Nat → va_E) (code : Int32) (tps pts lns wds brs ors : Nat) (stp hasP fld laid told : Int32) (rws : Nat) (cms : Int32) (cmT : Nat) (cmS isN : Int32) (trs : Nat) (lm bm om os fs sc th wn : Nat → Int32) (fd : Nat) (hf : X7_placesOf_n fd ≤ 183) (hl : lns ≤ 12) (hb : brs ≤ 20) (ho : ors ≤ 20) (hp : pts ≤ 10) (h76 : g 76 = (oMod G code (nI tps) (nI pts) (nI lns) (nI wds) (nI brs) (nI ors) stp hasP fld laid told (nI rws) cms (nI cmT) cmS isN (nI trs))) (h82 : g 82 = (zI G 12 lm)) (h86 : g 86 = (zI G 20 bm)) (h87 : g 87 = (zI G 20 om)) (h88 : g 88 = (zI G 20 os)) (h92 : g 92 = (zI G 183 fs)) (h93 : g 93 = (zI G 183 sc)) (h94 : g 94 = (zI G 183 th)) (h95 : g 95 = (zI G 1000 wn)) : zC G yX7_layWants wsX7_layWants (zrm 2 44) ex [.ref (zB G + 76), .int (nI fd)] (zN, g) (fun r h => r = none ∧ h = (zN, zus g [(76, (oMod G code (nI tps) (nI pts) (nI lns) (nI wds) (nI brs) (nI ors) stp hasP fld (nI (X7_layWants_p76_10 fd)) told (nI rws) cms (nI cmT) cmS isN (nI trs))), (92, zI G 183 (X7_layWants_c92 laid fs sc th fd)), (93, zI G 183 (X7_layWants_c93 laid fs sc th fd)), (94, zI G 183 (X7_layWants_c94 laid fs sc th fd)), (95, zI G 1000 (X7_layWants_c95 pts lns brs ors lm bm om os wn fd))])) := by
  refine zC_of mX7_layWants (lv := [some (.ref (zB G + 76)), some (.int (nI fd)), none, none, none, none, none, none]) rfl rfl (by decide) (by intro v hv; simp at hv; rcases hv with rfl | rfl <;> rfl) (Nat.le_of_ble_eq_true rfl) rfl ?_
  refine z_0 ?_
  refine z_heap (g' := zu (zus g []) 76 (oMod G code (nI tps) (nI pts) (nI lns) (nI wds) (nI brs) (nI ors) stp hasP fld laid told (nI rws) cms (nI cmT) cmS isN (nI trs))) (zu_self (zus g []) 76 _ h76).symm ?_
  refine z_n (L' := [(76, (oMod G code (nI tps) (nI pts) (nI lns) (nI wds) (nI brs) (nI ors) stp hasP fld laid told (nI rws) cms (nI cmT) cmS isN (nI trs)))]) rfl ?_
  refine z_heap (g' := zu (zus g [(76, (oMod G code (nI tps) (nI pts) (nI lns) (nI wds) (nI brs) (nI ors) stp hasP fld laid told (nI rws) cms (nI cmT) cmS isN (nI trs)))]) 92 (zI G 183 fs)) (zu_self (zus g [(76, (oMod G code (nI tps) (nI pts) (nI lns) (nI wds) (nI brs) (nI ors) stp hasP fld laid told (nI rws) cms (nI cmT) cmS isN (nI trs)))]) 92 _ h92).symm ?_
  refine z_n (L' := [(76, (oMod G code (nI tps) (nI pts) (nI lns) (nI wds) (nI brs) (nI ors) stp hasP fld laid told (nI rws) cms (nI cmT) cmS isN (nI trs))), (92, (zI G 183 fs))]) rfl ?_
  refine z_heap (g' := zu (zus g [(76, (oMod G code (nI tps) (nI pts) (nI lns) (nI wds) (nI brs) (nI ors) stp hasP fld laid told (nI rws) cms (nI cmT) cmS isN (nI trs))), (92, (zI G 183 fs))]) 93 (zI G 183 sc)) (zu_self (zus g [(76, (oMod G code (nI tps) (nI pts) (nI lns) (nI wds) (nI brs) (nI ors) stp hasP fld laid told (nI rws) cms (nI cmT) cmS isN (nI trs))), (92, (zI G 183 fs))]) 93 _ h93).symm ?_
  refine z_n (L' := [(76, (oMod G code (nI tps) (nI pts) (nI lns) (nI wds) (nI brs) (nI ors) stp hasP fld laid told (nI rws) cms (nI cmT) cmS isN (nI trs))), (92, (zI G 183 fs)), (93, (zI G 183 sc))]) rfl ?_
  refine z_heap (g' := zu (zus g [(76, (oMod G code (nI tps) (nI pts) (nI lns) (nI wds) (nI brs) (nI ors) stp hasP fld laid told (nI rws) cms (nI cmT) cmS isN (nI trs))), (92, (zI G 183 fs)), (93, (zI G 183 sc))]) 94 (zI G 183 th)) (zu_self (zus g [(76, (oMod G code (nI tps) (nI pts) (nI lns) (nI wds) (nI brs) (nI ors) stp hasP fld laid told (nI rws) cms (nI cmT) cmS isN (nI trs))), (92, (zI G 183 fs)), (93, (zI G 183 sc))]) 94 _ h94).symm ?_
  refine z_n (L' := [(76, (oMod G code (nI tps) (nI pts) (nI lns) (nI wds) (nI brs) (nI ors) stp hasP fld laid told (nI rws) cms (nI cmT) cmS isN (nI trs))), (92, (zI G 183 fs)), (93, (zI G 183 sc)), (94, (zI G 183 th))]) rfl ?_
  refine z_heap (g' := zu (zus g [(76, (oMod G code (nI tps) (nI pts) (nI lns) (nI wds) (nI brs) (nI ors) stp hasP fld laid told (nI rws) cms (nI cmT) cmS isN (nI trs))), (92, (zI G 183 fs)), (93, (zI G 183 sc)), (94, (zI G 183 th))]) 95 (zI G 1000 wn)) (zu_self (zus g [(76, (oMod G code (nI tps) (nI pts) (nI lns) (nI wds) (nI brs) (nI ors) stp hasP fld laid told (nI rws) cms (nI cmT) cmS isN (nI trs))), (92, (zI G 183 fs)), (93, (zI G 183 sc)), (94, (zI G 183 th))]) 95 _ h95).symm ?_
  refine z_n (L' := [(76, (oMod G code (nI tps) (nI pts) (nI lns) (nI wds) (nI brs) (nI ors) stp hasP fld laid told (nI rws) cms (nI cmT) cmS isN (nI trs))), (92, (zI G 183 fs)), (93, (zI G 183 sc)), (94, (zI G 183 th)), (95, (zI G 1000 wn))]) rfl ?_
  refine z_aload_n dX7_layWants_0 rfl rfl ?_
  refine z_iload_n dX7_layWants_1 rfl rfl ?_
  refine z_callVv (c_X7_layField G ex _ code tps pts lns wds brs ors stp hasP fld laid told rws cms cmT cmS isN trs fs sc th fd (by omega) rfl rfl rfl rfl) gX7_layWants_X7_layField rfl dX7_layWants_2 rfl rfl rfl okk_X7_layField (Nat.le_of_ble_eq_true rfl) rfl rfl ⟨Nat.le_of_ble_eq_true rfl, Nat.le_of_ble_eq_true rfl⟩ ⟨Nat.le_of_ble_eq_true rfl, Nat.le_of_ble_eq_true rfl⟩ (Nat.le_of_ble_eq_true rfl) ?_
  refine z_nn (L' := [(76, (oMod G code (nI tps) (nI pts) (nI lns) (nI wds) (nI brs) (nI ors) stp hasP fld (nI (X7_layField_p76_10 fd)) told (nI rws) cms (nI cmT) cmS isN (nI trs))), (92, (zI G 183 (X7_layField_c92 laid fs sc th fd))), (93, (zI G 183 (X7_layField_c93 laid fs sc th fd))), (94, (zI G 183 (X7_layField_c94 laid fs sc th fd))), (95, (zI G 1000 wn))]) rfl ?_
  refine z_iconst (v := nI 0) dX7_layWants_5 rfl (by decide) ?_
  refine z_istore_2 dX7_layWants_6 rfl ?_
  refine z_forI (head := fun a (st9 : (Nat → Int32)) => ∀ y3 y4 y5 y6 y7 : Option Value, Z G mX7_layWants (zrm 2 44) ex _ 7 [some (.ref (zB G + 76)), some (.int (nI fd)), some (.int (nI a)), y3, y4, y5, y6, y7] [] (zN, zus g [(76, (oMod G code (nI tps) (nI pts) (nI lns) (nI wds) (nI brs) (nI ors) stp hasP fld (nI (X7_layField_p76_10 fd)) told (nI rws) cms (nI cmT) cmS isN (nI trs))), (92, (zI G 183 (X7_layField_c92 laid fs sc th fd))), (93, (zI G 183 (X7_layField_c93 laid fs sc th fd))), (94, (zI G 183 (X7_layField_c94 laid fs sc th fd))), (95, (zI G 1000 st9))]) 0 0) (F := (X7_layWants_L7_F pts lns brs ors lm bm om os fd)) (n := pts) (fun _ _ => True) (fun _ _ _ _ => trivial) ?_ pts 0 wn (by omega) trivial ?_ _ _ _ _ _
  · intro a wn1 hi _ K
    intro y3 y4 y5 y6 y7
    have ha : a < pts := hi
    refine z_iload_n dX7_layWants_7 rfl rfl ?_
    refine z_aload_n dX7_layWants_8 rfl rfl ?_
    refine z_get dX7_layWants_9 rfl hiX7_layWants_X7 3 lkX7_layWants_143 (Nat.le_of_ble_eq_true rfl) rfl rfl (by decide) rfl ?_
    refine z_icmp_ge (tgt := 162) dX7_layWants_12 rfl (by decide) (fun c12 => ?_) (fun c12 => ?_)
    · exact absurd c12 (nI_ge hi (by omega))
    · refine z_iload_n dX7_layWants_15 rfl rfl ?_
      refine z_iconst (v := nI 1) dX7_layWants_16 rfl (by decide) ?_
      refine z_iadd dX7_layWants_17 rfl ?_
      refine z_top (show (nI a) + (nI 1) = nI (a + 1) from (zq_add rfl rfl)) ?_
      refine z_istore_3 dX7_layWants_18 rfl ?_
      refine z_forI (head := fun b (st9 : (Nat → Int32)) => ∀ y4 y5 y6 y7 : Option Value, Z G mX7_layWants (zrm 2 44) ex _ 19 [some (.ref (zB G + 76)), some (.int (nI fd)), some (.int (nI a)), some (.int (nI b)), y4, y5, y6, y7] [] (zN, zus g [(76, (oMod G code (nI tps) (nI pts) (nI lns) (nI wds) (nI brs) (nI ors) stp hasP fld (nI (X7_layField_p76_10 fd)) told (nI rws) cms (nI cmT) cmS isN (nI trs))), (92, (zI G 183 (X7_layField_c92 laid fs sc th fd))), (93, (zI G 183 (X7_layField_c93 laid fs sc th fd))), (94, (zI G 183 (X7_layField_c94 laid fs sc th fd))), (95, (zI G 1000 st9))]) 0 0) (F := (X7_layWants_L19_F pts lns brs ors lm bm om os fd a)) (n := pts) (fun _ _ => True) (fun _ _ _ _ => trivial) ?_ (pts - (a + 1)) (a + 1) wn1 (by omega) trivial ?_ _ _ _ _
      · intro b wn2 hi _ K
        intro y4 y5 y6 y7
        have hb9 : b < pts := hi
        refine z_iload_n dX7_layWants_19 rfl rfl ?_
        refine z_aload_n dX7_layWants_20 rfl rfl ?_
        refine z_get dX7_layWants_21 rfl hiX7_layWants_X7 3 lkX7_layWants_143 (Nat.le_of_ble_eq_true rfl) rfl rfl (by decide) rfl ?_
        refine z_icmp_ge (tgt := 156) dX7_layWants_24 rfl (by decide) (fun c24 => ?_) (fun c24 => ?_)
        · exact absurd c24 (nI_ge hi (by omega))
        · refine z_iload_n dX7_layWants_27 rfl rfl ?_
          refine z_iconst (v := nI 1) dX7_layWants_28 rfl (by decide) ?_
          refine z_iadd dX7_layWants_29 rfl ?_
          refine z_top (show (nI b) + (nI 1) = nI (b + 1) from (zq_add rfl rfl)) ?_
          refine z_istore_4 dX7_layWants_30 rfl ?_
          refine z_forI (head := fun c (st9 : (Nat → Int32)) => ∀ y5 y6 y7 : Option Value, Z G mX7_layWants (zrm 2 44) ex _ 32 [some (.ref (zB G + 76)), some (.int (nI fd)), some (.int (nI a)), some (.int (nI b)), some (.int (nI c)), y5, y6, y7] [] (zN, zus g [(76, (oMod G code (nI tps) (nI pts) (nI lns) (nI wds) (nI brs) (nI ors) stp hasP fld (nI (X7_layField_p76_10 fd)) told (nI rws) cms (nI cmT) cmS isN (nI trs))), (92, (zI G 183 (X7_layField_c92 laid fs sc th fd))), (93, (zI G 183 (X7_layField_c93 laid fs sc th fd))), (94, (zI G 183 (X7_layField_c94 laid fs sc th fd))), (95, (zI G 1000 st9))]) 0 0) (F := (X7_layWants_L32_F lns brs ors lm bm om os fd a b)) (n := pts) (fun _ _ => True) (fun _ _ _ _ => trivial) ?_ (pts - (b + 1)) (b + 1) wn2 (by omega) trivial ?_ _ _ _
          · intro c wn3 hi _ K
            intro y5 y6 y7
            have hc : c < pts := hi
            refine z_iload dX7_layWants_32 rfl rfl ?_
            refine z_aload_n dX7_layWants_34 rfl rfl ?_
            refine z_get dX7_layWants_35 rfl hiX7_layWants_X7 3 lkX7_layWants_143 (Nat.le_of_ble_eq_true rfl) rfl rfl (by decide) rfl ?_
            refine z_icmp_ge (tgt := 150) dX7_layWants_38 rfl (by decide) (fun c38 => ?_) (fun c38 => ?_)
            · exact absurd c38 (nI_ge hi (by omega))
            · refine z_iload_n dX7_layWants_41 rfl rfl ?_
              refine z_iload_n dX7_layWants_42 rfl rfl ?_
              refine z_iload dX7_layWants_43 rfl rfl ?_
              refine z_callSi (c_X7_maskOf G ex _ (nI a) (nI b) (nI c)) gX7_layWants_X7_maskOf rfl dX7_layWants_45 rfl rfl okk_X7_maskOf ⟨Nat.le_of_ble_eq_true rfl, Nat.le_of_ble_eq_true rfl⟩ ⟨Nat.le_of_ble_eq_true rfl, Nat.le_of_ble_eq_true rfl⟩ (Nat.le_of_ble_eq_true rfl) ?_
              refine z_istore_5 dX7_layWants_48 rfl ?_
              refine z_aload_n dX7_layWants_50 rfl rfl ?_
              refine z_iload dX7_layWants_51 rfl rfl ?_
              refine z_callVi (c_X7_orientAt G ex _ code tps pts lns wds brs ors stp hasP fld (nI (X7_layField_p76_10 fd)) told rws cms cmT cmS isN trs om (X7_maskOf_v (nI a) (nI b) (nI c)) (by omega) rfl h87) gX7_layWants_X7_orientAt rfl dX7_layWants_53 rfl rfl rfl okk_X7_orientAt (Nat.le_of_ble_eq_true rfl) rfl rfl ⟨Nat.le_of_ble_eq_true rfl, Nat.le_of_ble_eq_true rfl⟩ ⟨Nat.le_of_ble_eq_true rfl, Nat.le_of_ble_eq_true rfl⟩ (Nat.le_of_ble_eq_true rfl) ?_
              refine z_istore_6 dX7_layWants_56 rfl ?_
              refine z_iload dX7_layWants_58 rfl rfl ?_
              refine z_bipush (v := (-4)) dX7_layWants_60 rfl (by decide) ?_
              refine z_icmp_ne (tgt := 80) dX7_layWants_62 rfl (by decide) (fun c62 => ?_) (fun c62 => ?_)
              · refine z_iload dX7_layWants_80 rfl rfl ?_
                refine z_bipush (v := (-4)) dX7_layWants_82 rfl (by decide) ?_
                refine z_icmp_eq (tgt := 91) dX7_layWants_84 rfl (by decide) (fun c84 => ?_) (fun c84 => ?_)
                · exact absurd c84 c62
                · refine z_iload_n dX7_layWants_87 rfl rfl ?_
                  refine z_if_le (tgt := 95) dX7_layWants_88 rfl (by decide) (fun c88 => ?_) (fun c88 => ?_)
                  · refine z_aload_n dX7_layWants_95 rfl rfl ?_
                    refine z_get dX7_layWants_96 rfl hiX7_layWants_X7 18 lkX7_layWants_43 (Nat.le_of_ble_eq_true rfl) rfl rfl (by decide) rfl ?_
                    refine z_iload dX7_layWants_99 rfl rfl ?_
                    refine z_iald dX7_layWants_101 rfl (Nat.le_of_ble_eq_true rfl) h88 (vp_in_mono ((orientAt_in ho).resolve_left (by assumption)) ho) ?_
                    refine z_if_le (tgt := 109) dX7_layWants_102 rfl (by decide) (fun c102 => ?_) (fun c102 => ?_)
                    · refine z_iconst (v := nI 4) dX7_layWants_109 rfl (by decide) ?_
                      refine z_istore_7 dX7_layWants_110 rfl ?_
                      refine z_aload_n dX7_layWants_112 rfl rfl ?_
                      refine z_get dX7_layWants_113 rfl hiX7_layWants_X7 29 lkX7_layWants_68 (Nat.le_of_ble_eq_true rfl) rfl rfl (by decide) rfl ?_
                      refine z_bipush (v := nI 100) dX7_layWants_116 rfl (by decide) ?_
                      refine z_iload_n dX7_layWants_118 rfl rfl ?_
                      refine z_imul dX7_layWants_119 rfl ?_
                      refine z_bipush (v := nI 10) dX7_layWants_120 rfl (by decide) ?_
                      refine z_iload_n dX7_layWants_122 rfl rfl ?_
                      refine z_imul dX7_layWants_123 rfl ?_
                      refine z_iadd dX7_layWants_124 rfl ?_
                      refine z_iload dX7_layWants_125 rfl rfl ?_
                      refine z_iadd dX7_layWants_127 rfl ?_
                      refine z_aload_n dX7_layWants_128 rfl rfl ?_
                      refine z_iload dX7_layWants_129 rfl rfl ?_
                      refine z_callVi (c_X7_isFlat G ex _ code tps pts lns wds brs ors stp hasP fld (nI (X7_layField_p76_10 fd)) told rws cms cmT cmS isN trs lm (X7_maskOf_v (nI a) (nI b) (nI c)) (by omega) rfl h82) gX7_layWants_X7_isFlat rfl dX7_layWants_131 rfl rfl rfl okk_X7_isFlat (Nat.le_of_ble_eq_true rfl) rfl rfl ⟨Nat.le_of_ble_eq_true rfl, Nat.le_of_ble_eq_true rfl⟩ ⟨Nat.le_of_ble_eq_true rfl, Nat.le_of_ble_eq_true rfl⟩ (Nat.le_of_ble_eq_true rfl) ?_
                      refine z_if_eq (tgt := 141) dX7_layWants_134 rfl (by decide) (fun c134 => ?_) (fun c134 => ?_)
                      · refine z_iload dX7_layWants_141 rfl rfl ?_
                        refine z_iastN (j := ((100 * a) + (10 * b)) + c) dX7_layWants_143 rfl (Nat.le_of_ble_eq_true rfl) rfl ((zq_add (zq_add (zq_mul rfl rfl) (zq_mul rfl rfl)) rfl)) (by omega) (by decide) ?_
                        refine z_n (L' := [(76, (oMod G code (nI tps) (nI pts) (nI lns) (nI wds) (nI brs) (nI ors) stp hasP fld (nI (X7_layField_p76_10 fd)) told (nI rws) cms (nI cmT) cmS isN (nI trs))), (92, (zI G 183 (X7_layField_c92 laid fs sc th fd))), (93, (zI G 183 (X7_layField_c93 laid fs sc th fd))), (94, (zI G 183 (X7_layField_c94 laid fs sc th fd))), (95, (zI G 1000 (upd wn3 (((100 * a) + (10 * b)) + c) (nI 4))))]) rfl ?_
                        refine z_iinc_4 (v := nI (c + 1)) dX7_layWants_144 rfl (zinc _) ?_
                        refine z_goto (tgt := 32) dX7_layWants_147 (by decide) ?_
                        have K9 := K
                        try simp only [X7_layWants_L32_F, if_neg c62, if_pos c88, if_pos c102, if_pos c134] at K9
                        exact K9 _ _ _
                      · refine z_iconst (v := nI 1) dX7_layWants_137 rfl (by decide) ?_
                        refine z_goto (tgt := 143) dX7_layWants_138 (by decide) ?_
                        refine z_iastN (j := ((100 * a) + (10 * b)) + c) dX7_layWants_143 rfl (Nat.le_of_ble_eq_true rfl) rfl ((zq_add (zq_add (zq_mul rfl rfl) (zq_mul rfl rfl)) rfl)) (by omega) (by decide) ?_
                        refine z_n (L' := [(76, (oMod G code (nI tps) (nI pts) (nI lns) (nI wds) (nI brs) (nI ors) stp hasP fld (nI (X7_layField_p76_10 fd)) told (nI rws) cms (nI cmT) cmS isN (nI trs))), (92, (zI G 183 (X7_layField_c92 laid fs sc th fd))), (93, (zI G 183 (X7_layField_c93 laid fs sc th fd))), (94, (zI G 183 (X7_layField_c94 laid fs sc th fd))), (95, (zI G 1000 (upd wn3 (((100 * a) + (10 * b)) + c) (nI 1))))]) rfl ?_
                        refine z_iinc_4 (v := nI (c + 1)) dX7_layWants_144 rfl (zinc _) ?_
                        refine z_goto (tgt := 32) dX7_layWants_147 (by decide) ?_
                        have K9 := K
                        try simp only [X7_layWants_L32_F, if_neg c62, if_pos c88, if_pos c102, if_neg c134] at K9
                        exact K9 _ _ _
                    · refine z_iconst (v := nI 3) dX7_layWants_105 rfl (by decide) ?_
                      refine z_goto (tgt := 110) dX7_layWants_106 (by decide) ?_
                      refine z_istore_7 dX7_layWants_110 rfl ?_
                      refine z_aload_n dX7_layWants_112 rfl rfl ?_
                      refine z_get dX7_layWants_113 rfl hiX7_layWants_X7 29 lkX7_layWants_68 (Nat.le_of_ble_eq_true rfl) rfl rfl (by decide) rfl ?_
                      refine z_bipush (v := nI 100) dX7_layWants_116 rfl (by decide) ?_
                      refine z_iload_n dX7_layWants_118 rfl rfl ?_
                      refine z_imul dX7_layWants_119 rfl ?_
                      refine z_bipush (v := nI 10) dX7_layWants_120 rfl (by decide) ?_
                      refine z_iload_n dX7_layWants_122 rfl rfl ?_
                      refine z_imul dX7_layWants_123 rfl ?_
                      refine z_iadd dX7_layWants_124 rfl ?_
                      refine z_iload dX7_layWants_125 rfl rfl ?_
                      refine z_iadd dX7_layWants_127 rfl ?_
                      refine z_aload_n dX7_layWants_128 rfl rfl ?_
                      refine z_iload dX7_layWants_129 rfl rfl ?_
                      refine z_callVi (c_X7_isFlat G ex _ code tps pts lns wds brs ors stp hasP fld (nI (X7_layField_p76_10 fd)) told rws cms cmT cmS isN trs lm (X7_maskOf_v (nI a) (nI b) (nI c)) (by omega) rfl h82) gX7_layWants_X7_isFlat rfl dX7_layWants_131 rfl rfl rfl okk_X7_isFlat (Nat.le_of_ble_eq_true rfl) rfl rfl ⟨Nat.le_of_ble_eq_true rfl, Nat.le_of_ble_eq_true rfl⟩ ⟨Nat.le_of_ble_eq_true rfl, Nat.le_of_ble_eq_true rfl⟩ (Nat.le_of_ble_eq_true rfl) ?_
                      refine z_if_eq (tgt := 141) dX7_layWants_134 rfl (by decide) (fun c134 => ?_) (fun c134 => ?_)
                      · refine z_iload dX7_layWants_141 rfl rfl ?_
                        refine z_iastN (j := ((100 * a) + (10 * b)) + c) dX7_layWants_143 rfl (Nat.le_of_ble_eq_true rfl) rfl ((zq_add (zq_add (zq_mul rfl rfl) (zq_mul rfl rfl)) rfl)) (by omega) (by decide) ?_
                        refine z_n (L' := [(76, (oMod G code (nI tps) (nI pts) (nI lns) (nI wds) (nI brs) (nI ors) stp hasP fld (nI (X7_layField_p76_10 fd)) told (nI rws) cms (nI cmT) cmS isN (nI trs))), (92, (zI G 183 (X7_layField_c92 laid fs sc th fd))), (93, (zI G 183 (X7_layField_c93 laid fs sc th fd))), (94, (zI G 183 (X7_layField_c94 laid fs sc th fd))), (95, (zI G 1000 (upd wn3 (((100 * a) + (10 * b)) + c) (nI 3))))]) rfl ?_
                        refine z_iinc_4 (v := nI (c + 1)) dX7_layWants_144 rfl (zinc _) ?_
                        refine z_goto (tgt := 32) dX7_layWants_147 (by decide) ?_
                        have K9 := K
                        try simp only [X7_layWants_L32_F, if_neg c62, if_pos c88, if_neg c102, if_pos c134] at K9
                        exact K9 _ _ _
                      · refine z_iconst (v := nI 1) dX7_layWants_137 rfl (by decide) ?_
                        refine z_goto (tgt := 143) dX7_layWants_138 (by decide) ?_
                        refine z_iastN (j := ((100 * a) + (10 * b)) + c) dX7_layWants_143 rfl (Nat.le_of_ble_eq_true rfl) rfl ((zq_add (zq_add (zq_mul rfl rfl) (zq_mul rfl rfl)) rfl)) (by omega) (by decide) ?_
                        refine z_n (L' := [(76, (oMod G code (nI tps) (nI pts) (nI lns) (nI wds) (nI brs) (nI ors) stp hasP fld (nI (X7_layField_p76_10 fd)) told (nI rws) cms (nI cmT) cmS isN (nI trs))), (92, (zI G 183 (X7_layField_c92 laid fs sc th fd))), (93, (zI G 183 (X7_layField_c93 laid fs sc th fd))), (94, (zI G 183 (X7_layField_c94 laid fs sc th fd))), (95, (zI G 1000 (upd wn3 (((100 * a) + (10 * b)) + c) (nI 1))))]) rfl ?_
                        refine z_iinc_4 (v := nI (c + 1)) dX7_layWants_144 rfl (zinc _) ?_
                        refine z_goto (tgt := 32) dX7_layWants_147 (by decide) ?_
                        have K9 := K
                        try simp only [X7_layWants_L32_F, if_neg c62, if_pos c88, if_neg c102, if_neg c134] at K9
                        exact K9 _ _ _
                  · refine z_iconst (v := nI 2) dX7_layWants_91 rfl (by decide) ?_
                    refine z_goto (tgt := 110) dX7_layWants_92 (by decide) ?_
                    refine z_istore_7 dX7_layWants_110 rfl ?_
                    refine z_aload_n dX7_layWants_112 rfl rfl ?_
                    refine z_get dX7_layWants_113 rfl hiX7_layWants_X7 29 lkX7_layWants_68 (Nat.le_of_ble_eq_true rfl) rfl rfl (by decide) rfl ?_
                    refine z_bipush (v := nI 100) dX7_layWants_116 rfl (by decide) ?_
                    refine z_iload_n dX7_layWants_118 rfl rfl ?_
                    refine z_imul dX7_layWants_119 rfl ?_
                    refine z_bipush (v := nI 10) dX7_layWants_120 rfl (by decide) ?_
                    refine z_iload_n dX7_layWants_122 rfl rfl ?_
                    refine z_imul dX7_layWants_123 rfl ?_
                    refine z_iadd dX7_layWants_124 rfl ?_
                    refine z_iload dX7_layWants_125 rfl rfl ?_
                    refine z_iadd dX7_layWants_127 rfl ?_
                    refine z_aload_n dX7_layWants_128 rfl rfl ?_
                    refine z_iload dX7_layWants_129 rfl rfl ?_
                    refine z_callVi (c_X7_isFlat G ex _ code tps pts lns wds brs ors stp hasP fld (nI (X7_layField_p76_10 fd)) told rws cms cmT cmS isN trs lm (X7_maskOf_v (nI a) (nI b) (nI c)) (by omega) rfl h82) gX7_layWants_X7_isFlat rfl dX7_layWants_131 rfl rfl rfl okk_X7_isFlat (Nat.le_of_ble_eq_true rfl) rfl rfl ⟨Nat.le_of_ble_eq_true rfl, Nat.le_of_ble_eq_true rfl⟩ ⟨Nat.le_of_ble_eq_true rfl, Nat.le_of_ble_eq_true rfl⟩ (Nat.le_of_ble_eq_true rfl) ?_
                    refine z_if_eq (tgt := 141) dX7_layWants_134 rfl (by decide) (fun c134 => ?_) (fun c134 => ?_)
                    · refine z_iload dX7_layWants_141 rfl rfl ?_
                      refine z_iastN (j := ((100 * a) + (10 * b)) + c) dX7_layWants_143 rfl (Nat.le_of_ble_eq_true rfl) rfl ((zq_add (zq_add (zq_mul rfl rfl) (zq_mul rfl rfl)) rfl)) (by omega) (by decide) ?_
                      refine z_n (L' := [(76, (oMod G code (nI tps) (nI pts) (nI lns) (nI wds) (nI brs) (nI ors) stp hasP fld (nI (X7_layField_p76_10 fd)) told (nI rws) cms (nI cmT) cmS isN (nI trs))), (92, (zI G 183 (X7_layField_c92 laid fs sc th fd))), (93, (zI G 183 (X7_layField_c93 laid fs sc th fd))), (94, (zI G 183 (X7_layField_c94 laid fs sc th fd))), (95, (zI G 1000 (upd wn3 (((100 * a) + (10 * b)) + c) (nI 2))))]) rfl ?_
                      refine z_iinc_4 (v := nI (c + 1)) dX7_layWants_144 rfl (zinc _) ?_
                      refine z_goto (tgt := 32) dX7_layWants_147 (by decide) ?_
                      have K9 := K
                      try simp only [X7_layWants_L32_F, if_neg c62, if_neg c88, if_pos c134] at K9
                      exact K9 _ _ _
                    · refine z_iconst (v := nI 1) dX7_layWants_137 rfl (by decide) ?_
                      refine z_goto (tgt := 143) dX7_layWants_138 (by decide) ?_
                      refine z_iastN (j := ((100 * a) + (10 * b)) + c) dX7_layWants_143 rfl (Nat.le_of_ble_eq_true rfl) rfl ((zq_add (zq_add (zq_mul rfl rfl) (zq_mul rfl rfl)) rfl)) (by omega) (by decide) ?_
                      refine z_n (L' := [(76, (oMod G code (nI tps) (nI pts) (nI lns) (nI wds) (nI brs) (nI ors) stp hasP fld (nI (X7_layField_p76_10 fd)) told (nI rws) cms (nI cmT) cmS isN (nI trs))), (92, (zI G 183 (X7_layField_c92 laid fs sc th fd))), (93, (zI G 183 (X7_layField_c93 laid fs sc th fd))), (94, (zI G 183 (X7_layField_c94 laid fs sc th fd))), (95, (zI G 1000 (upd wn3 (((100 * a) + (10 * b)) + c) (nI 1))))]) rfl ?_
                      refine z_iinc_4 (v := nI (c + 1)) dX7_layWants_144 rfl (zinc _) ?_
                      refine z_goto (tgt := 32) dX7_layWants_147 (by decide) ?_
                      have K9 := K
                      try simp only [X7_layWants_L32_F, if_neg c62, if_neg c88, if_neg c134] at K9
                      exact K9 _ _ _
              · refine z_aload_n dX7_layWants_65 rfl rfl ?_
                refine z_iload dX7_layWants_66 rfl rfl ?_
                refine z_callVi (c_X7_barAt G ex _ code tps pts lns wds brs ors stp hasP fld (nI (X7_layField_p76_10 fd)) told rws cms cmT cmS isN trs bm (X7_maskOf_v (nI a) (nI b) (nI c)) (by omega) rfl h86) gX7_layWants_X7_barAt rfl dX7_layWants_68 rfl rfl rfl okk_X7_barAt (Nat.le_of_ble_eq_true rfl) rfl rfl ⟨Nat.le_of_ble_eq_true rfl, Nat.le_of_ble_eq_true rfl⟩ ⟨Nat.le_of_ble_eq_true rfl, Nat.le_of_ble_eq_true rfl⟩ (Nat.le_of_ble_eq_true rfl) ?_
                refine z_bipush (v := (-4)) dX7_layWants_71 rfl (by decide) ?_
                refine z_icmp_ne (tgt := 80) dX7_layWants_73 rfl (by decide) (fun c73 => ?_) (fun c73 => ?_)
                · refine z_iload dX7_layWants_80 rfl rfl ?_
                  refine z_bipush (v := (-4)) dX7_layWants_82 rfl (by decide) ?_
                  refine z_icmp_eq (tgt := 91) dX7_layWants_84 rfl (by decide) (fun c84 => ?_) (fun c84 => ?_)
                  · refine z_iconst (v := nI 2) dX7_layWants_91 rfl (by decide) ?_
                    refine z_goto (tgt := 110) dX7_layWants_92 (by decide) ?_
                    refine z_istore_7 dX7_layWants_110 rfl ?_
                    refine z_aload_n dX7_layWants_112 rfl rfl ?_
                    refine z_get dX7_layWants_113 rfl hiX7_layWants_X7 29 lkX7_layWants_68 (Nat.le_of_ble_eq_true rfl) rfl rfl (by decide) rfl ?_
                    refine z_bipush (v := nI 100) dX7_layWants_116 rfl (by decide) ?_
                    refine z_iload_n dX7_layWants_118 rfl rfl ?_
                    refine z_imul dX7_layWants_119 rfl ?_
                    refine z_bipush (v := nI 10) dX7_layWants_120 rfl (by decide) ?_
                    refine z_iload_n dX7_layWants_122 rfl rfl ?_
                    refine z_imul dX7_layWants_123 rfl ?_
                    refine z_iadd dX7_layWants_124 rfl ?_
                    refine z_iload dX7_layWants_125 rfl rfl ?_
                    refine z_iadd dX7_layWants_127 rfl ?_
                    refine z_aload_n dX7_layWants_128 rfl rfl ?_
                    refine z_iload dX7_layWants_129 rfl rfl ?_
                    refine z_callVi (c_X7_isFlat G ex _ code tps pts lns wds brs ors stp hasP fld (nI (X7_layField_p76_10 fd)) told rws cms cmT cmS isN trs lm (X7_maskOf_v (nI a) (nI b) (nI c)) (by omega) rfl h82) gX7_layWants_X7_isFlat rfl dX7_layWants_131 rfl rfl rfl okk_X7_isFlat (Nat.le_of_ble_eq_true rfl) rfl rfl ⟨Nat.le_of_ble_eq_true rfl, Nat.le_of_ble_eq_true rfl⟩ ⟨Nat.le_of_ble_eq_true rfl, Nat.le_of_ble_eq_true rfl⟩ (Nat.le_of_ble_eq_true rfl) ?_
                    refine z_if_eq (tgt := 141) dX7_layWants_134 rfl (by decide) (fun c134 => ?_) (fun c134 => ?_)
                    · refine z_iload dX7_layWants_141 rfl rfl ?_
                      refine z_iastN (j := ((100 * a) + (10 * b)) + c) dX7_layWants_143 rfl (Nat.le_of_ble_eq_true rfl) rfl ((zq_add (zq_add (zq_mul rfl rfl) (zq_mul rfl rfl)) rfl)) (by omega) (by decide) ?_
                      refine z_n (L' := [(76, (oMod G code (nI tps) (nI pts) (nI lns) (nI wds) (nI brs) (nI ors) stp hasP fld (nI (X7_layField_p76_10 fd)) told (nI rws) cms (nI cmT) cmS isN (nI trs))), (92, (zI G 183 (X7_layField_c92 laid fs sc th fd))), (93, (zI G 183 (X7_layField_c93 laid fs sc th fd))), (94, (zI G 183 (X7_layField_c94 laid fs sc th fd))), (95, (zI G 1000 (upd wn3 (((100 * a) + (10 * b)) + c) (nI 2))))]) rfl ?_
                      refine z_iinc_4 (v := nI (c + 1)) dX7_layWants_144 rfl (zinc _) ?_
                      refine z_goto (tgt := 32) dX7_layWants_147 (by decide) ?_
                      have K9 := K
                      try simp only [X7_layWants_L32_F, if_pos c62, if_neg c73, if_pos c134] at K9
                      exact K9 _ _ _
                    · refine z_iconst (v := nI 1) dX7_layWants_137 rfl (by decide) ?_
                      refine z_goto (tgt := 143) dX7_layWants_138 (by decide) ?_
                      refine z_iastN (j := ((100 * a) + (10 * b)) + c) dX7_layWants_143 rfl (Nat.le_of_ble_eq_true rfl) rfl ((zq_add (zq_add (zq_mul rfl rfl) (zq_mul rfl rfl)) rfl)) (by omega) (by decide) ?_
                      refine z_n (L' := [(76, (oMod G code (nI tps) (nI pts) (nI lns) (nI wds) (nI brs) (nI ors) stp hasP fld (nI (X7_layField_p76_10 fd)) told (nI rws) cms (nI cmT) cmS isN (nI trs))), (92, (zI G 183 (X7_layField_c92 laid fs sc th fd))), (93, (zI G 183 (X7_layField_c93 laid fs sc th fd))), (94, (zI G 183 (X7_layField_c94 laid fs sc th fd))), (95, (zI G 1000 (upd wn3 (((100 * a) + (10 * b)) + c) (nI 1))))]) rfl ?_
                      refine z_iinc_4 (v := nI (c + 1)) dX7_layWants_144 rfl (zinc _) ?_
                      refine z_goto (tgt := 32) dX7_layWants_147 (by decide) ?_
                      have K9 := K
                      try simp only [X7_layWants_L32_F, if_pos c62, if_neg c73, if_neg c134] at K9
                      exact K9 _ _ _
                  · exact absurd c62 c84
                · refine z_iconst (v := nI 0) dX7_layWants_76 rfl (by decide) ?_
                  refine z_goto (tgt := 110) dX7_layWants_77 (by decide) ?_
                  refine z_istore_7 dX7_layWants_110 rfl ?_
                  refine z_aload_n dX7_layWants_112 rfl rfl ?_
                  refine z_get dX7_layWants_113 rfl hiX7_layWants_X7 29 lkX7_layWants_68 (Nat.le_of_ble_eq_true rfl) rfl rfl (by decide) rfl ?_
                  refine z_bipush (v := nI 100) dX7_layWants_116 rfl (by decide) ?_
                  refine z_iload_n dX7_layWants_118 rfl rfl ?_
                  refine z_imul dX7_layWants_119 rfl ?_
                  refine z_bipush (v := nI 10) dX7_layWants_120 rfl (by decide) ?_
                  refine z_iload_n dX7_layWants_122 rfl rfl ?_
                  refine z_imul dX7_layWants_123 rfl ?_
                  refine z_iadd dX7_layWants_124 rfl ?_
                  refine z_iload dX7_layWants_125 rfl rfl ?_
                  refine z_iadd dX7_layWants_127 rfl ?_
                  refine z_aload_n dX7_layWants_128 rfl rfl ?_
                  refine z_iload dX7_layWants_129 rfl rfl ?_
                  refine z_callVi (c_X7_isFlat G ex _ code tps pts lns wds brs ors stp hasP fld (nI (X7_layField_p76_10 fd)) told rws cms cmT cmS isN trs lm (X7_maskOf_v (nI a) (nI b) (nI c)) (by omega) rfl h82) gX7_layWants_X7_isFlat rfl dX7_layWants_131 rfl rfl rfl okk_X7_isFlat (Nat.le_of_ble_eq_true rfl) rfl rfl ⟨Nat.le_of_ble_eq_true rfl, Nat.le_of_ble_eq_true rfl⟩ ⟨Nat.le_of_ble_eq_true rfl, Nat.le_of_ble_eq_true rfl⟩ (Nat.le_of_ble_eq_true rfl) ?_
                  refine z_if_eq (tgt := 141) dX7_layWants_134 rfl (by decide) (fun c134 => ?_) (fun c134 => ?_)
                  · refine z_iload dX7_layWants_141 rfl rfl ?_
                    refine z_iastN (j := ((100 * a) + (10 * b)) + c) dX7_layWants_143 rfl (Nat.le_of_ble_eq_true rfl) rfl ((zq_add (zq_add (zq_mul rfl rfl) (zq_mul rfl rfl)) rfl)) (by omega) (by decide) ?_
                    refine z_n (L' := [(76, (oMod G code (nI tps) (nI pts) (nI lns) (nI wds) (nI brs) (nI ors) stp hasP fld (nI (X7_layField_p76_10 fd)) told (nI rws) cms (nI cmT) cmS isN (nI trs))), (92, (zI G 183 (X7_layField_c92 laid fs sc th fd))), (93, (zI G 183 (X7_layField_c93 laid fs sc th fd))), (94, (zI G 183 (X7_layField_c94 laid fs sc th fd))), (95, (zI G 1000 (upd wn3 (((100 * a) + (10 * b)) + c) (nI 0))))]) rfl ?_
                    refine z_iinc_4 (v := nI (c + 1)) dX7_layWants_144 rfl (zinc _) ?_
                    refine z_goto (tgt := 32) dX7_layWants_147 (by decide) ?_
                    have K9 := K
                    try simp only [X7_layWants_L32_F, if_pos c62, if_pos c73, if_pos c134] at K9
                    exact K9 _ _ _
                  · refine z_iconst (v := nI 1) dX7_layWants_137 rfl (by decide) ?_
                    refine z_goto (tgt := 143) dX7_layWants_138 (by decide) ?_
                    refine z_iastN (j := ((100 * a) + (10 * b)) + c) dX7_layWants_143 rfl (Nat.le_of_ble_eq_true rfl) rfl ((zq_add (zq_add (zq_mul rfl rfl) (zq_mul rfl rfl)) rfl)) (by omega) (by decide) ?_
                    refine z_n (L' := [(76, (oMod G code (nI tps) (nI pts) (nI lns) (nI wds) (nI brs) (nI ors) stp hasP fld (nI (X7_layField_p76_10 fd)) told (nI rws) cms (nI cmT) cmS isN (nI trs))), (92, (zI G 183 (X7_layField_c92 laid fs sc th fd))), (93, (zI G 183 (X7_layField_c93 laid fs sc th fd))), (94, (zI G 183 (X7_layField_c94 laid fs sc th fd))), (95, (zI G 1000 (upd wn3 (((100 * a) + (10 * b)) + c) (nI 1))))]) rfl ?_
                    refine z_iinc_4 (v := nI (c + 1)) dX7_layWants_144 rfl (zinc _) ?_
                    refine z_goto (tgt := 32) dX7_layWants_147 (by decide) ?_
                    have K9 := K
                    try simp only [X7_layWants_L32_F, if_pos c62, if_pos c73, if_neg c134] at K9
                    exact K9 _ _ _
          · intro _ y5 y6 y7
            refine z_iload dX7_layWants_32 rfl rfl ?_
            refine z_aload_n dX7_layWants_34 rfl rfl ?_
            refine z_get dX7_layWants_35 rfl hiX7_layWants_X7 3 lkX7_layWants_143 (Nat.le_of_ble_eq_true rfl) rfl rfl (by decide) rfl ?_
            refine z_icmp_ge (tgt := 150) dX7_layWants_38 rfl (by decide) (fun c38 => ?_) (fun c38 => ?_)
            · refine z_iinc_3 (v := nI (b + 1)) dX7_layWants_150 rfl (zinc _) ?_
              refine z_goto (tgt := 19) dX7_layWants_153 (by decide) ?_
              exact K _ _ _ _
            · exact absurd (nI_le (Nat.le_refl _) (by omega)) c38
      · intro _ y4 y5 y6 y7
        refine z_iload_n dX7_layWants_19 rfl rfl ?_
        refine z_aload_n dX7_layWants_20 rfl rfl ?_
        refine z_get dX7_layWants_21 rfl hiX7_layWants_X7 3 lkX7_layWants_143 (Nat.le_of_ble_eq_true rfl) rfl rfl (by decide) rfl ?_
        refine z_icmp_ge (tgt := 156) dX7_layWants_24 rfl (by decide) (fun c24 => ?_) (fun c24 => ?_)
        · refine z_iinc_2 (v := nI (a + 1)) dX7_layWants_156 rfl (zinc _) ?_
          refine z_goto (tgt := 7) dX7_layWants_159 (by decide) ?_
          exact K _ _ _ _ _
        · exact absurd (nI_le (Nat.le_refl _) (by omega)) c24
  · intro _ y3 y4 y5 y6 y7
    refine z_iload_n dX7_layWants_7 rfl rfl ?_
    refine z_aload_n dX7_layWants_8 rfl rfl ?_
    refine z_get dX7_layWants_9 rfl hiX7_layWants_X7 3 lkX7_layWants_143 (Nat.le_of_ble_eq_true rfl) rfl rfl (by decide) rfl ?_
    refine z_icmp_ge (tgt := 162) dX7_layWants_12 rfl (by decide) (fun c12 => ?_) (fun c12 => ?_)
    · exact z_return dX7_layWants_162 rfl (Nat.le_refl _) (Nat.le_refl _) (fun _ => rfl) ⟨rfl, by simp only [X7_layWants_p76_10, X7_layWants_c92, X7_layWants_c93, X7_layWants_c94, X7_layWants_c95]⟩
    · exact absurd (nI_le (Nat.le_refl _) (by omega)) c12
abbrev mX7_found : zM := (cX7_found, 3, (some .int), RX7, wsX7_found, "found")
theorem hiX7_found_X7 : ∀ w ∈ wsX70, w ∈ wsX7_found := fun w h => List.mem_cons_of_mem _ (List.mem_append_right _ h)
theorem lkX7_found_219 : Cond.fieldLink RX7 219 "ConfigSearchModel" "field" "I" ∈ wsX7_found := by decide +kernel
theorem lkX7_found_158 : Cond.fieldLink RX7 158 "ConfigSearchModel" "hasPicture" "Z" ∈ wsX7_found := by decide +kernel
theorem lkX7_found_143 : Cond.fieldLink RX7 143 "ConfigSearchModel" "points" "I" ∈ wsX7_found := by decide +kernel
theorem lkX7_found_46 : Cond.fieldLink RX7 46 "ConfigSearchModel" "placeOf" "[I" ∈ wsX7_found := by decide +kernel
theorem lkX7_found_52 : Cond.fieldLink RX7 52 "ConfigSearchModel" "spot" "[I" ∈ wsX7_found := by decide +kernel
def X7_found_L12_F (spo : Nat → Int32) (k : Nat) (a9 : (Nat → Int32)) : (Nat → Int32) := upd a9 k (spo k)
def X7_found_n : Nat := 1
def X7_found_p76_8 : Nat := 1
def X7_found_p76_9 (f : Int32) : Int32 := f
def X7_found_c89 (pts : Nat) (po spo : Nat → Int32) : Nat → Int32 := (zfold (X7_found_L12_F spo) pts 0 po)
set_option maxRecDepth 100000 in
set_option maxHeartbeats 4000000 in
theorem c_X7_found (G : zG) (ex : Bool) (g : Nat → va_E) (code : Int32) (tps pts lns wds brs ors : Nat) (stp hasP fld laid told : Int32) (rws : Nat) (cms : Int32) (cmT : Nat) (cmS isN : Int32) (trs : Nat) (po spo : Nat → Int32) (f : Int32) (hp : pts ≤ 10) (h76 : g 76 = (oMod G code (nI tps) (nI pts) (nI lns) (nI wds) (nI brs) (nI ors) stp hasP fld laid told (nI rws) cms (nI cmT) cmS isN (nI trs))) (h89 : g 89 = (zI G 10 po)) (h91 : g 91 = (zI G 10 spo)) : zC G yX7_found wsX7_found (zrm 0 0) ex [.ref (zB G + 76), .int f] (zN, g) (fun r h => r = some (.int (nI X7_found_n)) ∧ h = (zN, zus g [(76, (oMod G code (nI tps) (nI pts) (nI lns) (nI wds) (nI brs) (nI ors) stp (nI X7_found_p76_8) (X7_found_p76_9 f) laid told (nI rws) cms (nI cmT) cmS isN (nI trs))), (89, zI G 10 (X7_found_c89 pts po spo))])) := by
  refine zC_of mX7_found (lv := [some (.ref (zB G + 76)), some (.int f), none]) rfl rfl (by decide) (by intro v hv; simp at hv; rcases hv with rfl | rfl <;> rfl) (Nat.le_of_ble_eq_true rfl) rfl ?_
  refine z_0 ?_
  refine z_heap (g' := zu (zus g []) 76 (oMod G code (nI tps) (nI pts) (nI lns) (nI wds) (nI brs) (nI ors) stp hasP fld laid told (nI rws) cms (nI cmT) cmS isN (nI trs))) (zu_self (zus g []) 76 _ h76).symm ?_
  refine z_n (L' := [(76, (oMod G code (nI tps) (nI pts) (nI lns) (nI wds) (nI brs) (nI ors) stp hasP fld laid told (nI rws) cms (nI cmT) cmS isN (nI trs)))]) rfl ?_
  refine z_heap (g' := zu (zus g [(76, (oMod G code (nI tps) (nI pts) (nI lns) (nI wds) (nI brs) (nI ors) stp hasP fld laid told (nI rws) cms (nI cmT) cmS isN (nI trs)))]) 89 (zI G 10 po)) (zu_self (zus g [(76, (oMod G code (nI tps) (nI pts) (nI lns) (nI wds) (nI brs) (nI ors) stp hasP fld laid told (nI rws) cms (nI cmT) cmS isN (nI trs)))]) 89 _ h89).symm ?_
  refine z_n (L' := [(76, (oMod G code (nI tps) (nI pts) (nI lns) (nI wds) (nI brs) (nI ors) stp hasP fld laid told (nI rws) cms (nI cmT) cmS isN (nI trs))), (89, (zI G 10 po))]) rfl ?_
  refine z_aload_n dX7_found_0 rfl rfl ?_
  refine z_iload_n dX7_found_1 rfl rfl ?_
  refine z_putN (e9 := (oMod G code (nI tps) (nI pts) (nI lns) (nI wds) (nI brs) (nI ors) stp hasP f laid told (nI rws) cms (nI cmT) cmS isN (nI trs))) tyX7 tyX7_ok nmX7 dX7_found_2 rfl hiX7_found_X7 21 lkX7_found_219 rfl (by decide +kernel) (Nat.le_of_ble_eq_true rfl) rfl rfl (by decide) (Nat.le_of_ble_eq_true rfl) rfl rfl rfl ?_
  refine z_n (L' := [(76, (oMod G code (nI tps) (nI pts) (nI lns) (nI wds) (nI brs) (nI ors) stp hasP f laid told (nI rws) cms (nI cmT) cmS isN (nI trs))), (89, (zI G 10 po))]) rfl ?_
  refine z_aload_n dX7_found_5 rfl rfl ?_
  refine z_iconst (v := nI 1) dX7_found_6 rfl (by decide) ?_
  refine z_putN (e9 := (oMod G code (nI tps) (nI pts) (nI lns) (nI wds) (nI brs) (nI ors) stp (nI 1) f laid told (nI rws) cms (nI cmT) cmS isN (nI trs))) tyX7 tyX7_ok nmX7 dX7_found_7 rfl hiX7_found_X7 20 lkX7_found_158 rfl (by decide +kernel) (Nat.le_of_ble_eq_true rfl) rfl rfl (by decide) (Nat.le_of_ble_eq_true rfl) rfl rfl rfl ?_
  refine z_n (L' := [(76, (oMod G code (nI tps) (nI pts) (nI lns) (nI wds) (nI brs) (nI ors) stp (nI 1) f laid told (nI rws) cms (nI cmT) cmS isN (nI trs))), (89, (zI G 10 po))]) rfl ?_
  refine z_iconst (v := nI 0) dX7_found_10 rfl (by decide) ?_
  refine z_istore_2 dX7_found_11 rfl ?_
  refine z_forI (head := fun k (st9 : (Nat → Int32)) => Z G mX7_found (zrm 0 0) ex _ 12 [some (.ref (zB G + 76)), some (.int f), some (.int (nI k))] [] (zN, zus g [(76, (oMod G code (nI tps) (nI pts) (nI lns) (nI wds) (nI brs) (nI ors) stp (nI 1) f laid told (nI rws) cms (nI cmT) cmS isN (nI trs))), (89, (zI G 10 st9))]) 0 0) (F := (X7_found_L12_F spo)) (n := pts) (fun _ _ => True) (fun _ _ _ _ => trivial) ?_ pts 0 po (by omega) trivial ?_
  · intro k po1 hi _ K
    refine z_iload_n dX7_found_12 rfl rfl ?_
    refine z_aload_n dX7_found_13 rfl rfl ?_
    refine z_get dX7_found_14 rfl hiX7_found_X7 3 lkX7_found_143 (Nat.le_of_ble_eq_true rfl) rfl rfl (by decide) rfl ?_
    refine z_icmp_ge (tgt := 38) dX7_found_17 rfl (by decide) (fun c17 => ?_) (fun c17 => ?_)
    · exact absurd c17 (nI_ge hi (by omega))
    · refine z_aload_n dX7_found_20 rfl rfl ?_
      refine z_get dX7_found_21 rfl hiX7_found_X7 22 lkX7_found_46 (Nat.le_of_ble_eq_true rfl) rfl rfl (by decide) rfl ?_
      refine z_iload_n dX7_found_24 rfl rfl ?_
      refine z_aload_n dX7_found_25 rfl rfl ?_
      refine z_get dX7_found_26 rfl hiX7_found_X7 24 lkX7_found_52 (Nat.le_of_ble_eq_true rfl) rfl rfl (by decide) rfl ?_
      refine z_iload_n dX7_found_29 rfl rfl ?_
      refine z_ialdN (j := k) dX7_found_30 rfl (Nat.le_of_ble_eq_true rfl) h91 (rfl) (by omega) (by decide) ?_
      refine z_iastN (j := k) dX7_found_31 rfl (Nat.le_of_ble_eq_true rfl) rfl (rfl) (by omega) (by decide) ?_
      refine z_n (L' := [(76, (oMod G code (nI tps) (nI pts) (nI lns) (nI wds) (nI brs) (nI ors) stp (nI 1) f laid told (nI rws) cms (nI cmT) cmS isN (nI trs))), (89, (zI G 10 (upd po1 k (spo k))))]) rfl ?_
      refine z_iinc_2 (v := nI (k + 1)) dX7_found_32 rfl (zinc _) ?_
      refine z_goto (tgt := 12) dX7_found_35 (by decide) ?_
      exact K
  · intro _
    refine z_iload_n dX7_found_12 rfl rfl ?_
    refine z_aload_n dX7_found_13 rfl rfl ?_
    refine z_get dX7_found_14 rfl hiX7_found_X7 3 lkX7_found_143 (Nat.le_of_ble_eq_true rfl) rfl rfl (by decide) rfl ?_
    refine z_icmp_ge (tgt := 38) dX7_found_17 rfl (by decide) (fun c17 => ?_) (fun c17 => ?_)
    · refine z_iconst (v := nI 1) dX7_found_38 rfl (by decide) ?_
      exact z_ireturn dX7_found_39 rfl rfl (Nat.le_refl _) (Nat.le_refl _) (fun _ => rfl) ⟨by simp only [X7_found_n], by simp only [X7_found_p76_8, X7_found_p76_9, X7_found_c89]⟩
    · exact absurd (nI_le (Nat.le_refl _) (by omega)) c17
abbrev mX7_count : zM := (cX7_count, 2, (some .int), RX7, wsX7_count, "count")
theorem hiX7_count_X7 : ∀ w ∈ wsX70, w ∈ wsX7_count := fun w h => List.mem_cons_of_mem _ (List.mem_append_right _ h)
theorem lkX7_count_122 : Cond.fieldLink RX7 122 "ConfigSearchModel" "code" "I" ∈ wsX7_count := by decide +kernel
theorem lkX7_count_143 : Cond.fieldLink RX7 143 "ConfigSearchModel" "points" "I" ∈ wsX7_count := by decide +kernel
theorem lkX7_count_146 : Cond.fieldLink RX7 146 "ConfigSearchModel" "lines" "I" ∈ wsX7_count := by decide +kernel
theorem lkX7_count_149 : Cond.fieldLink RX7 149 "ConfigSearchModel" "bars" "I" ∈ wsX7_count := by decide +kernel
theorem lkX7_count_152 : Cond.fieldLink RX7 152 "ConfigSearchModel" "orients" "I" ∈ wsX7_count := by decide +kernel
theorem lkX7_count_155 : Cond.fieldLink RX7 155 "ConfigSearchModel" "rows" "I" ∈ wsX7_count := by decide +kernel
theorem lkX7_count_165 : Cond.fieldLink RX7 165 "ConfigSearchModel" "steps" "I" ∈ wsX7_count := by decide +kernel
theorem lkX7_count_129 : Cond.fieldLink RX7 129 "ConfigSearchModel" "tapeSize" "I" ∈ wsX7_count := by decide +kernel
theorem lkX7_count_119 : Cond.fieldLink RX7 119 "ConfigSearchModel" "told" "I" ∈ wsX7_count := by decide +kernel
def X7_count_v (tps pts lns brs ors : Nat) (stp told : Int32) (rws : Nat) (w : Int32) : Int32 := if w = nI 0 then (nI pts) else (if w = nI 1 then (nI lns) else (if w = nI 2 then (nI brs) else (if w = nI 3 then (nI ors) else (if w = nI 4 then (nI rws) else (if w = nI 5 then stp else (if w = nI 6 then (nI tps) else (if w = nI 7 then told else (-9))))))))
def X7_count_p76_0 (w : Int32) : Nat := if w = nI 0 then 0 else (if w = nI 1 then 0 else (if w = nI 2 then 0 else (if w = nI 3 then 0 else (if w = nI 4 then 0 else (if w = nI 5 then 0 else (if w = nI 6 then 0 else (if w = nI 7 then 0 else 0)))))))
set_option maxRecDepth 100000 in
set_option maxHeartbeats 4000000 in
theorem c_X7_count (G : zG) (ex : Bool) (g : Nat → va_E) (code : Int32) (tps pts lns wds brs ors : Nat) (stp hasP fld laid told : Int32) (rws : Nat) (cms : Int32) (cmT : Nat) (cmS isN : Int32) (trs : Nat) (w : Int32)  (h76 : g 76 = (oMod G code (nI tps) (nI pts) (nI lns) (nI wds) (nI brs) (nI ors) stp hasP fld laid told (nI rws) cms (nI cmT) cmS isN (nI trs))) : zC G yX7_count wsX7_count (zrm 0 0) ex [.ref (zB G + 76), .int w] (zN, g) (fun r h => r = some (.int (X7_count_v tps pts lns brs ors stp told rws w)) ∧ h = (zN, zus g [(76, (oMod G (nI (X7_count_p76_0 w)) (nI tps) (nI pts) (nI lns) (nI wds) (nI brs) (nI ors) stp hasP fld laid told (nI rws) cms (nI cmT) cmS isN (nI trs)))])) := by
  refine zC_of mX7_count (lv := [some (.ref (zB G + 76)), some (.int w)]) rfl rfl (by decide) (by intro v hv; simp at hv; rcases hv with rfl | rfl <;> rfl) (Nat.le_of_ble_eq_true rfl) rfl ?_
  refine z_0 ?_
  refine z_heap (g' := zu (zus g []) 76 (oMod G code (nI tps) (nI pts) (nI lns) (nI wds) (nI brs) (nI ors) stp hasP fld laid told (nI rws) cms (nI cmT) cmS isN (nI trs))) (zu_self (zus g []) 76 _ h76).symm ?_
  refine z_n (L' := [(76, (oMod G code (nI tps) (nI pts) (nI lns) (nI wds) (nI brs) (nI ors) stp hasP fld laid told (nI rws) cms (nI cmT) cmS isN (nI trs)))]) rfl ?_
  refine z_aload_n dX7_count_0 rfl rfl ?_
  refine z_iconst (v := nI 0) dX7_count_1 rfl (by decide) ?_
  refine z_putN (e9 := (oMod G (nI 0) (nI tps) (nI pts) (nI lns) (nI wds) (nI brs) (nI ors) stp hasP fld laid told (nI rws) cms (nI cmT) cmS isN (nI trs))) tyX7 tyX7_ok nmX7 dX7_count_2 rfl hiX7_count_X7 0 lkX7_count_122 rfl (by decide +kernel) (Nat.le_of_ble_eq_true rfl) rfl rfl (by decide) (Nat.le_of_ble_eq_true rfl) rfl rfl rfl ?_
  refine z_n (L' := [(76, (oMod G (nI 0) (nI tps) (nI pts) (nI lns) (nI wds) (nI brs) (nI ors) stp hasP fld laid told (nI rws) cms (nI cmT) cmS isN (nI trs)))]) rfl ?_
  refine z_iload_n dX7_count_5 rfl rfl ?_
  by_cases q6_0 : w = nI 0
  · refine z_tableIn (off := 46) (tgt := 52) dX7_count_6 (by rw [q6_0]; decide) (by rw [q6_0]; decide) (by rw [q6_0]; decide) (by decide) ?_
    refine z_aload_n dX7_count_52 rfl rfl ?_
    refine z_get dX7_count_53 rfl hiX7_count_X7 3 lkX7_count_143 (Nat.le_of_ble_eq_true rfl) rfl rfl (by decide) rfl ?_
    exact z_ireturn dX7_count_56 rfl rfl (Nat.le_refl _) (Nat.le_refl _) (fun _ => rfl) ⟨by simp only [X7_count_v, if_pos q6_0], by simp only [X7_count_p76_0, if_pos q6_0]⟩
  · by_cases q6_1 : w = nI 1
    · refine z_tableIn (off := 51) (tgt := 57) dX7_count_6 (by rw [q6_1]; decide) (by rw [q6_1]; decide) (by rw [q6_1]; decide) (by decide) ?_
      refine z_aload_n dX7_count_57 rfl rfl ?_
      refine z_get dX7_count_58 rfl hiX7_count_X7 4 lkX7_count_146 (Nat.le_of_ble_eq_true rfl) rfl rfl (by decide) rfl ?_
      exact z_ireturn dX7_count_61 rfl rfl (Nat.le_refl _) (Nat.le_refl _) (fun _ => rfl) ⟨by simp only [X7_count_v, if_neg q6_0, if_pos q6_1], by simp only [X7_count_p76_0, if_neg q6_0, if_pos q6_1]⟩
    · by_cases q6_2 : w = nI 2
      · refine z_tableIn (off := 56) (tgt := 62) dX7_count_6 (by rw [q6_2]; decide) (by rw [q6_2]; decide) (by rw [q6_2]; decide) (by decide) ?_
        refine z_aload_n dX7_count_62 rfl rfl ?_
        refine z_get dX7_count_63 rfl hiX7_count_X7 14 lkX7_count_149 (Nat.le_of_ble_eq_true rfl) rfl rfl (by decide) rfl ?_
        exact z_ireturn dX7_count_66 rfl rfl (Nat.le_refl _) (Nat.le_refl _) (fun _ => rfl) ⟨by simp only [X7_count_v, if_neg q6_0, if_neg q6_1, if_pos q6_2], by simp only [X7_count_p76_0, if_neg q6_0, if_neg q6_1, if_pos q6_2]⟩
      · by_cases q6_3 : w = nI 3
        · refine z_tableIn (off := 61) (tgt := 67) dX7_count_6 (by rw [q6_3]; decide) (by rw [q6_3]; decide) (by rw [q6_3]; decide) (by decide) ?_
          refine z_aload_n dX7_count_67 rfl rfl ?_
          refine z_get dX7_count_68 rfl hiX7_count_X7 16 lkX7_count_152 (Nat.le_of_ble_eq_true rfl) rfl rfl (by decide) rfl ?_
          exact z_ireturn dX7_count_71 rfl rfl (Nat.le_refl _) (Nat.le_refl _) (fun _ => rfl) ⟨by simp only [X7_count_v, if_neg q6_0, if_neg q6_1, if_neg q6_2, if_pos q6_3], by simp only [X7_count_p76_0, if_neg q6_0, if_neg q6_1, if_neg q6_2, if_pos q6_3]⟩
        · by_cases q6_4 : w = nI 4
          · refine z_tableIn (off := 66) (tgt := 72) dX7_count_6 (by rw [q6_4]; decide) (by rw [q6_4]; decide) (by rw [q6_4]; decide) (by decide) ?_
            refine z_aload_n dX7_count_72 rfl rfl ?_
            refine z_get dX7_count_73 rfl hiX7_count_X7 32 lkX7_count_155 (Nat.le_of_ble_eq_true rfl) rfl rfl (by decide) rfl ?_
            exact z_ireturn dX7_count_76 rfl rfl (Nat.le_refl _) (Nat.le_refl _) (fun _ => rfl) ⟨by simp only [X7_count_v, if_neg q6_0, if_neg q6_1, if_neg q6_2, if_neg q6_3, if_pos q6_4], by simp only [X7_count_p76_0, if_neg q6_0, if_neg q6_1, if_neg q6_2, if_neg q6_3, if_pos q6_4]⟩
          · by_cases q6_5 : w = nI 5
            · refine z_tableIn (off := 71) (tgt := 77) dX7_count_6 (by rw [q6_5]; decide) (by rw [q6_5]; decide) (by rw [q6_5]; decide) (by decide) ?_
              refine z_aload_n dX7_count_77 rfl rfl ?_
              refine z_get dX7_count_78 rfl hiX7_count_X7 19 lkX7_count_165 (Nat.le_of_ble_eq_true rfl) rfl rfl (by decide) rfl ?_
              exact z_ireturn dX7_count_81 rfl rfl (Nat.le_refl _) (Nat.le_refl _) (fun _ => rfl) ⟨by simp only [X7_count_v, if_neg q6_0, if_neg q6_1, if_neg q6_2, if_neg q6_3, if_neg q6_4, if_pos q6_5], by simp only [X7_count_p76_0, if_neg q6_0, if_neg q6_1, if_neg q6_2, if_neg q6_3, if_neg q6_4, if_pos q6_5]⟩
            · by_cases q6_6 : w = nI 6
              · refine z_tableIn (off := 76) (tgt := 82) dX7_count_6 (by rw [q6_6]; decide) (by rw [q6_6]; decide) (by rw [q6_6]; decide) (by decide) ?_
                refine z_aload_n dX7_count_82 rfl rfl ?_
                refine z_get dX7_count_83 rfl hiX7_count_X7 2 lkX7_count_129 (Nat.le_of_ble_eq_true rfl) rfl rfl (by decide) rfl ?_
                exact z_ireturn dX7_count_86 rfl rfl (Nat.le_refl _) (Nat.le_refl _) (fun _ => rfl) ⟨by simp only [X7_count_v, if_neg q6_0, if_neg q6_1, if_neg q6_2, if_neg q6_3, if_neg q6_4, if_neg q6_5, if_pos q6_6], by simp only [X7_count_p76_0, if_neg q6_0, if_neg q6_1, if_neg q6_2, if_neg q6_3, if_neg q6_4, if_neg q6_5, if_pos q6_6]⟩
              · by_cases q6_7 : w = nI 7
                · refine z_tableIn (off := 81) (tgt := 87) dX7_count_6 (by rw [q6_7]; decide) (by rw [q6_7]; decide) (by rw [q6_7]; decide) (by decide) ?_
                  refine z_aload_n dX7_count_87 rfl rfl ?_
                  refine z_get dX7_count_88 rfl hiX7_count_X7 31 lkX7_count_119 (Nat.le_of_ble_eq_true rfl) rfl rfl (by decide) rfl ?_
                  exact z_ireturn dX7_count_91 rfl rfl (Nat.le_refl _) (Nat.le_refl _) (fun _ => rfl) ⟨by simp only [X7_count_v, if_neg q6_0, if_neg q6_1, if_neg q6_2, if_neg q6_3, if_neg q6_4, if_neg q6_5, if_neg q6_6, if_pos q6_7], by simp only [X7_count_p76_0, if_neg q6_0, if_neg q6_1, if_neg q6_2, if_neg q6_3, if_neg q6_4, if_neg q6_5, if_neg q6_6, if_pos q6_7]⟩
                · refine z_tableOut (tgt := 92) dX7_count_6 (by
                    refine zsw_out (n := 7) ?_
                    intro k hk
                    rcases (show k = 0 ∨ k = 1 ∨ k = 2 ∨ k = 3 ∨ k = 4 ∨ k = 5 ∨ k = 6 ∨ k = 7 by omega) with rfl | rfl | rfl | rfl | rfl | rfl | rfl | rfl
                    · exact q6_0
                    · exact q6_1
                    · exact q6_2
                    · exact q6_3
                    · exact q6_4
                    · exact q6_5
                    · exact q6_6
                    · exact q6_7) (by decide) ?_
                  refine z_bipush (v := (-9)) dX7_count_92 rfl (by decide) ?_
                  exact z_ireturn dX7_count_94 rfl rfl (Nat.le_refl _) (Nat.le_refl _) (fun _ => rfl) ⟨by simp only [X7_count_v, if_neg q6_0, if_neg q6_1, if_neg q6_2, if_neg q6_3, if_neg q6_4, if_neg q6_5, if_neg q6_6, if_neg q6_7], by simp only [X7_count_p76_0, if_neg q6_0, if_neg q6_1, if_neg q6_2, if_neg q6_3, if_neg q6_4, if_neg q6_5, if_neg q6_6, if_neg q6_7]⟩
