theorem zlt_in9 {x : Int32} {n : Nat} (h0 : ¬ x < 0) (h : ¬ nI n ≤ x) (hn : n < 2147483648) : vp_in x n := fun q => by
  rcases q with q | q
  · exact h0 q
  · refine h ?_
    rw [zge9 h0]
    exact nI_le q (by have := Int32.toNatClampNeg_lt x; omega)
abbrev mX7_line : zM := (cX7_line, 5, (some .int), RX7, wsX7_line, "line")
theorem hiX7_line_X7 : ∀ w ∈ wsX70, w ∈ wsX7_line := fun w h => List.mem_cons_of_mem _ (List.mem_append_right _ h)
theorem lkX7_line_122 : Cond.fieldLink RX7 122 "ConfigSearchModel" "code" "I" ∈ wsX7_line := by decide +kernel
theorem lkX7_line_146 : Cond.fieldLink RX7 146 "ConfigSearchModel" "lines" "I" ∈ wsX7_line := by decide +kernel
theorem lkX7_line_19 : Cond.fieldLink RX7 19 "ConfigSearchModel" "lineSize" "[I" ∈ wsX7_line := by decide +kernel
theorem lkX7_line_22 : Cond.fieldLink RX7 22 "ConfigSearchModel" "linePoint" "[I" ∈ wsX7_line := by decide +kernel
theorem lkX7_line_13 : Cond.fieldLink RX7 13 "ConfigSearchModel" "letterOf" "[I" ∈ wsX7_line := by decide +kernel
def X7_line_v (lns : Nat) (ls lp lo : Nat → Int32) (l i z : Int32) : Int32 := if (X7_isIn_v l (nI 0) ((nI lns) - (nI 1))) = 0 then (-9) else (if 0 ≤ i then (if i < (ls l.toNatClampNeg) then (if z = 0 then (lp ((5 * l.toNatClampNeg) + i.toNatClampNeg)) else (lo (lp ((5 * l.toNatClampNeg) + i.toNatClampNeg)).toNatClampNeg)) else (-4)) else (-9))
def X7_line_p76_0 (lns : Nat) (ls : Nat → Int32) (l i z : Int32) : Nat := if (X7_isIn_v l (nI 0) ((nI lns) - (nI 1))) = 0 then 0 else (if 0 ≤ i then (if i < (ls l.toNatClampNeg) then (if z = 0 then 0 else 0) else 0) else 0)
set_option maxRecDepth 100000 in
set_option maxHeartbeats 4000000 in
theorem c_X7_line (G : zG) (ex : Bool) (g : Nat → va_E) (code : Int32) (tps pts lns wds brs ors : Nat) (stp hasP fld laid told : Int32) (rws : Nat) (cms : Int32) (cmT : Nat) (cmS isN : Int32) (trs : Nat) (ls lp lo : Nat → Int32) (l i z : Int32) (hl : lns ≤ 12) (hls : ∀ l, l < lns → vp_in (ls l) 6) (hlp : ∀ l, l < lns → ∀ j, j < (ls l).toNatClampNeg → vp_in (lp (5 * l + j)) 10) (h76 : g 76 = (oMod G code (nI tps) (nI pts) (nI lns) (nI wds) (nI brs) (nI ors) stp hasP fld laid told (nI rws) cms (nI cmT) cmS isN (nI trs))) (h80 : g 80 = (zI G 12 ls)) (h81 : g 81 = (zI G 60 lp)) (h78 : g 78 = (zI G 10 lo)) : zC G yX7_line wsX7_line (zrm 1 22) ex [.ref (zB G + 76), .int l, .int i, .int z] (zN, g) (fun r h => r = some (.int (X7_line_v lns ls lp lo l i z)) ∧ h = (zN, zus g [(76, (oMod G (nI (X7_line_p76_0 lns ls l i z)) (nI tps) (nI pts) (nI lns) (nI wds) (nI brs) (nI ors) stp hasP fld laid told (nI rws) cms (nI cmT) cmS isN (nI trs)))])) := by
  refine zC_of mX7_line (lv := [some (.ref (zB G + 76)), some (.int l), some (.int i), some (.int z), none]) rfl rfl (by decide) (by intro v hv; simp at hv; rcases hv with rfl | rfl | rfl | rfl <;> rfl) (Nat.le_of_ble_eq_true rfl) rfl ?_
  refine z_0 ?_
  refine z_heap (g' := zu (zus g []) 76 (oMod G code (nI tps) (nI pts) (nI lns) (nI wds) (nI brs) (nI ors) stp hasP fld laid told (nI rws) cms (nI cmT) cmS isN (nI trs))) (zu_self (zus g []) 76 _ h76).symm ?_
  refine z_n (L' := [(76, (oMod G code (nI tps) (nI pts) (nI lns) (nI wds) (nI brs) (nI ors) stp hasP fld laid told (nI rws) cms (nI cmT) cmS isN (nI trs)))]) rfl ?_
  refine z_aload_n dX7_line_0 rfl rfl ?_
  refine z_iconst (v := nI 0) dX7_line_1 rfl (by decide) ?_
  refine z_putN (e9 := (oMod G (nI 0) (nI tps) (nI pts) (nI lns) (nI wds) (nI brs) (nI ors) stp hasP fld laid told (nI rws) cms (nI cmT) cmS isN (nI trs))) tyX7 tyX7_ok nmX7 dX7_line_2 rfl hiX7_line_X7 0 lkX7_line_122 rfl (by decide +kernel) (Nat.le_of_ble_eq_true rfl) rfl rfl (by decide) (Nat.le_of_ble_eq_true rfl) rfl rfl rfl ?_
  refine z_n (L' := [(76, (oMod G (nI 0) (nI tps) (nI pts) (nI lns) (nI wds) (nI brs) (nI ors) stp hasP fld laid told (nI rws) cms (nI cmT) cmS isN (nI trs)))]) rfl ?_
  refine z_iload_n dX7_line_5 rfl rfl ?_
  refine z_iconst (v := nI 0) dX7_line_6 rfl (by decide) ?_
  refine z_aload_n dX7_line_7 rfl rfl ?_
  refine z_get dX7_line_8 rfl hiX7_line_X7 4 lkX7_line_146 (Nat.le_of_ble_eq_true rfl) rfl rfl (by decide) rfl ?_
  refine z_iconst (v := nI 1) dX7_line_11 rfl (by decide) ?_
  refine z_isub dX7_line_12 rfl ?_
  refine z_callSi (c_X7_isIn G ex _ l (nI 0) ((nI lns) - (nI 1))) gX7_line_X7_isIn rfl dX7_line_13 rfl rfl okk_X7_isIn ⟨Nat.le_of_ble_eq_true rfl, Nat.le_of_ble_eq_true rfl⟩ ⟨Nat.le_of_ble_eq_true rfl, Nat.le_of_ble_eq_true rfl⟩ (Nat.le_of_ble_eq_true rfl) ?_
  refine z_if_eq (tgt := 23) dX7_line_16 rfl (by decide) (fun c16 => ?_) (fun c16 => ?_)
  · refine z_bipush (v := (-9)) dX7_line_23 rfl (by decide) ?_
    exact z_ireturn dX7_line_25 rfl rfl (Nat.le_refl _) (Nat.le_refl _) (fun _ => rfl) ⟨by simp only [X7_line_v, if_pos c16], by simp only [X7_line_p76_0, if_pos c16]⟩
  · refine z_iload_n dX7_line_19 rfl rfl ?_
    refine z_if_ge (tgt := 26) dX7_line_20 rfl (by decide) (fun c20 => ?_) (fun c20 => ?_)
    · have hvl : vp_in l lns := isIn_in c16 (by omega)
      have hll := zvlt hvl
      refine z_lv (congrArg (fun z9 : Int32 => ([some (.ref (zB G + 76)), some (.int z9), some (.int i), some (.int z), none] : List (Option Value))) (show l = (nI l.toNatClampNeg) from zvin hvl)) ?_
      refine z_iload_n dX7_line_26 rfl rfl ?_
      refine z_aload_n dX7_line_27 rfl rfl ?_
      refine z_get dX7_line_28 rfl hiX7_line_X7 7 lkX7_line_19 (Nat.le_of_ble_eq_true rfl) rfl rfl (by decide) rfl ?_
      refine z_iload_n dX7_line_31 rfl rfl ?_
      refine z_ialdN (j := l.toNatClampNeg) dX7_line_32 rfl (Nat.le_of_ble_eq_true rfl) h80 (rfl) (by omega) (by decide) ?_
      refine z_icmp_lt (tgt := 39) dX7_line_33 rfl (by decide) (fun c33 => ?_) (fun c33 => ?_)
      · have hsi := hls _ hll
        have hs6 := zvlt hsi
        have hvi : vp_in i ((ls l.toNatClampNeg).toNatClampNeg) := zlt_in9 (Int32.not_lt.mpr c20) (fun q => absurd c33 (Int32.not_lt.mpr (by rw [zvin hsi]; exact q))) (by omega)
        have hii := zvlt hvi
        refine z_lv (congrArg (fun z9 : Int32 => ([some (.ref (zB G + 76)), some (.int (nI l.toNatClampNeg)), some (.int z9), some (.int z), none] : List (Option Value))) (show i = (nI i.toNatClampNeg) from zvin hvi)) ?_
        refine z_aload_n dX7_line_39 rfl rfl ?_
        refine z_get dX7_line_40 rfl hiX7_line_X7 8 lkX7_line_22 (Nat.le_of_ble_eq_true rfl) rfl rfl (by decide) rfl ?_
        refine z_iconst (v := nI 5) dX7_line_43 rfl (by decide) ?_
        refine z_iload_n dX7_line_44 rfl rfl ?_
        refine z_imul dX7_line_45 rfl ?_
        refine z_iload_n dX7_line_46 rfl rfl ?_
        refine z_iadd dX7_line_47 rfl ?_
        refine z_ialdN (j := (5 * l.toNatClampNeg) + i.toNatClampNeg) dX7_line_48 rfl (Nat.le_of_ble_eq_true rfl) h81 ((zq_add (zq_mul rfl rfl) rfl)) (by omega) (by decide) ?_
        refine z_istore_4 dX7_line_49 rfl ?_
        refine z_iload_n dX7_line_51 rfl rfl ?_
        refine z_if_eq (tgt := 65) dX7_line_52 rfl (by decide) (fun c52 => ?_) (fun c52 => ?_)
        · refine z_iload dX7_line_65 rfl rfl ?_
          exact z_ireturn dX7_line_67 rfl rfl (Nat.le_refl _) (Nat.le_refl _) (fun _ => rfl) ⟨by simp only [X7_line_v, if_neg c16, if_pos c20, if_pos c33, if_pos c52], by simp only [X7_line_p76_0, if_neg c16, if_pos c20, if_pos c33, if_pos c52]⟩
        · refine z_aload_n dX7_line_55 rfl rfl ?_
          refine z_get dX7_line_56 rfl hiX7_line_X7 5 lkX7_line_13 (Nat.le_of_ble_eq_true rfl) rfl rfl (by decide) rfl ?_
          refine z_iload dX7_line_59 rfl rfl ?_
          refine z_iald dX7_line_61 rfl (Nat.le_of_ble_eq_true rfl) h78 (hlp _ hll _ hii) ?_
          refine z_goto (tgt := 67) dX7_line_62 (by decide) ?_
          exact z_ireturn dX7_line_67 rfl rfl (Nat.le_refl _) (Nat.le_refl _) (fun _ => rfl) ⟨by simp only [X7_line_v, if_neg c16, if_pos c20, if_pos c33, if_neg c52], by simp only [X7_line_p76_0, if_neg c16, if_pos c20, if_pos c33, if_neg c52]⟩
      · refine z_bipush (v := (-4)) dX7_line_36 rfl (by decide) ?_
        exact z_ireturn dX7_line_38 rfl rfl (Nat.le_refl _) (Nat.le_refl _) (fun _ => rfl) ⟨by simp only [X7_line_v, if_neg c16, if_pos c20, if_neg c33], by simp only [X7_line_p76_0, if_neg c16, if_pos c20, if_neg c33]⟩
    · refine z_bipush (v := (-9)) dX7_line_23 rfl (by decide) ?_
      exact z_ireturn dX7_line_25 rfl rfl (Nat.le_refl _) (Nat.le_refl _) (fun _ => rfl) ⟨by simp only [X7_line_v, if_neg c16, if_neg c20], by simp only [X7_line_p76_0, if_neg c16, if_neg c20]⟩
abbrev mX7_coordinate : zM := (cX7_coordinate, 3, (some .int), RX7, wsX7_coordinate, "coordinate")
theorem hiX7_coordinate_X7 : ∀ w ∈ wsX70, w ∈ wsX7_coordinate := fun w h => List.mem_cons_of_mem _ (List.mem_append_right _ h)
theorem lkX7_coordinate_122 : Cond.fieldLink RX7 122 "ConfigSearchModel" "code" "I" ∈ wsX7_coordinate := by decide +kernel
theorem lkX7_coordinate_143 : Cond.fieldLink RX7 143 "ConfigSearchModel" "points" "I" ∈ wsX7_coordinate := by decide +kernel
theorem lkX7_coordinate_158 : Cond.fieldLink RX7 158 "ConfigSearchModel" "hasPicture" "Z" ∈ wsX7_coordinate := by decide +kernel
theorem lkX7_coordinate_219 : Cond.fieldLink RX7 219 "ConfigSearchModel" "field" "I" ∈ wsX7_coordinate := by decide +kernel
theorem lkX7_coordinate_46 : Cond.fieldLink RX7 46 "ConfigSearchModel" "placeOf" "[I" ∈ wsX7_coordinate := by decide +kernel
def X7_coordinate_v (pts : Nat) (hasP fld : Int32) (po : Nat → Int32) (p i : Int32) : Int32 := if (X7_isIn_v p (nI 0) ((nI pts) - (nI 1))) = 0 then (-9) else (if (X7_isIn_v i (nI 0) (nI 3)) = 0 then (-9) else (if hasP = 0 then (-2) else (if i = (nI 3) then (po p.toNatClampNeg) else (X7_part_v fld (po p.toNatClampNeg) i))))
def X7_coordinate_p76_0 (pts : Nat) (hasP : Int32) (p i : Int32) : Nat := if (X7_isIn_v p (nI 0) ((nI pts) - (nI 1))) = 0 then 0 else (if (X7_isIn_v i (nI 0) (nI 3)) = 0 then 0 else (if hasP = 0 then 0 else (if i = (nI 3) then 0 else 0)))
set_option maxRecDepth 100000 in
set_option maxHeartbeats 4000000 in
theorem c_X7_coordinate (G : zG) (ex : Bool) (g : Nat → va_E) (code : Int32) (tps pts lns wds brs ors : Nat) (stp hasP fld laid told : Int32) (rws : Nat) (cms : Int32) (cmT : Nat) (cmS isN : Int32) (trs : Nat) (po : Nat → Int32) (p i : Int32) (hp : pts ≤ 10) (h76 : g 76 = (oMod G code (nI tps) (nI pts) (nI lns) (nI wds) (nI brs) (nI ors) stp hasP fld laid told (nI rws) cms (nI cmT) cmS isN (nI trs))) (h89 : g 89 = (zI G 10 po)) : zC G yX7_coordinate wsX7_coordinate (zrm 1 22) ex [.ref (zB G + 76), .int p, .int i] (zN, g) (fun r h => r = some (.int (X7_coordinate_v pts hasP fld po p i)) ∧ h = (zN, zus g [(76, (oMod G (nI (X7_coordinate_p76_0 pts hasP p i)) (nI tps) (nI pts) (nI lns) (nI wds) (nI brs) (nI ors) stp hasP fld laid told (nI rws) cms (nI cmT) cmS isN (nI trs)))])) := by
  refine zC_of mX7_coordinate (lv := [some (.ref (zB G + 76)), some (.int p), some (.int i)]) rfl rfl (by decide) (by intro v hv; simp at hv; rcases hv with rfl | rfl | rfl <;> rfl) (Nat.le_of_ble_eq_true rfl) rfl ?_
  refine z_0 ?_
  refine z_heap (g' := zu (zus g []) 76 (oMod G code (nI tps) (nI pts) (nI lns) (nI wds) (nI brs) (nI ors) stp hasP fld laid told (nI rws) cms (nI cmT) cmS isN (nI trs))) (zu_self (zus g []) 76 _ h76).symm ?_
  refine z_n (L' := [(76, (oMod G code (nI tps) (nI pts) (nI lns) (nI wds) (nI brs) (nI ors) stp hasP fld laid told (nI rws) cms (nI cmT) cmS isN (nI trs)))]) rfl ?_
  refine z_aload_n dX7_coordinate_0 rfl rfl ?_
  refine z_iconst (v := nI 0) dX7_coordinate_1 rfl (by decide) ?_
  refine z_putN (e9 := (oMod G (nI 0) (nI tps) (nI pts) (nI lns) (nI wds) (nI brs) (nI ors) stp hasP fld laid told (nI rws) cms (nI cmT) cmS isN (nI trs))) tyX7 tyX7_ok nmX7 dX7_coordinate_2 rfl hiX7_coordinate_X7 0 lkX7_coordinate_122 rfl (by decide +kernel) (Nat.le_of_ble_eq_true rfl) rfl rfl (by decide) (Nat.le_of_ble_eq_true rfl) rfl rfl rfl ?_
  refine z_n (L' := [(76, (oMod G (nI 0) (nI tps) (nI pts) (nI lns) (nI wds) (nI brs) (nI ors) stp hasP fld laid told (nI rws) cms (nI cmT) cmS isN (nI trs)))]) rfl ?_
  refine z_iload_n dX7_coordinate_5 rfl rfl ?_
  refine z_iconst (v := nI 0) dX7_coordinate_6 rfl (by decide) ?_
  refine z_aload_n dX7_coordinate_7 rfl rfl ?_
  refine z_get dX7_coordinate_8 rfl hiX7_coordinate_X7 3 lkX7_coordinate_143 (Nat.le_of_ble_eq_true rfl) rfl rfl (by decide) rfl ?_
  refine z_iconst (v := nI 1) dX7_coordinate_11 rfl (by decide) ?_
  refine z_isub dX7_coordinate_12 rfl ?_
  refine z_callSi (c_X7_isIn G ex _ p (nI 0) ((nI pts) - (nI 1))) gX7_coordinate_X7_isIn rfl dX7_coordinate_13 rfl rfl okk_X7_isIn ⟨Nat.le_of_ble_eq_true rfl, Nat.le_of_ble_eq_true rfl⟩ ⟨Nat.le_of_ble_eq_true rfl, Nat.le_of_ble_eq_true rfl⟩ (Nat.le_of_ble_eq_true rfl) ?_
  refine z_if_eq (tgt := 28) dX7_coordinate_16 rfl (by decide) (fun c16 => ?_) (fun c16 => ?_)
  · refine z_bipush (v := (-9)) dX7_coordinate_28 rfl (by decide) ?_
    exact z_ireturn dX7_coordinate_30 rfl rfl (Nat.le_refl _) (Nat.le_refl _) (fun _ => rfl) ⟨by simp only [X7_coordinate_v, if_pos c16], by simp only [X7_coordinate_p76_0, if_pos c16]⟩
  · refine z_iload_n dX7_coordinate_19 rfl rfl ?_
    refine z_iconst (v := nI 0) dX7_coordinate_20 rfl (by decide) ?_
    refine z_iconst (v := nI 3) dX7_coordinate_21 rfl (by decide) ?_
    refine z_callSi (c_X7_isIn G ex _ i (nI 0) (nI 3)) gX7_coordinate_X7_isIn rfl dX7_coordinate_22 rfl rfl okk_X7_isIn ⟨Nat.le_of_ble_eq_true rfl, Nat.le_of_ble_eq_true rfl⟩ ⟨Nat.le_of_ble_eq_true rfl, Nat.le_of_ble_eq_true rfl⟩ (Nat.le_of_ble_eq_true rfl) ?_
    refine z_if_ne (tgt := 31) dX7_coordinate_25 rfl (by decide) (fun c25 => ?_) (fun c25 => ?_)
    · refine z_aload_n dX7_coordinate_31 rfl rfl ?_
      refine z_get dX7_coordinate_32 rfl hiX7_coordinate_X7 20 lkX7_coordinate_158 (Nat.le_of_ble_eq_true rfl) rfl rfl (by decide) rfl ?_
      refine z_if_ne (tgt := 41) dX7_coordinate_35 rfl (by decide) (fun c35 => ?_) (fun c35 => ?_)
      · have hvp : vp_in p pts := isIn_in c16 (by omega)
        have hlp := zvlt hvp
        refine z_lv (congrArg (fun z9 : Int32 => ([some (.ref (zB G + 76)), some (.int z9), some (.int i)] : List (Option Value))) (show p = (nI p.toNatClampNeg) from zvin hvp)) ?_
        refine z_iload_n dX7_coordinate_41 rfl rfl ?_
        refine z_iconst (v := nI 3) dX7_coordinate_42 rfl (by decide) ?_
        refine z_icmp_ne (tgt := 55) dX7_coordinate_43 rfl (by decide) (fun c43 => ?_) (fun c43 => ?_)
        · refine z_aload_n dX7_coordinate_55 rfl rfl ?_
          refine z_get dX7_coordinate_56 rfl hiX7_coordinate_X7 21 lkX7_coordinate_219 (Nat.le_of_ble_eq_true rfl) rfl rfl (by decide) rfl ?_
          refine z_aload_n dX7_coordinate_59 rfl rfl ?_
          refine z_get dX7_coordinate_60 rfl hiX7_coordinate_X7 22 lkX7_coordinate_46 (Nat.le_of_ble_eq_true rfl) rfl rfl (by decide) rfl ?_
          refine z_iload_n dX7_coordinate_63 rfl rfl ?_
          refine z_ialdN (j := p.toNatClampNeg) dX7_coordinate_64 rfl (Nat.le_of_ble_eq_true rfl) h89 (rfl) (by omega) (by decide) ?_
          refine z_iload_n dX7_coordinate_65 rfl rfl ?_
          refine z_callSi (c_X7_part G ex _ fld (po p.toNatClampNeg) i) gX7_coordinate_X7_part rfl dX7_coordinate_66 rfl rfl okk_X7_part ⟨Nat.le_of_ble_eq_true rfl, Nat.le_of_ble_eq_true rfl⟩ ⟨Nat.le_of_ble_eq_true rfl, Nat.le_of_ble_eq_true rfl⟩ (Nat.le_of_ble_eq_true rfl) ?_
          exact z_ireturn dX7_coordinate_69 rfl rfl (Nat.le_refl _) (Nat.le_refl _) (fun _ => rfl) ⟨by simp only [X7_coordinate_v, if_neg c16, if_neg c25, if_neg c35, if_neg c43], by simp only [X7_coordinate_p76_0, if_neg c16, if_neg c25, if_neg c35, if_neg c43]⟩
        · refine z_aload_n dX7_coordinate_46 rfl rfl ?_
          refine z_get dX7_coordinate_47 rfl hiX7_coordinate_X7 22 lkX7_coordinate_46 (Nat.le_of_ble_eq_true rfl) rfl rfl (by decide) rfl ?_
          refine z_iload_n dX7_coordinate_50 rfl rfl ?_
          refine z_ialdN (j := p.toNatClampNeg) dX7_coordinate_51 rfl (Nat.le_of_ble_eq_true rfl) h89 (rfl) (by omega) (by decide) ?_
          refine z_goto (tgt := 69) dX7_coordinate_52 (by decide) ?_
          exact z_ireturn dX7_coordinate_69 rfl rfl (Nat.le_refl _) (Nat.le_refl _) (fun _ => rfl) ⟨by simp only [X7_coordinate_v, if_neg c16, if_neg c25, if_neg c35, if_pos c43], by simp only [X7_coordinate_p76_0, if_neg c16, if_neg c25, if_neg c35, if_pos c43]⟩
      · refine z_bipush (v := (-2)) dX7_coordinate_38 rfl (by decide) ?_
        exact z_ireturn dX7_coordinate_40 rfl rfl (Nat.le_refl _) (Nat.le_refl _) (fun _ => rfl) ⟨by simp only [X7_coordinate_v, if_neg c16, if_neg c25, if_pos c35], by simp only [X7_coordinate_p76_0, if_neg c16, if_neg c25, if_pos c35]⟩
    · refine z_bipush (v := (-9)) dX7_coordinate_28 rfl (by decide) ?_
      exact z_ireturn dX7_coordinate_30 rfl rfl (Nat.le_refl _) (Nat.le_refl _) (fun _ => rfl) ⟨by simp only [X7_coordinate_v, if_neg c16, if_pos c25], by simp only [X7_coordinate_p76_0, if_neg c16, if_pos c25]⟩
abbrev mX7_check : zM := (cX7_check, 5, (some .int), RX7, wsX7_check, "check")
theorem hiX7_check_X7 : ∀ w ∈ wsX70, w ∈ wsX7_check := fun w h => List.mem_cons_of_mem _ (List.mem_append_right _ h)
theorem lkX7_check_122 : Cond.fieldLink RX7 122 "ConfigSearchModel" "code" "I" ∈ wsX7_check := by decide +kernel
theorem lkX7_check_158 : Cond.fieldLink RX7 158 "ConfigSearchModel" "hasPicture" "Z" ∈ wsX7_check := by decide +kernel
theorem lkX7_check_219 : Cond.fieldLink RX7 219 "ConfigSearchModel" "field" "I" ∈ wsX7_check := by decide +kernel
theorem okk_X7_layWants : zOk yX7_layWants 1 := by unfold zOk; decide +kernel
theorem lkX7_check_143 : Cond.fieldLink RX7 143 "ConfigSearchModel" "points" "I" ∈ wsX7_check := by decide +kernel
theorem lkX7_check_46 : Cond.fieldLink RX7 46 "ConfigSearchModel" "placeOf" "[I" ∈ wsX7_check := by decide +kernel
def X7_check_L75_F (pts : Nat) (lns : Nat) (brs : Nat) (ors : Nat) (fd : Nat) (laid : Int32) (lm : Nat → Int32) (bm : Nat → Int32) (om : Nat → Int32) (os : Nat → Int32) (fs : Nat → Int32) (sc : Nat → Int32) (th : Nat → Int32) (wn : Nat → Int32) (po : Nat → Int32) (a : Nat) (b : Nat) (c : Nat) (a9 : (Int32)) : (Int32) := if a9 = 0 then a9 else (X7_isRight_v (X7_layWants_c92 laid fs sc th fd) (X7_layWants_c93 laid fs sc th fd) (X7_layWants_c94 laid fs sc th fd) (X7_layWants_c95 pts lns brs ors lm bm om os wn fd) (nI fd) a b c ((po a).toNatClampNeg) ((po b).toNatClampNeg) ((po c).toNatClampNeg))
def X7_check_L75_B (c : Nat) (a9 : (Int32)) : Option ((Int32)) := if a9 = 0 then (some a9) else none
def X7_check_L75v2_F (pts : Nat) (lns : Nat) (brs : Nat) (ors : Nat) (fd : Nat) (laid : Int32) (lm : Nat → Int32) (bm : Nat → Int32) (om : Nat → Int32) (os : Nat → Int32) (fs : Nat → Int32) (sc : Nat → Int32) (th : Nat → Int32) (wn : Nat → Int32) (po : Nat → Int32) (a : Nat) (b : Nat) (c : Nat) (a9 : (Int32)) : (Int32) := if a9 = 0 then a9 else (X7_isRight_v (X7_layWants_c92 laid fs sc th fd) (X7_layWants_c93 laid fs sc th fd) (X7_layWants_c94 laid fs sc th fd) (X7_layWants_c95 pts lns brs ors lm bm om os wn fd) (nI fd) a b c ((po a).toNatClampNeg) ((po b).toNatClampNeg) ((po c).toNatClampNeg))
def X7_check_L75v2_B (c : Nat) (a9 : (Int32)) : Option ((Int32)) := if a9 = 0 then (some a9) else none
def X7_check_L39_F (pts : Nat) (lns : Nat) (brs : Nat) (ors : Nat) (fd : Nat) (laid : Int32) (lm : Nat → Int32) (bm : Nat → Int32) (om : Nat → Int32) (os : Nat → Int32) (fs : Nat → Int32) (sc : Nat → Int32) (th : Nat → Int32) (wn : Nat → Int32) (po : Nat → Int32) (a : Nat) (b : Nat) (a9 : (Int32)) : (Int32) := if (po a) = (po b) then ((zfoldX (X7_check_L75_B) (X7_check_L75_F pts lns brs ors fd laid lm bm om os fs sc th wn po a b) (pts - (b + 1)) (b + 1) (a9 &&& (nI 0))).2) else ((zfoldX (X7_check_L75v2_B) (X7_check_L75v2_F pts lns brs ors fd laid lm bm om os fs sc th wn po a b) (pts - (b + 1)) (b + 1) (a9 &&& (nI 1))).2)
def X7_check_L27_F (pts : Nat) (lns : Nat) (brs : Nat) (ors : Nat) (fd : Nat) (laid : Int32) (lm : Nat → Int32) (bm : Nat → Int32) (om : Nat → Int32) (os : Nat → Int32) (fs : Nat → Int32) (sc : Nat → Int32) (th : Nat → Int32) (wn : Nat → Int32) (po : Nat → Int32) (a : Nat) (a9 : (Int32)) : (Int32) := (zfold (X7_check_L39_F pts lns brs ors fd laid lm bm om os fs sc th wn po a) (pts - (a + 1)) (a + 1) a9)
def X7_check_v (pts lns brs ors : Nat) (hasP : Int32) (fd : Nat) (laid : Int32) (lm bm om os fs sc th wn po : Nat → Int32) : Int32 := if hasP = 0 then (-2) else (if (zfold (X7_check_L27_F pts lns brs ors fd laid lm bm om os fs sc th wn po) pts 0 (nI 1)) = 0 then (nI 0) else (nI 1))
def X7_check_p76_0 (pts lns brs ors : Nat) (hasP : Int32) (fd : Nat) (laid : Int32) (lm bm om os fs sc th wn po : Nat → Int32) : Nat := if hasP = 0 then 0 else (if (zfold (X7_check_L27_F pts lns brs ors fd laid lm bm om os fs sc th wn po) pts 0 (nI 1)) = 0 then 0 else 0)
def X7_check_p76_10 (pts lns brs ors : Nat) (hasP : Int32) (fd : Nat) (laid : Int32) (lm bm om os fs sc th wn po : Nat → Int32) : Int32 := if hasP = 0 then laid else (if (zfold (X7_check_L27_F pts lns brs ors fd laid lm bm om os fs sc th wn po) pts 0 (nI 1)) = 0 then (nI (X7_layWants_p76_10 fd)) else (nI (X7_layWants_p76_10 fd)))
def X7_check_c92 (pts lns brs ors : Nat) (hasP : Int32) (fd : Nat) (laid : Int32) (lm bm om os fs sc th wn po : Nat → Int32) : Nat → Int32 := if hasP = 0 then fs else (if (zfold (X7_check_L27_F pts lns brs ors fd laid lm bm om os fs sc th wn po) pts 0 (nI 1)) = 0 then (X7_layWants_c92 laid fs sc th fd) else (X7_layWants_c92 laid fs sc th fd))
def X7_check_c93 (pts lns brs ors : Nat) (hasP : Int32) (fd : Nat) (laid : Int32) (lm bm om os fs sc th wn po : Nat → Int32) : Nat → Int32 := if hasP = 0 then sc else (if (zfold (X7_check_L27_F pts lns brs ors fd laid lm bm om os fs sc th wn po) pts 0 (nI 1)) = 0 then (X7_layWants_c93 laid fs sc th fd) else (X7_layWants_c93 laid fs sc th fd))
def X7_check_c94 (pts lns brs ors : Nat) (hasP : Int32) (fd : Nat) (laid : Int32) (lm bm om os fs sc th wn po : Nat → Int32) : Nat → Int32 := if hasP = 0 then th else (if (zfold (X7_check_L27_F pts lns brs ors fd laid lm bm om os fs sc th wn po) pts 0 (nI 1)) = 0 then (X7_layWants_c94 laid fs sc th fd) else (X7_layWants_c94 laid fs sc th fd))
def X7_check_c95 (pts lns brs ors : Nat) (hasP : Int32) (fd : Nat) (laid : Int32) (lm bm om os fs sc th wn po : Nat → Int32) : Nat → Int32 := if hasP = 0 then wn else (if (zfold (X7_check_L27_F pts lns brs ors fd laid lm bm om os fs sc th wn po) pts 0 (nI 1)) = 0 then (X7_layWants_c95 pts lns brs ors lm bm om os wn fd) else (X7_layWants_c95 pts lns brs ors lm bm om os wn fd))
set_option maxRecDepth 100000 in
set_option maxHeartbeats 4000000 in
theorem c_X7_check (G : zG) (ex : Bool) (g : Nat → va_E) (code : Int32) (tps pts lns wds brs ors : Nat) (stp hasP : Int32) (fd : Nat) (laid told : Int32) (rws : Nat) (cms : Int32) (cmT : Nat) (cmS isN : Int32) (trs : Nat) (lm bm om os fs sc th wn po : Nat → Int32) (hf : X7_placesOf_n fd ≤ 183) (hl : lns ≤ 12) (hb : brs ≤ 20) (ho : ors ≤ 20) (hp : pts ≤ 10) (hpo : ¬ hasP = 0 → ∀ k, k < pts → vp_in (po k) 183) (h76 : g 76 = (oMod G code (nI tps) (nI pts) (nI lns) (nI wds) (nI brs) (nI ors) stp hasP (nI fd) laid told (nI rws) cms (nI cmT) cmS isN (nI trs))) (h82 : g 82 = (zI G 12 lm)) (h86 : g 86 = (zI G 20 bm)) (h87 : g 87 = (zI G 20 om)) (h88 : g 88 = (zI G 20 os)) (h92 : g 92 = (zI G 183 fs)) (h93 : g 93 = (zI G 183 sc)) (h94 : g 94 = (zI G 183 th)) (h95 : g 95 = (zI G 1000 wn)) (h89 : g 89 = (zI G 10 po)) : zC G yX7_check wsX7_check (zrm 3 71) ex [.ref (zB G + 76)] (zN, g) (fun r h => r = some (.int (X7_check_v pts lns brs ors hasP fd laid lm bm om os fs sc th wn po)) ∧ h = (zN, zus g [(76, (oMod G (nI (X7_check_p76_0 pts lns brs ors hasP fd laid lm bm om os fs sc th wn po)) (nI tps) (nI pts) (nI lns) (nI wds) (nI brs) (nI ors) stp hasP (nI fd) (X7_check_p76_10 pts lns brs ors hasP fd laid lm bm om os fs sc th wn po) told (nI rws) cms (nI cmT) cmS isN (nI trs))), (92, zI G 183 (X7_check_c92 pts lns brs ors hasP fd laid lm bm om os fs sc th wn po)), (93, zI G 183 (X7_check_c93 pts lns brs ors hasP fd laid lm bm om os fs sc th wn po)), (94, zI G 183 (X7_check_c94 pts lns brs ors hasP fd laid lm bm om os fs sc th wn po)), (95, zI G 1000 (X7_check_c95 pts lns brs ors hasP fd laid lm bm om os fs sc th wn po))])) := by
  refine zC_of mX7_check (lv := [some (.ref (zB G + 76)), none, none, none, none]) rfl rfl (by decide) (by intro v hv; simp at hv; subst hv; rfl) (Nat.le_of_ble_eq_true rfl) rfl ?_
  refine z_0 ?_
  refine z_heap (g' := zu (zus g []) 76 (oMod G code (nI tps) (nI pts) (nI lns) (nI wds) (nI brs) (nI ors) stp hasP (nI fd) laid told (nI rws) cms (nI cmT) cmS isN (nI trs))) (zu_self (zus g []) 76 _ h76).symm ?_
  refine z_n (L' := [(76, (oMod G code (nI tps) (nI pts) (nI lns) (nI wds) (nI brs) (nI ors) stp hasP (nI fd) laid told (nI rws) cms (nI cmT) cmS isN (nI trs)))]) rfl ?_
  refine z_heap (g' := zu (zus g [(76, (oMod G code (nI tps) (nI pts) (nI lns) (nI wds) (nI brs) (nI ors) stp hasP (nI fd) laid told (nI rws) cms (nI cmT) cmS isN (nI trs)))]) 92 (zI G 183 fs)) (zu_self (zus g [(76, (oMod G code (nI tps) (nI pts) (nI lns) (nI wds) (nI brs) (nI ors) stp hasP (nI fd) laid told (nI rws) cms (nI cmT) cmS isN (nI trs)))]) 92 _ h92).symm ?_
  refine z_n (L' := [(76, (oMod G code (nI tps) (nI pts) (nI lns) (nI wds) (nI brs) (nI ors) stp hasP (nI fd) laid told (nI rws) cms (nI cmT) cmS isN (nI trs))), (92, (zI G 183 fs))]) rfl ?_
  refine z_heap (g' := zu (zus g [(76, (oMod G code (nI tps) (nI pts) (nI lns) (nI wds) (nI brs) (nI ors) stp hasP (nI fd) laid told (nI rws) cms (nI cmT) cmS isN (nI trs))), (92, (zI G 183 fs))]) 93 (zI G 183 sc)) (zu_self (zus g [(76, (oMod G code (nI tps) (nI pts) (nI lns) (nI wds) (nI brs) (nI ors) stp hasP (nI fd) laid told (nI rws) cms (nI cmT) cmS isN (nI trs))), (92, (zI G 183 fs))]) 93 _ h93).symm ?_
  refine z_n (L' := [(76, (oMod G code (nI tps) (nI pts) (nI lns) (nI wds) (nI brs) (nI ors) stp hasP (nI fd) laid told (nI rws) cms (nI cmT) cmS isN (nI trs))), (92, (zI G 183 fs)), (93, (zI G 183 sc))]) rfl ?_
  refine z_heap (g' := zu (zus g [(76, (oMod G code (nI tps) (nI pts) (nI lns) (nI wds) (nI brs) (nI ors) stp hasP (nI fd) laid told (nI rws) cms (nI cmT) cmS isN (nI trs))), (92, (zI G 183 fs)), (93, (zI G 183 sc))]) 94 (zI G 183 th)) (zu_self (zus g [(76, (oMod G code (nI tps) (nI pts) (nI lns) (nI wds) (nI brs) (nI ors) stp hasP (nI fd) laid told (nI rws) cms (nI cmT) cmS isN (nI trs))), (92, (zI G 183 fs)), (93, (zI G 183 sc))]) 94 _ h94).symm ?_
  refine z_n (L' := [(76, (oMod G code (nI tps) (nI pts) (nI lns) (nI wds) (nI brs) (nI ors) stp hasP (nI fd) laid told (nI rws) cms (nI cmT) cmS isN (nI trs))), (92, (zI G 183 fs)), (93, (zI G 183 sc)), (94, (zI G 183 th))]) rfl ?_
  refine z_heap (g' := zu (zus g [(76, (oMod G code (nI tps) (nI pts) (nI lns) (nI wds) (nI brs) (nI ors) stp hasP (nI fd) laid told (nI rws) cms (nI cmT) cmS isN (nI trs))), (92, (zI G 183 fs)), (93, (zI G 183 sc)), (94, (zI G 183 th))]) 95 (zI G 1000 wn)) (zu_self (zus g [(76, (oMod G code (nI tps) (nI pts) (nI lns) (nI wds) (nI brs) (nI ors) stp hasP (nI fd) laid told (nI rws) cms (nI cmT) cmS isN (nI trs))), (92, (zI G 183 fs)), (93, (zI G 183 sc)), (94, (zI G 183 th))]) 95 _ h95).symm ?_
  refine z_n (L' := [(76, (oMod G code (nI tps) (nI pts) (nI lns) (nI wds) (nI brs) (nI ors) stp hasP (nI fd) laid told (nI rws) cms (nI cmT) cmS isN (nI trs))), (92, (zI G 183 fs)), (93, (zI G 183 sc)), (94, (zI G 183 th)), (95, (zI G 1000 wn))]) rfl ?_
  refine z_aload_n dX7_check_0 rfl rfl ?_
  refine z_iconst (v := nI 0) dX7_check_1 rfl (by decide) ?_
  refine z_putN (e9 := (oMod G (nI 0) (nI tps) (nI pts) (nI lns) (nI wds) (nI brs) (nI ors) stp hasP (nI fd) laid told (nI rws) cms (nI cmT) cmS isN (nI trs))) tyX7 tyX7_ok nmX7 dX7_check_2 rfl hiX7_check_X7 0 lkX7_check_122 rfl (by decide +kernel) (Nat.le_of_ble_eq_true rfl) rfl rfl (by decide) (Nat.le_of_ble_eq_true rfl) rfl rfl rfl ?_
  refine z_n (L' := [(76, (oMod G (nI 0) (nI tps) (nI pts) (nI lns) (nI wds) (nI brs) (nI ors) stp hasP (nI fd) laid told (nI rws) cms (nI cmT) cmS isN (nI trs))), (92, (zI G 183 fs)), (93, (zI G 183 sc)), (94, (zI G 183 th)), (95, (zI G 1000 wn))]) rfl ?_
  refine z_aload_n dX7_check_5 rfl rfl ?_
  refine z_get dX7_check_6 rfl hiX7_check_X7 20 lkX7_check_158 (Nat.le_of_ble_eq_true rfl) rfl rfl (by decide) rfl ?_
  refine z_if_ne (tgt := 15) dX7_check_9 rfl (by decide) (fun c9 => ?_) (fun c9 => ?_)
  · refine z_aload_n dX7_check_15 rfl rfl ?_
    refine z_aload_n dX7_check_16 rfl rfl ?_
    refine z_get dX7_check_17 rfl hiX7_check_X7 21 lkX7_check_219 (Nat.le_of_ble_eq_true rfl) rfl rfl (by decide) rfl ?_
    refine z_callVv (c_X7_layWants G ex _ (nI 0) tps pts lns wds brs ors stp hasP (nI fd) laid told rws cms cmT cmS isN trs lm bm om os fs sc th wn fd (by omega) (by omega) (by omega) (by omega) (by omega) rfl h82 h86 h87 h88 rfl rfl rfl rfl) gX7_check_X7_layWants rfl dX7_check_20 rfl rfl rfl okk_X7_layWants (Nat.le_of_ble_eq_true rfl) rfl rfl ⟨Nat.le_of_ble_eq_true rfl, Nat.le_of_ble_eq_true rfl⟩ ⟨Nat.le_of_ble_eq_true rfl, Nat.le_of_ble_eq_true rfl⟩ (Nat.le_of_ble_eq_true rfl) ?_
    refine z_nn (L' := [(76, (oMod G (nI 0) (nI tps) (nI pts) (nI lns) (nI wds) (nI brs) (nI ors) stp hasP (nI fd) (nI (X7_layWants_p76_10 fd)) told (nI rws) cms (nI cmT) cmS isN (nI trs))), (92, (zI G 183 (X7_layWants_c92 laid fs sc th fd))), (93, (zI G 183 (X7_layWants_c93 laid fs sc th fd))), (94, (zI G 183 (X7_layWants_c94 laid fs sc th fd))), (95, (zI G 1000 (X7_layWants_c95 pts lns brs ors lm bm om os wn fd)))]) rfl ?_
    refine z_iconst (v := nI 1) dX7_check_23 rfl (by decide) ?_
    refine z_istore_1 dX7_check_24 rfl ?_
    refine z_iconst (v := nI 0) dX7_check_25 rfl (by decide) ?_
    refine z_istore_2 dX7_check_26 rfl ?_
    refine z_forI (head := fun a (st9 : (Int32)) => ∀ y3 y4 : Option Value, Z G mX7_check (zrm 3 71) ex _ 27 [some (.ref (zB G + 76)), some (.int st9), some (.int (nI a)), y3, y4] [] (zN, zus g [(76, (oMod G (nI 0) (nI tps) (nI pts) (nI lns) (nI wds) (nI brs) (nI ors) stp hasP (nI fd) (nI (X7_layWants_p76_10 fd)) told (nI rws) cms (nI cmT) cmS isN (nI trs))), (92, (zI G 183 (X7_layWants_c92 laid fs sc th fd))), (93, (zI G 183 (X7_layWants_c93 laid fs sc th fd))), (94, (zI G 183 (X7_layWants_c94 laid fs sc th fd))), (95, (zI G 1000 (X7_layWants_c95 pts lns brs ors lm bm om os wn fd)))]) 0 0) (F := (X7_check_L27_F pts lns brs ors fd laid lm bm om os fs sc th wn po)) (n := pts) (fun _ _ => True) (fun _ _ _ _ => trivial) ?_ pts 0 (nI 1) (by omega) trivial ?_ _ _
    · intro a g1 hi _ K
      intro y3 y4
      have ha9 : a < pts := hi
      refine z_iload_n dX7_check_27 rfl rfl ?_
      refine z_aload_n dX7_check_28 rfl rfl ?_
      refine z_get dX7_check_29 rfl hiX7_check_X7 3 lkX7_check_143 (Nat.le_of_ble_eq_true rfl) rfl rfl (by decide) rfl ?_
      refine z_icmp_ge (tgt := 138) dX7_check_32 rfl (by decide) (fun c32 => ?_) (fun c32 => ?_)
      · exact absurd c32 (nI_ge hi (by omega))
      · refine z_iload_n dX7_check_35 rfl rfl ?_
        refine z_iconst (v := nI 1) dX7_check_36 rfl (by decide) ?_
        refine z_iadd dX7_check_37 rfl ?_
        refine z_top (show (nI a) + (nI 1) = nI (a + 1) from (zq_add rfl rfl)) ?_
        refine z_istore_3 dX7_check_38 rfl ?_
        refine z_forI (head := fun b (st9 : (Int32)) => ∀ y4 : Option Value, Z G mX7_check (zrm 3 71) ex _ 39 [some (.ref (zB G + 76)), some (.int st9), some (.int (nI a)), some (.int (nI b)), y4] [] (zN, zus g [(76, (oMod G (nI 0) (nI tps) (nI pts) (nI lns) (nI wds) (nI brs) (nI ors) stp hasP (nI fd) (nI (X7_layWants_p76_10 fd)) told (nI rws) cms (nI cmT) cmS isN (nI trs))), (92, (zI G 183 (X7_layWants_c92 laid fs sc th fd))), (93, (zI G 183 (X7_layWants_c93 laid fs sc th fd))), (94, (zI G 183 (X7_layWants_c94 laid fs sc th fd))), (95, (zI G 1000 (X7_layWants_c95 pts lns brs ors lm bm om os wn fd)))]) 0 0) (F := (X7_check_L39_F pts lns brs ors fd laid lm bm om os fs sc th wn po a)) (n := pts) (fun _ _ => True) (fun _ _ _ _ => trivial) ?_ (pts - (a + 1)) (a + 1) g1 (by omega) trivial ?_ _
        · intro b g2 hi _ K
          intro y4
          have hb9 : b < pts := hi
          refine z_iload_n dX7_check_39 rfl rfl ?_
          refine z_aload_n dX7_check_40 rfl rfl ?_
          refine z_get dX7_check_41 rfl hiX7_check_X7 3 lkX7_check_143 (Nat.le_of_ble_eq_true rfl) rfl rfl (by decide) rfl ?_
          refine z_icmp_ge (tgt := 132) dX7_check_44 rfl (by decide) (fun c44 => ?_) (fun c44 => ?_)
          · exact absurd c44 (nI_ge hi (by omega))
          · refine z_iload_n dX7_check_47 rfl rfl ?_
            refine z_aload_n dX7_check_48 rfl rfl ?_
            refine z_get dX7_check_49 rfl hiX7_check_X7 22 lkX7_check_46 (Nat.le_of_ble_eq_true rfl) rfl rfl (by decide) rfl ?_
            refine z_iload_n dX7_check_52 rfl rfl ?_
            refine z_ialdN (j := a) dX7_check_53 rfl (Nat.le_of_ble_eq_true rfl) h89 (rfl) (by omega) (by decide) ?_
            refine z_aload_n dX7_check_54 rfl rfl ?_
            refine z_get dX7_check_55 rfl hiX7_check_X7 22 lkX7_check_46 (Nat.le_of_ble_eq_true rfl) rfl rfl (by decide) rfl ?_
            refine z_iload_n dX7_check_58 rfl rfl ?_
            refine z_ialdN (j := b) dX7_check_59 rfl (Nat.le_of_ble_eq_true rfl) h89 (rfl) (by omega) (by decide) ?_
            refine z_icmp_eq (tgt := 67) dX7_check_60 rfl (by decide) (fun c60 => ?_) (fun c60 => ?_)
            · refine z_iconst (v := nI 0) dX7_check_67 rfl (by decide) ?_
              refine z_iand dX7_check_68 rfl ?_
              refine z_istore_1 dX7_check_69 rfl ?_
              refine z_iload_n dX7_check_70 rfl rfl ?_
              refine z_iconst (v := nI 1) dX7_check_71 rfl (by decide) ?_
              refine z_iadd dX7_check_72 rfl ?_
              refine z_top (show (nI b) + (nI 1) = nI (b + 1) from (zq_add rfl rfl)) ?_
              refine z_istore_4 dX7_check_73 rfl ?_
              refine z_forX (head := fun c (st9 : (Int32)) => Z G mX7_check (zrm 3 71) ex _ 75 [some (.ref (zB G + 76)), some (.int st9), some (.int (nI a)), some (.int (nI b)), some (.int (nI c))] [] (zN, zus g [(76, (oMod G (nI 0) (nI tps) (nI pts) (nI lns) (nI wds) (nI brs) (nI ors) stp hasP (nI fd) (nI (X7_layWants_p76_10 fd)) told (nI rws) cms (nI cmT) cmS isN (nI trs))), (92, (zI G 183 (X7_layWants_c92 laid fs sc th fd))), (93, (zI G 183 (X7_layWants_c93 laid fs sc th fd))), (94, (zI G 183 (X7_layWants_c94 laid fs sc th fd))), (95, (zI G 1000 (X7_layWants_c95 pts lns brs ors lm bm om os wn fd)))]) 0 0) (out := fun c (st9 : (Int32)) => Z G mX7_check (zrm 3 71) ex (fun r h => r = some (.int (X7_check_v pts lns brs ors hasP fd laid lm bm om os fs sc th wn po)) ∧ h = (zN, zus g [(76, (oMod G (nI (X7_check_p76_0 pts lns brs ors hasP fd laid lm bm om os fs sc th wn po)) (nI tps) (nI pts) (nI lns) (nI wds) (nI brs) (nI ors) stp hasP (nI fd) (X7_check_p76_10 pts lns brs ors hasP fd laid lm bm om os fs sc th wn po) told (nI rws) cms (nI cmT) cmS isN (nI trs))), (92, zI G 183 (X7_check_c92 pts lns brs ors hasP fd laid lm bm om os fs sc th wn po)), (93, zI G 183 (X7_check_c93 pts lns brs ors hasP fd laid lm bm om os fs sc th wn po)), (94, zI G 183 (X7_check_c94 pts lns brs ors hasP fd laid lm bm om os fs sc th wn po)), (95, zI G 1000 (X7_check_c95 pts lns brs ors hasP fd laid lm bm om os fs sc th wn po))])) 126 [some (.ref (zB G + 76)), some (.int st9), some (.int (nI a)), some (.int (nI b)), some (.int (nI c))] [] (zN, zus g [(76, (oMod G (nI 0) (nI tps) (nI pts) (nI lns) (nI wds) (nI brs) (nI ors) stp hasP (nI fd) (nI (X7_layWants_p76_10 fd)) told (nI rws) cms (nI cmT) cmS isN (nI trs))), (92, (zI G 183 (X7_layWants_c92 laid fs sc th fd))), (93, (zI G 183 (X7_layWants_c93 laid fs sc th fd))), (94, (zI G 183 (X7_layWants_c94 laid fs sc th fd))), (95, (zI G 1000 (X7_layWants_c95 pts lns brs ors lm bm om os wn fd)))]) 0 0) (B := (X7_check_L75_B)) (F := (X7_check_L75_F pts lns brs ors fd laid lm bm om os fs sc th wn po a b)) (n := pts) (fun _ _ => True) (fun _ _ => True) (fun _ _ _ _ _ => trivial) (fun _ _ _ _ _ _ => trivial) (fun _ _ => trivial) ?_ ?_ (pts - (b + 1)) (b + 1) (g2 &&& (nI 0)) (by omega) trivial ?_
              · intro c g3 hi _ Ko K
                have hc9 : c < pts := hi
                refine z_iload dX7_check_75 rfl rfl ?_
                refine z_aload_n dX7_check_77 rfl rfl ?_
                refine z_get dX7_check_78 rfl hiX7_check_X7 3 lkX7_check_143 (Nat.le_of_ble_eq_true rfl) rfl rfl (by decide) rfl ?_
                refine z_icmp_ge (tgt := 126) dX7_check_81 rfl (by decide) (fun c81 => ?_) (fun c81 => ?_)
                · exact absurd c81 (nI_ge hi (by omega))
                · refine z_iload_n dX7_check_84 rfl rfl ?_
                  refine z_if_eq (tgt := 126) dX7_check_85 rfl (by decide) (fun c85 => ?_) (fun c85 => ?_)
                  · exact Ko g3 (by simp only [X7_check_L75_B, if_pos c85])
                  · refine z_aload_n dX7_check_88 rfl rfl ?_
                    refine z_aload_n dX7_check_89 rfl rfl ?_
                    refine z_get dX7_check_90 rfl hiX7_check_X7 21 lkX7_check_219 (Nat.le_of_ble_eq_true rfl) rfl rfl (by decide) rfl ?_
                    refine z_iload_n dX7_check_93 rfl rfl ?_
                    refine z_iload_n dX7_check_94 rfl rfl ?_
                    refine z_iload dX7_check_95 rfl rfl ?_
                    refine z_aload_n dX7_check_97 rfl rfl ?_
                    refine z_get dX7_check_98 rfl hiX7_check_X7 22 lkX7_check_46 (Nat.le_of_ble_eq_true rfl) rfl rfl (by decide) rfl ?_
                    refine z_iload_n dX7_check_101 rfl rfl ?_
                    refine z_ialdN (j := a) dX7_check_102 rfl (Nat.le_of_ble_eq_true rfl) h89 (rfl) (by omega) (by decide) ?_
                    refine z_top (show po a = nI ((po a).toNatClampNeg) from zvin (hpo c9 _ (by omega))) ?_
                    refine z_aload_n dX7_check_103 rfl rfl ?_
                    refine z_get dX7_check_104 rfl hiX7_check_X7 22 lkX7_check_46 (Nat.le_of_ble_eq_true rfl) rfl rfl (by decide) rfl ?_
                    refine z_iload_n dX7_check_107 rfl rfl ?_
                    refine z_ialdN (j := b) dX7_check_108 rfl (Nat.le_of_ble_eq_true rfl) h89 (rfl) (by omega) (by decide) ?_
                    refine z_top (show po b = nI ((po b).toNatClampNeg) from zvin (hpo c9 _ (by omega))) ?_
                    refine z_aload_n dX7_check_109 rfl rfl ?_
                    refine z_get dX7_check_110 rfl hiX7_check_X7 22 lkX7_check_46 (Nat.le_of_ble_eq_true rfl) rfl rfl (by decide) rfl ?_
                    refine z_iload dX7_check_113 rfl rfl ?_
                    refine z_ialdN (j := c) dX7_check_115 rfl (Nat.le_of_ble_eq_true rfl) h89 (rfl) (by omega) (by decide) ?_
                    refine z_top (show po c = nI ((po c).toNatClampNeg) from zvin (hpo c9 _ (by omega))) ?_
                    refine z_callVi (c_X7_isRight G ex _ (nI 0) tps pts lns wds brs ors stp hasP (nI fd) (nI (X7_layWants_p76_10 fd)) told rws cms cmT cmS isN trs (X7_layWants_c92 laid fs sc th fd) (X7_layWants_c93 laid fs sc th fd) (X7_layWants_c94 laid fs sc th fd) (X7_layWants_c95 pts lns brs ors lm bm om os wn fd) (nI fd) a b c ((po a).toNatClampNeg) ((po b).toNatClampNeg) ((po c).toNatClampNeg) (by omega) (by omega) (by omega) (zvlt (hpo c9 _ (by omega))) (zvlt (hpo c9 _ (by omega))) (zvlt (hpo c9 _ (by omega))) rfl rfl rfl rfl rfl) gX7_check_X7_isRight rfl dX7_check_116 rfl rfl rfl okk_X7_isRight (Nat.le_of_ble_eq_true rfl) rfl rfl ⟨Nat.le_of_ble_eq_true rfl, Nat.le_of_ble_eq_true rfl⟩ ⟨Nat.le_of_ble_eq_true rfl, Nat.le_of_ble_eq_true rfl⟩ (Nat.le_of_ble_eq_true rfl) ?_
                    refine z_istore_1 dX7_check_119 rfl ?_
                    refine z_iinc_4 (v := nI (c + 1)) dX7_check_120 rfl (zinc _) ?_
                    refine z_goto (tgt := 75) dX7_check_123 (by decide) ?_
                    have K9 := (K (by simp only [X7_check_L75_B, if_neg c85]))
                    try simp only [X7_check_L75_F, if_neg c85] at K9
                    exact K9
              · intro g3 _ K
                refine z_iload dX7_check_75 rfl rfl ?_
                refine z_aload_n dX7_check_77 rfl rfl ?_
                refine z_get dX7_check_78 rfl hiX7_check_X7 3 lkX7_check_143 (Nat.le_of_ble_eq_true rfl) rfl rfl (by decide) rfl ?_
                refine z_icmp_ge (tgt := 126) dX7_check_81 rfl (by decide) (fun c81 => ?_) (fun c81 => ?_)
                · exact K
                · exact absurd (nI_le (Nat.le_refl _) (by omega)) c81
              · intro hJ75 hle75
                refine z_iinc_3 (v := nI (b + 1)) dX7_check_126 rfl (zinc _) ?_
                refine z_goto (tgt := 39) dX7_check_129 (by decide) ?_
                have K9 := K
                try simp only [X7_check_L39_F, if_pos c60] at K9
                exact K9 _
            · refine z_iconst (v := nI 1) dX7_check_63 rfl (by decide) ?_
              refine z_goto (tgt := 68) dX7_check_64 (by decide) ?_
              refine z_iand dX7_check_68 rfl ?_
              refine z_istore_1 dX7_check_69 rfl ?_
              refine z_iload_n dX7_check_70 rfl rfl ?_
              refine z_iconst (v := nI 1) dX7_check_71 rfl (by decide) ?_
              refine z_iadd dX7_check_72 rfl ?_
              refine z_top (show (nI b) + (nI 1) = nI (b + 1) from (zq_add rfl rfl)) ?_
              refine z_istore_4 dX7_check_73 rfl ?_
              refine z_forX (head := fun c (st9 : (Int32)) => Z G mX7_check (zrm 3 71) ex _ 75 [some (.ref (zB G + 76)), some (.int st9), some (.int (nI a)), some (.int (nI b)), some (.int (nI c))] [] (zN, zus g [(76, (oMod G (nI 0) (nI tps) (nI pts) (nI lns) (nI wds) (nI brs) (nI ors) stp hasP (nI fd) (nI (X7_layWants_p76_10 fd)) told (nI rws) cms (nI cmT) cmS isN (nI trs))), (92, (zI G 183 (X7_layWants_c92 laid fs sc th fd))), (93, (zI G 183 (X7_layWants_c93 laid fs sc th fd))), (94, (zI G 183 (X7_layWants_c94 laid fs sc th fd))), (95, (zI G 1000 (X7_layWants_c95 pts lns brs ors lm bm om os wn fd)))]) 0 0) (out := fun c (st9 : (Int32)) => Z G mX7_check (zrm 3 71) ex (fun r h => r = some (.int (X7_check_v pts lns brs ors hasP fd laid lm bm om os fs sc th wn po)) ∧ h = (zN, zus g [(76, (oMod G (nI (X7_check_p76_0 pts lns brs ors hasP fd laid lm bm om os fs sc th wn po)) (nI tps) (nI pts) (nI lns) (nI wds) (nI brs) (nI ors) stp hasP (nI fd) (X7_check_p76_10 pts lns brs ors hasP fd laid lm bm om os fs sc th wn po) told (nI rws) cms (nI cmT) cmS isN (nI trs))), (92, zI G 183 (X7_check_c92 pts lns brs ors hasP fd laid lm bm om os fs sc th wn po)), (93, zI G 183 (X7_check_c93 pts lns brs ors hasP fd laid lm bm om os fs sc th wn po)), (94, zI G 183 (X7_check_c94 pts lns brs ors hasP fd laid lm bm om os fs sc th wn po)), (95, zI G 1000 (X7_check_c95 pts lns brs ors hasP fd laid lm bm om os fs sc th wn po))])) 126 [some (.ref (zB G + 76)), some (.int st9), some (.int (nI a)), some (.int (nI b)), some (.int (nI c))] [] (zN, zus g [(76, (oMod G (nI 0) (nI tps) (nI pts) (nI lns) (nI wds) (nI brs) (nI ors) stp hasP (nI fd) (nI (X7_layWants_p76_10 fd)) told (nI rws) cms (nI cmT) cmS isN (nI trs))), (92, (zI G 183 (X7_layWants_c92 laid fs sc th fd))), (93, (zI G 183 (X7_layWants_c93 laid fs sc th fd))), (94, (zI G 183 (X7_layWants_c94 laid fs sc th fd))), (95, (zI G 1000 (X7_layWants_c95 pts lns brs ors lm bm om os wn fd)))]) 0 0) (B := (X7_check_L75v2_B)) (F := (X7_check_L75v2_F pts lns brs ors fd laid lm bm om os fs sc th wn po a b)) (n := pts) (fun _ _ => True) (fun _ _ => True) (fun _ _ _ _ _ => trivial) (fun _ _ _ _ _ _ => trivial) (fun _ _ => trivial) ?_ ?_ (pts - (b + 1)) (b + 1) (g2 &&& (nI 1)) (by omega) trivial ?_
              · intro c g3 hi _ Ko K
                have hc9 : c < pts := hi
                refine z_iload dX7_check_75 rfl rfl ?_
                refine z_aload_n dX7_check_77 rfl rfl ?_
                refine z_get dX7_check_78 rfl hiX7_check_X7 3 lkX7_check_143 (Nat.le_of_ble_eq_true rfl) rfl rfl (by decide) rfl ?_
                refine z_icmp_ge (tgt := 126) dX7_check_81 rfl (by decide) (fun c81 => ?_) (fun c81 => ?_)
                · exact absurd c81 (nI_ge hi (by omega))
                · refine z_iload_n dX7_check_84 rfl rfl ?_
                  refine z_if_eq (tgt := 126) dX7_check_85 rfl (by decide) (fun c85 => ?_) (fun c85 => ?_)
                  · exact Ko g3 (by simp only [X7_check_L75v2_B, if_pos c85])
                  · refine z_aload_n dX7_check_88 rfl rfl ?_
                    refine z_aload_n dX7_check_89 rfl rfl ?_
                    refine z_get dX7_check_90 rfl hiX7_check_X7 21 lkX7_check_219 (Nat.le_of_ble_eq_true rfl) rfl rfl (by decide) rfl ?_
                    refine z_iload_n dX7_check_93 rfl rfl ?_
                    refine z_iload_n dX7_check_94 rfl rfl ?_
                    refine z_iload dX7_check_95 rfl rfl ?_
                    refine z_aload_n dX7_check_97 rfl rfl ?_
                    refine z_get dX7_check_98 rfl hiX7_check_X7 22 lkX7_check_46 (Nat.le_of_ble_eq_true rfl) rfl rfl (by decide) rfl ?_
                    refine z_iload_n dX7_check_101 rfl rfl ?_
                    refine z_ialdN (j := a) dX7_check_102 rfl (Nat.le_of_ble_eq_true rfl) h89 (rfl) (by omega) (by decide) ?_
                    refine z_top (show po a = nI ((po a).toNatClampNeg) from zvin (hpo c9 _ (by omega))) ?_
                    refine z_aload_n dX7_check_103 rfl rfl ?_
                    refine z_get dX7_check_104 rfl hiX7_check_X7 22 lkX7_check_46 (Nat.le_of_ble_eq_true rfl) rfl rfl (by decide) rfl ?_
                    refine z_iload_n dX7_check_107 rfl rfl ?_
                    refine z_ialdN (j := b) dX7_check_108 rfl (Nat.le_of_ble_eq_true rfl) h89 (rfl) (by omega) (by decide) ?_
                    refine z_top (show po b = nI ((po b).toNatClampNeg) from zvin (hpo c9 _ (by omega))) ?_
                    refine z_aload_n dX7_check_109 rfl rfl ?_
                    refine z_get dX7_check_110 rfl hiX7_check_X7 22 lkX7_check_46 (Nat.le_of_ble_eq_true rfl) rfl rfl (by decide) rfl ?_
                    refine z_iload dX7_check_113 rfl rfl ?_
                    refine z_ialdN (j := c) dX7_check_115 rfl (Nat.le_of_ble_eq_true rfl) h89 (rfl) (by omega) (by decide) ?_
                    refine z_top (show po c = nI ((po c).toNatClampNeg) from zvin (hpo c9 _ (by omega))) ?_
                    refine z_callVi (c_X7_isRight G ex _ (nI 0) tps pts lns wds brs ors stp hasP (nI fd) (nI (X7_layWants_p76_10 fd)) told rws cms cmT cmS isN trs (X7_layWants_c92 laid fs sc th fd) (X7_layWants_c93 laid fs sc th fd) (X7_layWants_c94 laid fs sc th fd) (X7_layWants_c95 pts lns brs ors lm bm om os wn fd) (nI fd) a b c ((po a).toNatClampNeg) ((po b).toNatClampNeg) ((po c).toNatClampNeg) (by omega) (by omega) (by omega) (zvlt (hpo c9 _ (by omega))) (zvlt (hpo c9 _ (by omega))) (zvlt (hpo c9 _ (by omega))) rfl rfl rfl rfl rfl) gX7_check_X7_isRight rfl dX7_check_116 rfl rfl rfl okk_X7_isRight (Nat.le_of_ble_eq_true rfl) rfl rfl ⟨Nat.le_of_ble_eq_true rfl, Nat.le_of_ble_eq_true rfl⟩ ⟨Nat.le_of_ble_eq_true rfl, Nat.le_of_ble_eq_true rfl⟩ (Nat.le_of_ble_eq_true rfl) ?_
                    refine z_istore_1 dX7_check_119 rfl ?_
                    refine z_iinc_4 (v := nI (c + 1)) dX7_check_120 rfl (zinc _) ?_
                    refine z_goto (tgt := 75) dX7_check_123 (by decide) ?_
                    have K9 := (K (by simp only [X7_check_L75v2_B, if_neg c85]))
                    try simp only [X7_check_L75v2_F, if_neg c85] at K9
                    exact K9
              · intro g3 _ K
                refine z_iload dX7_check_75 rfl rfl ?_
                refine z_aload_n dX7_check_77 rfl rfl ?_
                refine z_get dX7_check_78 rfl hiX7_check_X7 3 lkX7_check_143 (Nat.le_of_ble_eq_true rfl) rfl rfl (by decide) rfl ?_
                refine z_icmp_ge (tgt := 126) dX7_check_81 rfl (by decide) (fun c81 => ?_) (fun c81 => ?_)
                · exact K
                · exact absurd (nI_le (Nat.le_refl _) (by omega)) c81
              · intro hJ75 hle75
                refine z_iinc_3 (v := nI (b + 1)) dX7_check_126 rfl (zinc _) ?_
                refine z_goto (tgt := 39) dX7_check_129 (by decide) ?_
                have K9 := K
                try simp only [X7_check_L39_F, if_neg c60] at K9
                exact K9 _
        · intro _ y4
          refine z_iload_n dX7_check_39 rfl rfl ?_
          refine z_aload_n dX7_check_40 rfl rfl ?_
          refine z_get dX7_check_41 rfl hiX7_check_X7 3 lkX7_check_143 (Nat.le_of_ble_eq_true rfl) rfl rfl (by decide) rfl ?_
          refine z_icmp_ge (tgt := 132) dX7_check_44 rfl (by decide) (fun c44 => ?_) (fun c44 => ?_)
          · refine z_iinc_2 (v := nI (a + 1)) dX7_check_132 rfl (zinc _) ?_
            refine z_goto (tgt := 27) dX7_check_135 (by decide) ?_
            exact K _ _
          · exact absurd (nI_le (Nat.le_refl _) (by omega)) c44
    · intro _ y3 y4
      refine z_iload_n dX7_check_27 rfl rfl ?_
      refine z_aload_n dX7_check_28 rfl rfl ?_
      refine z_get dX7_check_29 rfl hiX7_check_X7 3 lkX7_check_143 (Nat.le_of_ble_eq_true rfl) rfl rfl (by decide) rfl ?_
      refine z_icmp_ge (tgt := 138) dX7_check_32 rfl (by decide) (fun c32 => ?_) (fun c32 => ?_)
      · refine z_iload_n dX7_check_138 rfl rfl ?_
        refine z_if_eq (tgt := 146) dX7_check_139 rfl (by decide) (fun c139 => ?_) (fun c139 => ?_)
        · refine z_iconst (v := nI 0) dX7_check_146 rfl (by decide) ?_
          exact z_ireturn dX7_check_147 rfl rfl (Nat.le_refl _) (Nat.le_refl _) (fun _ => rfl) ⟨by simp only [X7_check_v, if_neg c9, if_pos c139], by simp only [X7_check_p76_0, X7_check_p76_10, X7_check_c92, X7_check_c93, X7_check_c94, X7_check_c95, if_neg c9, if_pos c139]⟩
        · refine z_iconst (v := nI 1) dX7_check_142 rfl (by decide) ?_
          refine z_goto (tgt := 147) dX7_check_143 (by decide) ?_
          exact z_ireturn dX7_check_147 rfl rfl (Nat.le_refl _) (Nat.le_refl _) (fun _ => rfl) ⟨by simp only [X7_check_v, if_neg c9, if_neg c139], by simp only [X7_check_p76_0, X7_check_p76_10, X7_check_c92, X7_check_c93, X7_check_c94, X7_check_c95, if_neg c9, if_neg c139]⟩
      · exact absurd (nI_le (Nat.le_refl _) (by omega)) c32
  · refine z_bipush (v := (-2)) dX7_check_12 rfl (by decide) ?_
    exact z_ireturn dX7_check_14 rfl rfl (Nat.le_refl _) (Nat.le_refl _) (fun _ => rfl) ⟨by simp only [X7_check_v, if_pos c9], by simp only [X7_check_p76_0, X7_check_p76_10, X7_check_c92, X7_check_c93, X7_check_c94, X7_check_c95, if_pos c9]⟩
