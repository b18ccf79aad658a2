def nmOK (n : Nat) : Prop := ∀ r, r < X7_factorial_n n → ∀ nm fr ag : Nat → Int32, (∀ j, j < n → vp_in (X7_layNames_c102 nm fr n r j) n) ∧ (∃ b a9, zfoldB (X7_orderOf_L29_B n) (X7_orderOf_L29_F (X7_layNames_c102 nm fr n r) n) 14 0 (zfold (X7_orderOf_L2_F (X7_layNames_c102 nm fr n r)) n 0 ag, 1, nI 0) = (some b, a9)) ∧ vp_in (X7_orderOf_v (X7_layNames_c102 nm fr n r) ag n) 13
abbrev mX7_nameAll : zM := (cX7_nameAll, 3, none, RX7, wsX7_nameAll, "nameAll")
theorem hiX7_nameAll_X7 : ∀ w ∈ wsX70, w ∈ wsX7_nameAll := fun w h => List.mem_cons_of_mem _ (List.mem_append_right _ h)
theorem lkX7_nameAll_107 : Cond.fieldLink RX7 107 "ConfigSearchModel" "keeps" "[I" ∈ wsX7_nameAll := by decide +kernel
theorem lkX7_nameAll_146 : Cond.fieldLink RX7 146 "ConfigSearchModel" "lines" "I" ∈ wsX7_nameAll := by decide +kernel
theorem lkX7_nameAll_98 : Cond.fieldLink RX7 98 "ConfigSearchModel" "form" "[I" ∈ wsX7_nameAll := by decide +kernel
theorem lkX7_nameAll_25 : Cond.fieldLink RX7 25 "ConfigSearchModel" "lineMask" "[I" ∈ wsX7_nameAll := by decide +kernel
theorem okk_X7_sortForm : zOk yX7_sortForm 1 := by unfold zOk; decide +kernel
theorem lkX7_nameAll_104 : Cond.fieldLink RX7 104 "ConfigSearchModel" "own" "[I" ∈ wsX7_nameAll := by decide +kernel
theorem lkX7_nameAll_101 : Cond.fieldLink RX7 101 "ConfigSearchModel" "best" "[I" ∈ wsX7_nameAll := by decide +kernel
theorem lkX7_nameAll_143 : Cond.fieldLink RX7 143 "ConfigSearchModel" "points" "I" ∈ wsX7_nameAll := by decide +kernel
theorem okk_X7_layNames : zOk yX7_layNames 2 := by unfold zOk; decide +kernel
theorem okk_X7_renamed : zOk yX7_renamed 2 := by unfold zOk; decide +kernel
theorem okk_X7_compareForm : zOk yX7_compareForm 2 := by unfold zOk; decide +kernel
theorem okk_X7_orderOf : zOk yX7_orderOf 1 := by unfold zOk; decide +kernel
theorem lkX7_nameAll_162 : Cond.fieldLink RX7 162 "ConfigSearchModel" "isNamed" "Z" ∈ wsX7_nameAll := by decide +kernel
def X7_nameAll_L2_F (k : Nat) (a9 : (Nat → Int32)) : (Nat → Int32) := upd a9 k (nI 0)
def X7_nameAll_L23_F (lm : Nat → Int32) (k : Nat) (a9 : (Nat → Int32)) : (Nat → Int32) := upd a9 k (lm k)
def X7_nameAll_L59_F (lns : Nat) (fm0o : Nat → Int32) (k : Nat) (a9 : (Nat → Int32) × (Nat → Int32)) : (Nat → Int32) × (Nat → Int32) := (upd a9.1 k ((X7_sortForm_c105 fm0o lns) k), upd a9.2 k ((X7_sortForm_c105 fm0o lns) k))
def X7_nameAll_L121_F (pts : Nat) (lm : Nat → Int32) (r : Nat) (n1 : Nat → Int32) (f1 : Nat → Int32) (k : Nat) (a9 : (Nat → Int32)) : (Nat → Int32) := upd a9 k (X7_renamed_v (X7_layNames_c102 n1 f1 pts r) (lm k) pts)
def X7_nameAll_L222_F (lns : Nat) (fm2o : Nat → Int32) (k : Nat) (a9 : (Nat → Int32)) : (Nat → Int32) := upd a9 k ((X7_sortForm_c105 fm2o lns) k)
def X7_nameAll_L222v2_F (lns : Nat) (fm2o : Nat → Int32) (k : Nat) (a9 : (Nat → Int32)) : (Nat → Int32) := upd a9 k ((X7_sortForm_c105 fm2o lns) k)
def X7_nameAll_L99_F (pts : Nat) (lns : Nat) (lm : Nat → Int32) (o0o : Nat → Int32) (r : Nat) (a9 : (Nat → Int32) × (Nat → Int32) × (Nat → Int32) × (Nat → Int32) × (Nat → Int32) × (Nat → Int32)) : (Nat → Int32) × (Nat → Int32) × (Nat → Int32) × (Nat → Int32) × (Nat → Int32) × (Nat → Int32) := zlet (zfold (X7_nameAll_L121_F pts lm r a9.2.2.2.1 a9.2.2.2.2.2) lns 0 a9.2.1) (fun rr121 => if (X7_compareForm_v (X7_sortForm_c105 rr121 lns) o0o lns) = 0 then (if 0 ≤ (X7_compareForm_v (X7_sortForm_c105 rr121 lns) a9.2.2.1 lns) then (upd (upd a9.1 (X7_orderOf_v (X7_layNames_c102 a9.2.2.2.1 a9.2.2.2.2.2 pts r) a9.2.2.2.2.1 pts).toNatClampNeg ((a9.1 (X7_orderOf_v (X7_layNames_c102 a9.2.2.2.1 a9.2.2.2.2.2 pts r) a9.2.2.2.2.1 pts).toNatClampNeg) + (nI 1))) 0 (((upd a9.1 (X7_orderOf_v (X7_layNames_c102 a9.2.2.2.1 a9.2.2.2.2.2 pts r) a9.2.2.2.2.1 pts).toNatClampNeg ((a9.1 (X7_orderOf_v (X7_layNames_c102 a9.2.2.2.1 a9.2.2.2.2.2 pts r) a9.2.2.2.2.1 pts).toNatClampNeg) + (nI 1))) 0) + (nI 1)), X7_sortForm_c105 rr121 lns, a9.2.2.1, X7_layNames_c102 a9.2.2.2.1 a9.2.2.2.2.2 pts r, X7_orderOf_c103 (X7_layNames_c102 a9.2.2.2.1 a9.2.2.2.2.2 pts r) a9.2.2.2.2.1 pts, X7_layNames_c104 a9.2.2.2.1 a9.2.2.2.2.2 pts r) else (upd (upd a9.1 (X7_orderOf_v (X7_layNames_c102 a9.2.2.2.1 a9.2.2.2.2.2 pts r) a9.2.2.2.2.1 pts).toNatClampNeg ((a9.1 (X7_orderOf_v (X7_layNames_c102 a9.2.2.2.1 a9.2.2.2.2.2 pts r) a9.2.2.2.2.1 pts).toNatClampNeg) + (nI 1))) 0 (((upd a9.1 (X7_orderOf_v (X7_layNames_c102 a9.2.2.2.1 a9.2.2.2.2.2 pts r) a9.2.2.2.2.1 pts).toNatClampNeg ((a9.1 (X7_orderOf_v (X7_layNames_c102 a9.2.2.2.1 a9.2.2.2.2.2 pts r) a9.2.2.2.2.1 pts).toNatClampNeg) + (nI 1))) 0) + (nI 1)), X7_sortForm_c105 rr121 lns, (zfold (X7_nameAll_L222v2_F lns rr121) lns 0 a9.2.2.1), X7_layNames_c102 a9.2.2.2.1 a9.2.2.2.2.2 pts r, X7_orderOf_c103 (X7_layNames_c102 a9.2.2.2.1 a9.2.2.2.2.2 pts r) a9.2.2.2.2.1 pts, X7_layNames_c104 a9.2.2.2.1 a9.2.2.2.2.2 pts r)) else (if 0 ≤ (X7_compareForm_v (X7_sortForm_c105 rr121 lns) a9.2.2.1 lns) then (a9.1, X7_sortForm_c105 rr121 lns, a9.2.2.1, X7_layNames_c102 a9.2.2.2.1 a9.2.2.2.2.2 pts r, a9.2.2.2.2.1, X7_layNames_c104 a9.2.2.2.1 a9.2.2.2.2.2 pts r) else (a9.1, X7_sortForm_c105 rr121 lns, (zfold (X7_nameAll_L222_F lns rr121) lns 0 a9.2.2.1), X7_layNames_c102 a9.2.2.2.1 a9.2.2.2.2.2 pts r, a9.2.2.2.2.1, X7_layNames_c104 a9.2.2.2.1 a9.2.2.2.2.2 pts r)))
def X7_nameAll_p76_16 (lns : Nat) (lm fm bs ow : Nat → Int32) : Nat := zlet (zfold (X7_nameAll_L23_F lm) lns 0 fm) (fun rr23 => zlet (zfold (X7_nameAll_L59_F lns rr23) lns 0 (ow, bs)) (fun rr59 => 1))
def X7_nameAll_c102 (pts lns : Nat) (lm nm ag fr fm bs ow kp : Nat → Int32) : Nat → Int32 := zlet (zfold (X7_nameAll_L23_F lm) lns 0 fm) (fun rr23 => zlet (zfold (X7_nameAll_L59_F lns rr23) lns 0 (ow, bs)) (fun rr59 => (zfold (X7_nameAll_L99_F pts lns lm rr59.1) (X7_factorial_n pts) 0 ((zfold (X7_nameAll_L2_F) 13 0 kp), X7_sortForm_c105 rr23 lns, rr59.2, nm, ag, fr)).2.2.2.1))
def X7_nameAll_c103 (pts lns : Nat) (lm nm ag fr fm bs ow kp : Nat → Int32) : Nat → Int32 := zlet (zfold (X7_nameAll_L23_F lm) lns 0 fm) (fun rr23 => zlet (zfold (X7_nameAll_L59_F lns rr23) lns 0 (ow, bs)) (fun rr59 => (zfold (X7_nameAll_L99_F pts lns lm rr59.1) (X7_factorial_n pts) 0 ((zfold (X7_nameAll_L2_F) 13 0 kp), X7_sortForm_c105 rr23 lns, rr59.2, nm, ag, fr)).2.2.2.2.1))
def X7_nameAll_c104 (pts lns : Nat) (lm nm ag fr fm bs ow kp : Nat → Int32) : Nat → Int32 := zlet (zfold (X7_nameAll_L23_F lm) lns 0 fm) (fun rr23 => zlet (zfold (X7_nameAll_L59_F lns rr23) lns 0 (ow, bs)) (fun rr59 => (zfold (X7_nameAll_L99_F pts lns lm rr59.1) (X7_factorial_n pts) 0 ((zfold (X7_nameAll_L2_F) 13 0 kp), X7_sortForm_c105 rr23 lns, rr59.2, nm, ag, fr)).2.2.2.2.2))
def X7_nameAll_c105 (pts lns : Nat) (lm nm ag fr fm bs ow kp : Nat → Int32) : Nat → Int32 := zlet (zfold (X7_nameAll_L23_F lm) lns 0 fm) (fun rr23 => zlet (zfold (X7_nameAll_L59_F lns rr23) lns 0 (ow, bs)) (fun rr59 => (zfold (X7_nameAll_L99_F pts lns lm rr59.1) (X7_factorial_n pts) 0 ((zfold (X7_nameAll_L2_F) 13 0 kp), X7_sortForm_c105 rr23 lns, rr59.2, nm, ag, fr)).2.1))
def X7_nameAll_c106 (pts lns : Nat) (lm nm ag fr fm bs ow kp : Nat → Int32) : Nat → Int32 := zlet (zfold (X7_nameAll_L23_F lm) lns 0 fm) (fun rr23 => zlet (zfold (X7_nameAll_L59_F lns rr23) lns 0 (ow, bs)) (fun rr59 => (zfold (X7_nameAll_L99_F pts lns lm rr59.1) (X7_factorial_n pts) 0 ((zfold (X7_nameAll_L2_F) 13 0 kp), X7_sortForm_c105 rr23 lns, rr59.2, nm, ag, fr)).2.2.1))
def X7_nameAll_c107 (lns : Nat) (lm fm bs ow : Nat → Int32) : Nat → Int32 := zlet (zfold (X7_nameAll_L23_F lm) lns 0 fm) (fun rr23 => zlet (zfold (X7_nameAll_L59_F lns rr23) lns 0 (ow, bs)) (fun rr59 => rr59.1))
def X7_nameAll_c108 (pts lns : Nat) (lm nm ag fr fm bs ow kp : Nat → Int32) : Nat → Int32 := zlet (zfold (X7_nameAll_L23_F lm) lns 0 fm) (fun rr23 => zlet (zfold (X7_nameAll_L59_F lns rr23) lns 0 (ow, bs)) (fun rr59 => (zfold (X7_nameAll_L99_F pts lns lm rr59.1) (X7_factorial_n pts) 0 ((zfold (X7_nameAll_L2_F) 13 0 kp), X7_sortForm_c105 rr23 lns, rr59.2, nm, ag, fr)).1))
set_option maxRecDepth 100000 in
set_option maxHeartbeats 4000000 in
theorem c_X7_nameAll (G : zG) (ex : Bool) (g : Nat → va_E) (code : Int32) (tps pts lns wds brs ors : Nat) (stp hasP fld laid told : Int32) (rws : Nat) (cms : Int32) (cmT : Nat) (cmS isN : Int32) (trs : Nat) (lm nm ag fr fm bs ow kp : Nat → Int32) (hp : pts ≤ 7) (hl : lns ≤ 12) (hN : nmOK pts) (h76 : g 76 = (oMod G code (nI tps) (nI pts) (nI lns) (nI wds) (nI brs) (nI ors) stp hasP fld laid told (nI rws) cms (nI cmT) cmS isN (nI trs))) (h82 : g 82 = (zI G 12 lm)) (h102 : g 102 = (zI G 7 nm)) (h103 : g 103 = (zI G 7 ag)) (h104 : g 104 = (zI G 7 fr)) (h105 : g 105 = (zI G 12 fm)) (h106 : g 106 = (zI G 12 bs)) (h107 : g 107 = (zI G 12 ow)) (h108 : g 108 = (zI G 13 kp)) : zC G yX7_nameAll wsX7_nameAll (zrm 2 49) ex [.ref (zB G + 76)] (zN, g) (fun r h => r = none ∧ h = (zN, zus g [(76, (oMod G code (nI tps) (nI pts) (nI lns) (nI wds) (nI brs) (nI ors) stp hasP fld laid told (nI rws) cms (nI cmT) cmS (nI (X7_nameAll_p76_16 lns lm fm bs ow)) (nI trs))), (102, zI G 7 (X7_nameAll_c102 pts lns lm nm ag fr fm bs ow kp)), (103, zI G 7 (X7_nameAll_c103 pts lns lm nm ag fr fm bs ow kp)), (104, zI G 7 (X7_nameAll_c104 pts lns lm nm ag fr fm bs ow kp)), (105, zI G 12 (X7_nameAll_c105 pts lns lm nm ag fr fm bs ow kp)), (106, zI G 12 (X7_nameAll_c106 pts lns lm nm ag fr fm bs ow kp)), (107, zI G 12 (X7_nameAll_c107 lns lm fm bs ow)), (108, zI G 13 (X7_nameAll_c108 pts lns lm nm ag fr fm bs ow kp))])) := by
  refine zC_of mX7_nameAll (lv := [some (.ref (zB G + 76)), none, none]) rfl rfl (by decide) (by intro v hv; simp at hv; subst hv; rfl) (Nat.le_of_ble_eq_true rfl) rfl ?_
  refine z_0 ?_
  refine z_heap (g' := zu (zus g []) 76 (oMod G code (nI tps) (nI pts) (nI lns) (nI wds) (nI brs) (nI ors) stp hasP fld laid told (nI rws) cms (nI cmT) cmS isN (nI trs))) (zu_self (zus g []) 76 _ h76).symm ?_
  refine z_n (L' := [(76, (oMod G code (nI tps) (nI pts) (nI lns) (nI wds) (nI brs) (nI ors) stp hasP fld laid told (nI rws) cms (nI cmT) cmS isN (nI trs)))]) rfl ?_
  refine z_heap (g' := zu (zus g [(76, (oMod G code (nI tps) (nI pts) (nI lns) (nI wds) (nI brs) (nI ors) stp hasP fld laid told (nI rws) cms (nI cmT) cmS isN (nI trs)))]) 102 (zI G 7 nm)) (zu_self (zus g [(76, (oMod G code (nI tps) (nI pts) (nI lns) (nI wds) (nI brs) (nI ors) stp hasP fld laid told (nI rws) cms (nI cmT) cmS isN (nI trs)))]) 102 _ h102).symm ?_
  refine z_n (L' := [(76, (oMod G code (nI tps) (nI pts) (nI lns) (nI wds) (nI brs) (nI ors) stp hasP fld laid told (nI rws) cms (nI cmT) cmS isN (nI trs))), (102, (zI G 7 nm))]) rfl ?_
  refine z_heap (g' := zu (zus g [(76, (oMod G code (nI tps) (nI pts) (nI lns) (nI wds) (nI brs) (nI ors) stp hasP fld laid told (nI rws) cms (nI cmT) cmS isN (nI trs))), (102, (zI G 7 nm))]) 103 (zI G 7 ag)) (zu_self (zus g [(76, (oMod G code (nI tps) (nI pts) (nI lns) (nI wds) (nI brs) (nI ors) stp hasP fld laid told (nI rws) cms (nI cmT) cmS isN (nI trs))), (102, (zI G 7 nm))]) 103 _ h103).symm ?_
  refine z_n (L' := [(76, (oMod G code (nI tps) (nI pts) (nI lns) (nI wds) (nI brs) (nI ors) stp hasP fld laid told (nI rws) cms (nI cmT) cmS isN (nI trs))), (102, (zI G 7 nm)), (103, (zI G 7 ag))]) rfl ?_
  refine z_heap (g' := zu (zus g [(76, (oMod G code (nI tps) (nI pts) (nI lns) (nI wds) (nI brs) (nI ors) stp hasP fld laid told (nI rws) cms (nI cmT) cmS isN (nI trs))), (102, (zI G 7 nm)), (103, (zI G 7 ag))]) 104 (zI G 7 fr)) (zu_self (zus g [(76, (oMod G code (nI tps) (nI pts) (nI lns) (nI wds) (nI brs) (nI ors) stp hasP fld laid told (nI rws) cms (nI cmT) cmS isN (nI trs))), (102, (zI G 7 nm)), (103, (zI G 7 ag))]) 104 _ h104).symm ?_
  refine z_n (L' := [(76, (oMod G code (nI tps) (nI pts) (nI lns) (nI wds) (nI brs) (nI ors) stp hasP fld laid told (nI rws) cms (nI cmT) cmS isN (nI trs))), (102, (zI G 7 nm)), (103, (zI G 7 ag)), (104, (zI G 7 fr))]) rfl ?_
  refine z_heap (g' := zu (zus g [(76, (oMod G code (nI tps) (nI pts) (nI lns) (nI wds) (nI brs) (nI ors) stp hasP fld laid told (nI rws) cms (nI cmT) cmS isN (nI trs))), (102, (zI G 7 nm)), (103, (zI G 7 ag)), (104, (zI G 7 fr))]) 105 (zI G 12 fm)) (zu_self (zus g [(76, (oMod G code (nI tps) (nI pts) (nI lns) (nI wds) (nI brs) (nI ors) stp hasP fld laid told (nI rws) cms (nI cmT) cmS isN (nI trs))), (102, (zI G 7 nm)), (103, (zI G 7 ag)), (104, (zI G 7 fr))]) 105 _ h105).symm ?_
  refine z_n (L' := [(76, (oMod G code (nI tps) (nI pts) (nI lns) (nI wds) (nI brs) (nI ors) stp hasP fld laid told (nI rws) cms (nI cmT) cmS isN (nI trs))), (102, (zI G 7 nm)), (103, (zI G 7 ag)), (104, (zI G 7 fr)), (105, (zI G 12 fm))]) rfl ?_
  refine z_heap (g' := zu (zus g [(76, (oMod G code (nI tps) (nI pts) (nI lns) (nI wds) (nI brs) (nI ors) stp hasP fld laid told (nI rws) cms (nI cmT) cmS isN (nI trs))), (102, (zI G 7 nm)), (103, (zI G 7 ag)), (104, (zI G 7 fr)), (105, (zI G 12 fm))]) 106 (zI G 12 bs)) (zu_self (zus g [(76, (oMod G code (nI tps) (nI pts) (nI lns) (nI wds) (nI brs) (nI ors) stp hasP fld laid told (nI rws) cms (nI cmT) cmS isN (nI trs))), (102, (zI G 7 nm)), (103, (zI G 7 ag)), (104, (zI G 7 fr)), (105, (zI G 12 fm))]) 106 _ h106).symm ?_
  refine z_n (L' := [(76, (oMod G code (nI tps) (nI pts) (nI lns) (nI wds) (nI brs) (nI ors) stp hasP fld laid told (nI rws) cms (nI cmT) cmS isN (nI trs))), (102, (zI G 7 nm)), (103, (zI G 7 ag)), (104, (zI G 7 fr)), (105, (zI G 12 fm)), (106, (zI G 12 bs))]) rfl ?_
  refine z_heap (g' := zu (zus g [(76, (oMod G code (nI tps) (nI pts) (nI lns) (nI wds) (nI brs) (nI ors) stp hasP fld laid told (nI rws) cms (nI cmT) cmS isN (nI trs))), (102, (zI G 7 nm)), (103, (zI G 7 ag)), (104, (zI G 7 fr)), (105, (zI G 12 fm)), (106, (zI G 12 bs))]) 107 (zI G 12 ow)) (zu_self (zus g [(76, (oMod G code (nI tps) (nI pts) (nI lns) (nI wds) (nI brs) (nI ors) stp hasP fld laid told (nI rws) cms (nI cmT) cmS isN (nI trs))), (102, (zI G 7 nm)), (103, (zI G 7 ag)), (104, (zI G 7 fr)), (105, (zI G 12 fm)), (106, (zI G 12 bs))]) 107 _ h107).symm ?_
  refine z_n (L' := [(76, (oMod G code (nI tps) (nI pts) (nI lns) (nI wds) (nI brs) (nI ors) stp hasP fld laid told (nI rws) cms (nI cmT) cmS isN (nI trs))), (102, (zI G 7 nm)), (103, (zI G 7 ag)), (104, (zI G 7 fr)), (105, (zI G 12 fm)), (106, (zI G 12 bs)), (107, (zI G 12 ow))]) rfl ?_
  refine z_heap (g' := zu (zus g [(76, (oMod G code (nI tps) (nI pts) (nI lns) (nI wds) (nI brs) (nI ors) stp hasP fld laid told (nI rws) cms (nI cmT) cmS isN (nI trs))), (102, (zI G 7 nm)), (103, (zI G 7 ag)), (104, (zI G 7 fr)), (105, (zI G 12 fm)), (106, (zI G 12 bs)), (107, (zI G 12 ow))]) 108 (zI G 13 kp)) (zu_self (zus g [(76, (oMod G code (nI tps) (nI pts) (nI lns) (nI wds) (nI brs) (nI ors) stp hasP fld laid told (nI rws) cms (nI cmT) cmS isN (nI trs))), (102, (zI G 7 nm)), (103, (zI G 7 ag)), (104, (zI G 7 fr)), (105, (zI G 12 fm)), (106, (zI G 12 bs)), (107, (zI G 12 ow))]) 108 _ h108).symm ?_
  refine z_n (L' := [(76, (oMod G code (nI tps) (nI pts) (nI lns) (nI wds) (nI brs) (nI ors) stp hasP fld laid told (nI rws) cms (nI cmT) cmS isN (nI trs))), (102, (zI G 7 nm)), (103, (zI G 7 ag)), (104, (zI G 7 fr)), (105, (zI G 12 fm)), (106, (zI G 12 bs)), (107, (zI G 12 ow)), (108, (zI G 13 kp))]) rfl ?_
  refine z_iconst (v := nI 0) dX7_nameAll_0 rfl (by decide) ?_
  refine z_istore_1 dX7_nameAll_1 rfl ?_
  refine z_forI (head := fun k (st9 : (Nat → Int32)) => Z G mX7_nameAll (zrm 2 49) ex _ 2 [some (.ref (zB G + 76)), some (.int (nI k)), none] [] (zN, zus g [(76, (oMod G code (nI tps) (nI pts) (nI lns) (nI wds) (nI brs) (nI ors) stp hasP fld laid told (nI rws) cms (nI cmT) cmS isN (nI trs))), (102, (zI G 7 nm)), (103, (zI G 7 ag)), (104, (zI G 7 fr)), (105, (zI G 12 fm)), (106, (zI G 12 bs)), (107, (zI G 12 ow)), (108, (zI G 13 st9))]) 0 0) (F := (X7_nameAll_L2_F)) (n := 13) (fun _ _ => True) (fun _ _ _ _ => trivial) ?_ 13 0 kp (by omega) trivial ?_
  · intro k k0 hi _ K
    refine z_iload_n dX7_nameAll_2 rfl rfl ?_
    refine z_bipush (v := nI 13) dX7_nameAll_3 rfl (by decide) ?_
    refine z_icmp_ge (tgt := 21) dX7_nameAll_5 rfl (by decide) (fun c5 => ?_) (fun c5 => ?_)
    · exact absurd c5 (nI_ge hi (by omega))
    · refine z_aload_n dX7_nameAll_8 rfl rfl ?_
      refine z_get dX7_nameAll_9 rfl hiX7_nameAll_X7 48 lkX7_nameAll_107 (Nat.le_of_ble_eq_true rfl) rfl rfl (by decide) rfl ?_
      refine z_iload_n dX7_nameAll_12 rfl rfl ?_
      refine z_iconst (v := nI 0) dX7_nameAll_13 rfl (by decide) ?_
      refine z_iastN (j := k) dX7_nameAll_14 rfl (Nat.le_of_ble_eq_true rfl) rfl (rfl) (by omega) (by decide) ?_
      refine z_n (L' := [(76, (oMod G code (nI tps) (nI pts) (nI lns) (nI wds) (nI brs) (nI ors) stp hasP fld laid told (nI rws) cms (nI cmT) cmS isN (nI trs))), (102, (zI G 7 nm)), (103, (zI G 7 ag)), (104, (zI G 7 fr)), (105, (zI G 12 fm)), (106, (zI G 12 bs)), (107, (zI G 12 ow)), (108, (zI G 13 (upd k0 k (nI 0))))]) rfl ?_
      refine z_iinc_1 (v := nI (k + 1)) dX7_nameAll_15 rfl (zinc _) ?_
      refine z_goto (tgt := 2) dX7_nameAll_18 (by decide) ?_
      exact K
  · intro _
    refine z_iload_n dX7_nameAll_2 rfl rfl ?_
    refine z_bipush (v := nI 13) dX7_nameAll_3 rfl (by decide) ?_
    refine z_icmp_ge (tgt := 21) dX7_nameAll_5 rfl (by decide) (fun c5 => ?_) (fun c5 => ?_)
    · refine z_iconst (v := nI 0) dX7_nameAll_21 rfl (by decide) ?_
      refine z_istore_1 dX7_nameAll_22 rfl ?_
      refine z_forI (head := fun k (st9 : (Nat → Int32)) => Z G mX7_nameAll (zrm 2 49) ex _ 23 [some (.ref (zB G + 76)), some (.int (nI k)), none] [] (zN, zus g [(76, (oMod G code (nI tps) (nI pts) (nI lns) (nI wds) (nI brs) (nI ors) stp hasP fld laid told (nI rws) cms (nI cmT) cmS isN (nI trs))), (102, (zI G 7 nm)), (103, (zI G 7 ag)), (104, (zI G 7 fr)), (105, (zI G 12 st9)), (106, (zI G 12 bs)), (107, (zI G 12 ow)), (108, (zI G 13 (zfold (X7_nameAll_L2_F) 13 0 kp)))]) 0 0) (F := (X7_nameAll_L23_F lm)) (n := lns) (fun _ _ => True) (fun _ _ _ _ => trivial) ?_ lns 0 fm (by omega) trivial ?_
      · intro k fm0 hi _ K
        refine z_iload_n dX7_nameAll_23 rfl rfl ?_
        refine z_aload_n dX7_nameAll_24 rfl rfl ?_
        refine z_get dX7_nameAll_25 rfl hiX7_nameAll_X7 4 lkX7_nameAll_146 (Nat.le_of_ble_eq_true rfl) rfl rfl (by decide) rfl ?_
        refine z_icmp_ge (tgt := 49) dX7_nameAll_28 rfl (by decide) (fun c28 => ?_) (fun c28 => ?_)
        · exact absurd c28 (nI_ge hi (by omega))
        · refine z_aload_n dX7_nameAll_31 rfl rfl ?_
          refine z_get dX7_nameAll_32 rfl hiX7_nameAll_X7 44 lkX7_nameAll_98 (Nat.le_of_ble_eq_true rfl) rfl rfl (by decide) rfl ?_
          refine z_iload_n dX7_nameAll_35 rfl rfl ?_
          refine z_aload_n dX7_nameAll_36 rfl rfl ?_
          refine z_get dX7_nameAll_37 rfl hiX7_nameAll_X7 9 lkX7_nameAll_25 (Nat.le_of_ble_eq_true rfl) rfl rfl (by decide) rfl ?_
          refine z_iload_n dX7_nameAll_40 rfl rfl ?_
          refine z_ialdN (j := k) dX7_nameAll_41 rfl (Nat.le_of_ble_eq_true rfl) h82 (rfl) (by omega) (by decide) ?_
          refine z_iastN (j := k) dX7_nameAll_42 rfl (Nat.le_of_ble_eq_true rfl) rfl (rfl) (by omega) (by decide) ?_
          refine z_n (L' := [(76, (oMod G code (nI tps) (nI pts) (nI lns) (nI wds) (nI brs) (nI ors) stp hasP fld laid told (nI rws) cms (nI cmT) cmS isN (nI trs))), (102, (zI G 7 nm)), (103, (zI G 7 ag)), (104, (zI G 7 fr)), (105, (zI G 12 (upd fm0 k (lm k)))), (106, (zI G 12 bs)), (107, (zI G 12 ow)), (108, (zI G 13 (zfold (X7_nameAll_L2_F) 13 0 kp)))]) rfl ?_
          refine z_iinc_1 (v := nI (k + 1)) dX7_nameAll_43 rfl (zinc _) ?_
          refine z_goto (tgt := 23) dX7_nameAll_46 (by decide) ?_
          exact K
      · generalize hR23 : zfold (X7_nameAll_L23_F lm) lns 0 fm = r9
        obtain ⟨fm0o, rfl⟩ : ∃ z, z = r9 := ⟨_, rfl⟩
        intro _
        refine z_iload_n dX7_nameAll_23 rfl rfl ?_
        refine z_aload_n dX7_nameAll_24 rfl rfl ?_
        refine z_get dX7_nameAll_25 rfl hiX7_nameAll_X7 4 lkX7_nameAll_146 (Nat.le_of_ble_eq_true rfl) rfl rfl (by decide) rfl ?_
        refine z_icmp_ge (tgt := 49) dX7_nameAll_28 rfl (by decide) (fun c28 => ?_) (fun c28 => ?_)
        · refine z_aload_n dX7_nameAll_49 rfl rfl ?_
          refine z_aload_n dX7_nameAll_50 rfl rfl ?_
          refine z_get dX7_nameAll_51 rfl hiX7_nameAll_X7 4 lkX7_nameAll_146 (Nat.le_of_ble_eq_true rfl) rfl rfl (by decide) rfl ?_
          refine z_callVv (c_X7_sortForm G ex _ code tps pts lns wds brs ors stp hasP fld laid told rws cms cmT cmS isN trs fm0o lns (by omega) rfl rfl) gX7_nameAll_X7_sortForm rfl dX7_nameAll_54 rfl rfl rfl okk_X7_sortForm (Nat.le_of_ble_eq_true rfl) rfl rfl ⟨Nat.le_of_ble_eq_true rfl, Nat.le_of_ble_eq_true rfl⟩ ⟨Nat.le_of_ble_eq_true rfl, Nat.le_of_ble_eq_true rfl⟩ (Nat.le_of_ble_eq_true rfl) ?_
          refine z_nn (L' := [(76, (oMod G code (nI tps) (nI pts) (nI lns) (nI wds) (nI brs) (nI ors) stp hasP fld laid told (nI rws) cms (nI cmT) cmS isN (nI trs))), (102, (zI G 7 nm)), (103, (zI G 7 ag)), (104, (zI G 7 fr)), (105, (zI G 12 (X7_sortForm_c105 fm0o lns))), (106, (zI G 12 bs)), (107, (zI G 12 ow)), (108, (zI G 13 (zfold (X7_nameAll_L2_F) 13 0 kp)))]) rfl ?_
          refine z_iconst (v := nI 0) dX7_nameAll_57 rfl (by decide) ?_
          refine z_istore_1 dX7_nameAll_58 rfl ?_
          refine z_forI (head := fun k (st9 : (Nat → Int32) × (Nat → Int32)) => Z G mX7_nameAll (zrm 2 49) ex _ 59 [some (.ref (zB G + 76)), some (.int (nI k)), none] [] (zN, zus g [(76, (oMod G code (nI tps) (nI pts) (nI lns) (nI wds) (nI brs) (nI ors) stp hasP fld laid told (nI rws) cms (nI cmT) cmS isN (nI trs))), (102, (zI G 7 nm)), (103, (zI G 7 ag)), (104, (zI G 7 fr)), (105, (zI G 12 (X7_sortForm_c105 fm0o lns))), (106, (zI G 12 st9.2)), (107, (zI G 12 st9.1)), (108, (zI G 13 (zfold (X7_nameAll_L2_F) 13 0 kp)))]) 0 0) (F := (X7_nameAll_L59_F lns fm0o)) (n := lns) (fun _ _ => True) (fun _ _ _ _ => trivial) ?_ lns 0 (ow, bs) (by omega) trivial ?_
          · intro k a9 hi _ K
            obtain ⟨o0, b0⟩ := a9
            refine z_iload_n dX7_nameAll_59 rfl rfl ?_
            refine z_aload_n dX7_nameAll_60 rfl rfl ?_
            refine z_get dX7_nameAll_61 rfl hiX7_nameAll_X7 4 lkX7_nameAll_146 (Nat.le_of_ble_eq_true rfl) rfl rfl (by decide) rfl ?_
            refine z_icmp_ge (tgt := 97) dX7_nameAll_64 rfl (by decide) (fun c64 => ?_) (fun c64 => ?_)
            · exact absurd c64 (nI_ge hi (by omega))
            · refine z_aload_n dX7_nameAll_67 rfl rfl ?_
              refine z_get dX7_nameAll_68 rfl hiX7_nameAll_X7 46 lkX7_nameAll_104 (Nat.le_of_ble_eq_true rfl) rfl rfl (by decide) rfl ?_
              refine z_iload_n dX7_nameAll_71 rfl rfl ?_
              refine z_aload_n dX7_nameAll_72 rfl rfl ?_
              refine z_get dX7_nameAll_73 rfl hiX7_nameAll_X7 44 lkX7_nameAll_98 (Nat.le_of_ble_eq_true rfl) rfl rfl (by decide) rfl ?_
              refine z_iload_n dX7_nameAll_76 rfl rfl ?_
              refine z_ialdN (j := k) dX7_nameAll_77 rfl (Nat.le_of_ble_eq_true rfl) rfl (rfl) (by omega) (by decide) ?_
              refine z_iastN (j := k) dX7_nameAll_78 rfl (Nat.le_of_ble_eq_true rfl) rfl (rfl) (by omega) (by decide) ?_
              refine z_n (L' := [(76, (oMod G code (nI tps) (nI pts) (nI lns) (nI wds) (nI brs) (nI ors) stp hasP fld laid told (nI rws) cms (nI cmT) cmS isN (nI trs))), (102, (zI G 7 nm)), (103, (zI G 7 ag)), (104, (zI G 7 fr)), (105, (zI G 12 (X7_sortForm_c105 fm0o lns))), (106, (zI G 12 b0)), (107, (zI G 12 (upd o0 k ((X7_sortForm_c105 fm0o lns) k)))), (108, (zI G 13 (zfold (X7_nameAll_L2_F) 13 0 kp)))]) rfl ?_
              refine z_aload_n dX7_nameAll_79 rfl rfl ?_
              refine z_get dX7_nameAll_80 rfl hiX7_nameAll_X7 45 lkX7_nameAll_101 (Nat.le_of_ble_eq_true rfl) rfl rfl (by decide) rfl ?_
              refine z_iload_n dX7_nameAll_83 rfl rfl ?_
              refine z_aload_n dX7_nameAll_84 rfl rfl ?_
              refine z_get dX7_nameAll_85 rfl hiX7_nameAll_X7 44 lkX7_nameAll_98 (Nat.le_of_ble_eq_true rfl) rfl rfl (by decide) rfl ?_
              refine z_iload_n dX7_nameAll_88 rfl rfl ?_
              refine z_ialdN (j := k) dX7_nameAll_89 rfl (Nat.le_of_ble_eq_true rfl) rfl (rfl) (by omega) (by decide) ?_
              refine z_iastN (j := k) dX7_nameAll_90 rfl (Nat.le_of_ble_eq_true rfl) rfl (rfl) (by omega) (by decide) ?_
              refine z_n (L' := [(76, (oMod G code (nI tps) (nI pts) (nI lns) (nI wds) (nI brs) (nI ors) stp hasP fld laid told (nI rws) cms (nI cmT) cmS isN (nI trs))), (102, (zI G 7 nm)), (103, (zI G 7 ag)), (104, (zI G 7 fr)), (105, (zI G 12 (X7_sortForm_c105 fm0o lns))), (106, (zI G 12 (upd b0 k ((X7_sortForm_c105 fm0o lns) k)))), (107, (zI G 12 (upd o0 k ((X7_sortForm_c105 fm0o lns) k)))), (108, (zI G 13 (zfold (X7_nameAll_L2_F) 13 0 kp)))]) rfl ?_
              refine z_iinc_1 (v := nI (k + 1)) dX7_nameAll_91 rfl (zinc _) ?_
              refine z_goto (tgt := 59) dX7_nameAll_94 (by decide) ?_
              exact K
          · generalize hR59 : zfold (X7_nameAll_L59_F lns fm0o) lns 0 (ow, bs) = r9
            obtain ⟨o0o, b0o⟩ := r9
            intro _
            refine z_iload_n dX7_nameAll_59 rfl rfl ?_
            refine z_aload_n dX7_nameAll_60 rfl rfl ?_
            refine z_get dX7_nameAll_61 rfl hiX7_nameAll_X7 4 lkX7_nameAll_146 (Nat.le_of_ble_eq_true rfl) rfl rfl (by decide) rfl ?_
            refine z_icmp_ge (tgt := 97) dX7_nameAll_64 rfl (by decide) (fun c64 => ?_) (fun c64 => ?_)
            · refine z_iconst (v := nI 0) dX7_nameAll_97 rfl (by decide) ?_
              refine z_istore_1 dX7_nameAll_98 rfl ?_
              have hfac := rfac_b pts (by omega)
              refine z_forI (head := fun r (st9 : (Nat → Int32) × (Nat → Int32) × (Nat → Int32) × (Nat → Int32) × (Nat → Int32) × (Nat → Int32)) => ∀ y2 : Option Value, Z G mX7_nameAll (zrm 2 49) ex _ 99 [some (.ref (zB G + 76)), some (.int (nI r)), y2] [] (zN, zus g [(76, (oMod G code (nI tps) (nI pts) (nI lns) (nI wds) (nI brs) (nI ors) stp hasP fld laid told (nI rws) cms (nI cmT) cmS isN (nI trs))), (102, (zI G 7 st9.2.2.2.1)), (103, (zI G 7 st9.2.2.2.2.1)), (104, (zI G 7 st9.2.2.2.2.2)), (105, (zI G 12 st9.2.1)), (106, (zI G 12 st9.2.2.1)), (107, (zI G 12 o0o)), (108, (zI G 13 st9.1))]) 0 0) (F := (X7_nameAll_L99_F pts lns lm o0o)) (n := X7_factorial_n pts) (fun _ _ => True) (fun _ _ _ _ => trivial) ?_ (X7_factorial_n pts) 0 ((zfold (X7_nameAll_L2_F) 13 0 kp), X7_sortForm_c105 fm0o lns, b0o, nm, ag, fr) (by omega) trivial ?_ _
              · intro r a9 hi _ K
                obtain ⟨k1, fm1, b1, n1, a1, f1⟩ := a9
                intro y2
                have hr9 : r < X7_factorial_n pts := hi
                have hNr := hN r hr9 n1 f1 a1
                refine z_iload_n dX7_nameAll_99 rfl rfl ?_
                refine z_aload_n dX7_nameAll_100 rfl rfl ?_
                refine z_get dX7_nameAll_101 rfl hiX7_nameAll_X7 3 lkX7_nameAll_143 (Nat.le_of_ble_eq_true rfl) rfl rfl (by decide) rfl ?_
                refine z_callSi (c_X7_factorial G ex _ pts (by omega)) gX7_nameAll_X7_factorial rfl dX7_nameAll_104 rfl rfl okk_X7_factorial ⟨Nat.le_of_ble_eq_true rfl, Nat.le_of_ble_eq_true rfl⟩ ⟨Nat.le_of_ble_eq_true rfl, Nat.le_of_ble_eq_true rfl⟩ (Nat.le_of_ble_eq_true rfl) ?_
                refine z_icmp_ge (tgt := 254) dX7_nameAll_107 rfl (by decide) (fun c107 => ?_) (fun c107 => ?_)
                · exact absurd c107 (nI_ge hi (by omega))
                · refine z_aload_n dX7_nameAll_110 rfl rfl ?_
                  refine z_aload_n dX7_nameAll_111 rfl rfl ?_
                  refine z_get dX7_nameAll_112 rfl hiX7_nameAll_X7 3 lkX7_nameAll_143 (Nat.le_of_ble_eq_true rfl) rfl rfl (by decide) rfl ?_
                  refine z_iload_n dX7_nameAll_115 rfl rfl ?_
                  refine z_callVv (c_X7_layNames G ex _ code tps pts lns wds brs ors stp hasP fld laid told rws cms cmT cmS isN trs n1 f1 pts r (by omega) (by omega) rfl rfl rfl) gX7_nameAll_X7_layNames rfl dX7_nameAll_116 rfl rfl rfl okk_X7_layNames (Nat.le_of_ble_eq_true rfl) rfl rfl ⟨Nat.le_of_ble_eq_true rfl, Nat.le_of_ble_eq_true rfl⟩ ⟨Nat.le_of_ble_eq_true rfl, Nat.le_of_ble_eq_true rfl⟩ (Nat.le_of_ble_eq_true rfl) ?_
                  refine z_nn (L' := [(76, (oMod G code (nI tps) (nI pts) (nI lns) (nI wds) (nI brs) (nI ors) stp hasP fld laid told (nI rws) cms (nI cmT) cmS isN (nI trs))), (102, (zI G 7 (X7_layNames_c102 n1 f1 pts r))), (103, (zI G 7 a1)), (104, (zI G 7 (X7_layNames_c104 n1 f1 pts r))), (105, (zI G 12 fm1)), (106, (zI G 12 b1)), (107, (zI G 12 o0o)), (108, (zI G 13 k1))]) rfl ?_
                  refine z_iconst (v := nI 0) dX7_nameAll_119 rfl (by decide) ?_
                  refine z_istore_2 dX7_nameAll_120 rfl ?_
                  refine z_forI (head := fun k (st9 : (Nat → Int32)) => Z G mX7_nameAll (zrm 2 49) ex _ 121 [some (.ref (zB G + 76)), some (.int (nI r)), some (.int (nI k))] [] (zN, zus g [(76, (oMod G code (nI tps) (nI pts) (nI lns) (nI wds) (nI brs) (nI ors) stp hasP fld laid told (nI rws) cms (nI cmT) cmS isN (nI trs))), (102, (zI G 7 (X7_layNames_c102 n1 f1 pts r))), (103, (zI G 7 a1)), (104, (zI G 7 (X7_layNames_c104 n1 f1 pts r))), (105, (zI G 12 st9)), (106, (zI G 12 b1)), (107, (zI G 12 o0o)), (108, (zI G 13 k1))]) 0 0) (F := (X7_nameAll_L121_F pts lm r n1 f1)) (n := lns) (fun _ _ => True) (fun _ _ _ _ => trivial) ?_ lns 0 fm1 (by omega) trivial ?_
                  · intro k fm2 hi _ K
                    refine z_iload_n dX7_nameAll_121 rfl rfl ?_
                    refine z_aload_n dX7_nameAll_122 rfl rfl ?_
                    refine z_get dX7_nameAll_123 rfl hiX7_nameAll_X7 4 lkX7_nameAll_146 (Nat.le_of_ble_eq_true rfl) rfl rfl (by decide) rfl ?_
                    refine z_icmp_ge (tgt := 155) dX7_nameAll_126 rfl (by decide) (fun c126 => ?_) (fun c126 => ?_)
                    · exact absurd c126 (nI_ge hi (by omega))
                    · refine z_aload_n dX7_nameAll_129 rfl rfl ?_
                      refine z_get dX7_nameAll_130 rfl hiX7_nameAll_X7 44 lkX7_nameAll_98 (Nat.le_of_ble_eq_true rfl) rfl rfl (by decide) rfl ?_
                      refine z_iload_n dX7_nameAll_133 rfl rfl ?_
                      refine z_aload_n dX7_nameAll_134 rfl rfl ?_
                      refine z_aload_n dX7_nameAll_135 rfl rfl ?_
                      refine z_get dX7_nameAll_136 rfl hiX7_nameAll_X7 9 lkX7_nameAll_25 (Nat.le_of_ble_eq_true rfl) rfl rfl (by decide) rfl ?_
                      refine z_iload_n dX7_nameAll_139 rfl rfl ?_
                      refine z_ialdN (j := k) dX7_nameAll_140 rfl (Nat.le_of_ble_eq_true rfl) h82 (rfl) (by omega) (by decide) ?_
                      refine z_aload_n dX7_nameAll_141 rfl rfl ?_
                      refine z_get dX7_nameAll_142 rfl hiX7_nameAll_X7 3 lkX7_nameAll_143 (Nat.le_of_ble_eq_true rfl) rfl rfl (by decide) rfl ?_
                      refine z_callVi (c_X7_renamed G ex _ code tps pts lns wds brs ors stp hasP fld laid told rws cms cmT cmS isN trs (X7_layNames_c102 n1 f1 pts r) (lm k) pts (by omega) rfl rfl) gX7_nameAll_X7_renamed rfl dX7_nameAll_145 rfl rfl rfl okk_X7_renamed (Nat.le_of_ble_eq_true rfl) rfl rfl ⟨Nat.le_of_ble_eq_true rfl, Nat.le_of_ble_eq_true rfl⟩ ⟨Nat.le_of_ble_eq_true rfl, Nat.le_of_ble_eq_true rfl⟩ (Nat.le_of_ble_eq_true rfl) ?_
                      refine z_iastN (j := k) dX7_nameAll_148 rfl (Nat.le_of_ble_eq_true rfl) rfl (rfl) (by omega) (by decide) ?_
                      refine z_n (L' := [(76, (oMod G code (nI tps) (nI pts) (nI lns) (nI wds) (nI brs) (nI ors) stp hasP fld laid told (nI rws) cms (nI cmT) cmS isN (nI trs))), (102, (zI G 7 (X7_layNames_c102 n1 f1 pts r))), (103, (zI G 7 a1)), (104, (zI G 7 (X7_layNames_c104 n1 f1 pts r))), (105, (zI G 12 (upd fm2 k (X7_renamed_v (X7_layNames_c102 n1 f1 pts r) (lm k) pts)))), (106, (zI G 12 b1)), (107, (zI G 12 o0o)), (108, (zI G 13 k1))]) rfl ?_
                      refine z_iinc_2 (v := nI (k + 1)) dX7_nameAll_149 rfl (zinc _) ?_
                      refine z_goto (tgt := 121) dX7_nameAll_152 (by decide) ?_
                      exact K
                  · generalize hR121 : zfold (X7_nameAll_L121_F pts lm r n1 f1) lns 0 fm1 = r9
                    obtain ⟨fm2o, rfl⟩ : ∃ z, z = r9 := ⟨_, rfl⟩
                    intro _
                    refine z_iload_n dX7_nameAll_121 rfl rfl ?_
                    refine z_aload_n dX7_nameAll_122 rfl rfl ?_
                    refine z_get dX7_nameAll_123 rfl hiX7_nameAll_X7 4 lkX7_nameAll_146 (Nat.le_of_ble_eq_true rfl) rfl rfl (by decide) rfl ?_
                    refine z_icmp_ge (tgt := 155) dX7_nameAll_126 rfl (by decide) (fun c126 => ?_) (fun c126 => ?_)
                    · refine z_aload_n dX7_nameAll_155 rfl rfl ?_
                      refine z_aload_n dX7_nameAll_156 rfl rfl ?_
                      refine z_get dX7_nameAll_157 rfl hiX7_nameAll_X7 4 lkX7_nameAll_146 (Nat.le_of_ble_eq_true rfl) rfl rfl (by decide) rfl ?_
                      refine z_callVv (c_X7_sortForm G ex _ code tps pts lns wds brs ors stp hasP fld laid told rws cms cmT cmS isN trs fm2o lns (by omega) rfl rfl) gX7_nameAll_X7_sortForm rfl dX7_nameAll_160 rfl rfl rfl okk_X7_sortForm (Nat.le_of_ble_eq_true rfl) rfl rfl ⟨Nat.le_of_ble_eq_true rfl, Nat.le_of_ble_eq_true rfl⟩ ⟨Nat.le_of_ble_eq_true rfl, Nat.le_of_ble_eq_true rfl⟩ (Nat.le_of_ble_eq_true rfl) ?_
                      refine z_nn (L' := [(76, (oMod G code (nI tps) (nI pts) (nI lns) (nI wds) (nI brs) (nI ors) stp hasP fld laid told (nI rws) cms (nI cmT) cmS isN (nI trs))), (102, (zI G 7 (X7_layNames_c102 n1 f1 pts r))), (103, (zI G 7 a1)), (104, (zI G 7 (X7_layNames_c104 n1 f1 pts r))), (105, (zI G 12 (X7_sortForm_c105 fm2o lns))), (106, (zI G 12 b1)), (107, (zI G 12 o0o)), (108, (zI G 13 k1))]) rfl ?_
                      refine z_aload_n dX7_nameAll_163 rfl rfl ?_
                      refine z_aload_n dX7_nameAll_164 rfl rfl ?_
                      refine z_get dX7_nameAll_165 rfl hiX7_nameAll_X7 46 lkX7_nameAll_104 (Nat.le_of_ble_eq_true rfl) rfl rfl (by decide) rfl ?_
                      refine z_aload_n dX7_nameAll_168 rfl rfl ?_
                      refine z_get dX7_nameAll_169 rfl hiX7_nameAll_X7 4 lkX7_nameAll_146 (Nat.le_of_ble_eq_true rfl) rfl rfl (by decide) rfl ?_
                      refine z_callVi (c_X7_compareForm G ex _ code tps pts lns wds brs ors stp hasP fld laid told rws cms cmT cmS isN trs 107 (X7_sortForm_c105 fm2o lns) o0o lns (Nat.le_of_ble_eq_true rfl) (by omega) rfl rfl rfl) gX7_nameAll_X7_compareForm rfl dX7_nameAll_172 rfl rfl rfl okk_X7_compareForm (Nat.le_of_ble_eq_true rfl) rfl rfl ⟨Nat.le_of_ble_eq_true rfl, Nat.le_of_ble_eq_true rfl⟩ ⟨Nat.le_of_ble_eq_true rfl, Nat.le_of_ble_eq_true rfl⟩ (Nat.le_of_ble_eq_true rfl) ?_
                      refine z_if_ne (tgt := 205) dX7_nameAll_175 rfl (by decide) (fun c175 => ?_) (fun c175 => ?_)
                      · refine z_aload_n dX7_nameAll_205 rfl rfl ?_
                        refine z_aload_n dX7_nameAll_206 rfl rfl ?_
                        refine z_get dX7_nameAll_207 rfl hiX7_nameAll_X7 45 lkX7_nameAll_101 (Nat.le_of_ble_eq_true rfl) rfl rfl (by decide) rfl ?_
                        refine z_aload_n dX7_nameAll_210 rfl rfl ?_
                        refine z_get dX7_nameAll_211 rfl hiX7_nameAll_X7 4 lkX7_nameAll_146 (Nat.le_of_ble_eq_true rfl) rfl rfl (by decide) rfl ?_
                        refine z_callVi (c_X7_compareForm G ex _ code tps pts lns wds brs ors stp hasP fld laid told rws cms cmT cmS isN trs 106 (X7_sortForm_c105 fm2o lns) b1 lns (Nat.le_of_ble_eq_true rfl) (by omega) rfl rfl rfl) gX7_nameAll_X7_compareForm rfl dX7_nameAll_214 rfl rfl rfl okk_X7_compareForm (Nat.le_of_ble_eq_true rfl) rfl rfl ⟨Nat.le_of_ble_eq_true rfl, Nat.le_of_ble_eq_true rfl⟩ ⟨Nat.le_of_ble_eq_true rfl, Nat.le_of_ble_eq_true rfl⟩ (Nat.le_of_ble_eq_true rfl) ?_
                        refine z_if_ge (tgt := 248) dX7_nameAll_217 rfl (by decide) (fun c217 => ?_) (fun c217 => ?_)
                        · refine z_iinc_1 (v := nI (r + 1)) dX7_nameAll_248 rfl (zinc _) ?_
                          refine z_goto (tgt := 99) dX7_nameAll_251 (by decide) ?_
                          have K9 := K
                          try simp only [X7_nameAll_L99_F, hR121, zlet_e, if_neg c175, if_pos c217] at K9
                          exact K9 _
                        · refine z_iconst (v := nI 0) dX7_nameAll_220 rfl (by decide) ?_
                          refine z_istore_2 dX7_nameAll_221 rfl ?_
                          refine z_forI (head := fun k (st9 : (Nat → Int32)) => Z G mX7_nameAll (zrm 2 49) ex _ 222 [some (.ref (zB G + 76)), some (.int (nI r)), some (.int (nI k))] [] (zN, zus g [(76, (oMod G code (nI tps) (nI pts) (nI lns) (nI wds) (nI brs) (nI ors) stp hasP fld laid told (nI rws) cms (nI cmT) cmS isN (nI trs))), (102, (zI G 7 (X7_layNames_c102 n1 f1 pts r))), (103, (zI G 7 a1)), (104, (zI G 7 (X7_layNames_c104 n1 f1 pts r))), (105, (zI G 12 (X7_sortForm_c105 fm2o lns))), (106, (zI G 12 st9)), (107, (zI G 12 o0o)), (108, (zI G 13 k1))]) 0 0) (F := (X7_nameAll_L222_F lns fm2o)) (n := lns) (fun _ _ => True) (fun _ _ _ _ => trivial) ?_ lns 0 b1 (by omega) trivial ?_
                          · intro k b2 hi _ K
                            refine z_iload_n dX7_nameAll_222 rfl rfl ?_
                            refine z_aload_n dX7_nameAll_223 rfl rfl ?_
                            refine z_get dX7_nameAll_224 rfl hiX7_nameAll_X7 4 lkX7_nameAll_146 (Nat.le_of_ble_eq_true rfl) rfl rfl (by decide) rfl ?_
                            refine z_icmp_ge (tgt := 248) dX7_nameAll_227 rfl (by decide) (fun c227 => ?_) (fun c227 => ?_)
                            · exact absurd c227 (nI_ge hi (by omega))
                            · refine z_aload_n dX7_nameAll_230 rfl rfl ?_
                              refine z_get dX7_nameAll_231 rfl hiX7_nameAll_X7 45 lkX7_nameAll_101 (Nat.le_of_ble_eq_true rfl) rfl rfl (by decide) rfl ?_
                              refine z_iload_n dX7_nameAll_234 rfl rfl ?_
                              refine z_aload_n dX7_nameAll_235 rfl rfl ?_
                              refine z_get dX7_nameAll_236 rfl hiX7_nameAll_X7 44 lkX7_nameAll_98 (Nat.le_of_ble_eq_true rfl) rfl rfl (by decide) rfl ?_
                              refine z_iload_n dX7_nameAll_239 rfl rfl ?_
                              refine z_ialdN (j := k) dX7_nameAll_240 rfl (Nat.le_of_ble_eq_true rfl) rfl (rfl) (by omega) (by decide) ?_
                              refine z_iastN (j := k) dX7_nameAll_241 rfl (Nat.le_of_ble_eq_true rfl) rfl (rfl) (by omega) (by decide) ?_
                              refine z_n (L' := [(76, (oMod G code (nI tps) (nI pts) (nI lns) (nI wds) (nI brs) (nI ors) stp hasP fld laid told (nI rws) cms (nI cmT) cmS isN (nI trs))), (102, (zI G 7 (X7_layNames_c102 n1 f1 pts r))), (103, (zI G 7 a1)), (104, (zI G 7 (X7_layNames_c104 n1 f1 pts r))), (105, (zI G 12 (X7_sortForm_c105 fm2o lns))), (106, (zI G 12 (upd b2 k ((X7_sortForm_c105 fm2o lns) k)))), (107, (zI G 12 o0o)), (108, (zI G 13 k1))]) rfl ?_
                              refine z_iinc_2 (v := nI (k + 1)) dX7_nameAll_242 rfl (zinc _) ?_
                              refine z_goto (tgt := 222) dX7_nameAll_245 (by decide) ?_
                              exact K
                          · intro _
                            refine z_iload_n dX7_nameAll_222 rfl rfl ?_
                            refine z_aload_n dX7_nameAll_223 rfl rfl ?_
                            refine z_get dX7_nameAll_224 rfl hiX7_nameAll_X7 4 lkX7_nameAll_146 (Nat.le_of_ble_eq_true rfl) rfl rfl (by decide) rfl ?_
                            refine z_icmp_ge (tgt := 248) dX7_nameAll_227 rfl (by decide) (fun c227 => ?_) (fun c227 => ?_)
                            · refine z_iinc_1 (v := nI (r + 1)) dX7_nameAll_248 rfl (zinc _) ?_
                              refine z_goto (tgt := 99) dX7_nameAll_251 (by decide) ?_
                              have K9 := K
                              try simp only [X7_nameAll_L99_F, hR121, zlet_e, if_neg c175, if_neg c217] at K9
                              exact K9 _
                            · exact absurd (nI_le (Nat.le_refl _) (by omega)) c227
                      · refine z_aload_n dX7_nameAll_178 rfl rfl ?_
                        refine z_get dX7_nameAll_179 rfl hiX7_nameAll_X7 48 lkX7_nameAll_107 (Nat.le_of_ble_eq_true rfl) rfl rfl (by decide) rfl ?_
                        refine z_aload_n dX7_nameAll_182 rfl rfl ?_
                        refine z_aload_n dX7_nameAll_183 rfl rfl ?_
                        refine z_get dX7_nameAll_184 rfl hiX7_nameAll_X7 3 lkX7_nameAll_143 (Nat.le_of_ble_eq_true rfl) rfl rfl (by decide) rfl ?_
                        refine z_callVi (c_X7_orderOf G ex _ code tps pts lns wds brs ors stp hasP fld laid told rws cms cmT cmS isN trs (X7_layNames_c102 n1 f1 pts r) a1 pts (by omega) hNr.1 hNr.2.1 rfl rfl rfl) gX7_nameAll_X7_orderOf rfl dX7_nameAll_187 rfl rfl rfl okk_X7_orderOf (Nat.le_of_ble_eq_true rfl) rfl rfl ⟨Nat.le_of_ble_eq_true rfl, Nat.le_of_ble_eq_true rfl⟩ ⟨Nat.le_of_ble_eq_true rfl, Nat.le_of_ble_eq_true rfl⟩ (Nat.le_of_ble_eq_true rfl) ?_
                        refine z_nn (L' := [(76, (oMod G code (nI tps) (nI pts) (nI lns) (nI wds) (nI brs) (nI ors) stp hasP fld laid told (nI rws) cms (nI cmT) cmS isN (nI trs))), (102, (zI G 7 (X7_layNames_c102 n1 f1 pts r))), (103, (zI G 7 (X7_orderOf_c103 (X7_layNames_c102 n1 f1 pts r) a1 pts))), (104, (zI G 7 (X7_layNames_c104 n1 f1 pts r))), (105, (zI G 12 (X7_sortForm_c105 fm2o lns))), (106, (zI G 12 b1)), (107, (zI G 12 o0o)), (108, (zI G 13 k1))]) rfl ?_
                        refine z_dup2 dX7_nameAll_190 rfl rfl rfl ?_
                        refine z_iald dX7_nameAll_191 rfl (Nat.le_of_ble_eq_true rfl) rfl hNr.2.2 ?_
                        refine z_iconst (v := nI 1) dX7_nameAll_192 rfl (by decide) ?_
                        refine z_iadd dX7_nameAll_193 rfl ?_
                        refine z_iast dX7_nameAll_194 rfl (Nat.le_of_ble_eq_true rfl) rfl hNr.2.2 ?_
                        refine z_n (L' := [(76, (oMod G code (nI tps) (nI pts) (nI lns) (nI wds) (nI brs) (nI ors) stp hasP fld laid told (nI rws) cms (nI cmT) cmS isN (nI trs))), (102, (zI G 7 (X7_layNames_c102 n1 f1 pts r))), (103, (zI G 7 (X7_orderOf_c103 (X7_layNames_c102 n1 f1 pts r) a1 pts))), (104, (zI G 7 (X7_layNames_c104 n1 f1 pts r))), (105, (zI G 12 (X7_sortForm_c105 fm2o lns))), (106, (zI G 12 b1)), (107, (zI G 12 o0o)), (108, (zI G 13 (upd k1 (X7_orderOf_v (X7_layNames_c102 n1 f1 pts r) a1 pts).toNatClampNeg ((k1 (X7_orderOf_v (X7_layNames_c102 n1 f1 pts r) a1 pts).toNatClampNeg) + (nI 1)))))]) rfl ?_
                        refine z_aload_n dX7_nameAll_195 rfl rfl ?_
                        refine z_get dX7_nameAll_196 rfl hiX7_nameAll_X7 48 lkX7_nameAll_107 (Nat.le_of_ble_eq_true rfl) rfl rfl (by decide) rfl ?_
                        refine z_iconst (v := nI 0) dX7_nameAll_199 rfl (by decide) ?_
                        refine z_dup2 dX7_nameAll_200 rfl rfl rfl ?_
                        refine z_ialdN (j := 0) dX7_nameAll_201 rfl (Nat.le_of_ble_eq_true rfl) rfl (rfl) (by omega) (by decide) ?_
                        refine z_iconst (v := nI 1) dX7_nameAll_202 rfl (by decide) ?_
                        refine z_iadd dX7_nameAll_203 rfl ?_
                        refine z_iastN (j := 0) dX7_nameAll_204 rfl (Nat.le_of_ble_eq_true rfl) rfl (rfl) (by omega) (by decide) ?_
                        refine z_n (L' := [(76, (oMod G code (nI tps) (nI pts) (nI lns) (nI wds) (nI brs) (nI ors) stp hasP fld laid told (nI rws) cms (nI cmT) cmS isN (nI trs))), (102, (zI G 7 (X7_layNames_c102 n1 f1 pts r))), (103, (zI G 7 (X7_orderOf_c103 (X7_layNames_c102 n1 f1 pts r) a1 pts))), (104, (zI G 7 (X7_layNames_c104 n1 f1 pts r))), (105, (zI G 12 (X7_sortForm_c105 fm2o lns))), (106, (zI G 12 b1)), (107, (zI G 12 o0o)), (108, (zI G 13 (upd (upd k1 (X7_orderOf_v (X7_layNames_c102 n1 f1 pts r) a1 pts).toNatClampNeg ((k1 (X7_orderOf_v (X7_layNames_c102 n1 f1 pts r) a1 pts).toNatClampNeg) + (nI 1))) 0 (((upd k1 (X7_orderOf_v (X7_layNames_c102 n1 f1 pts r) a1 pts).toNatClampNeg ((k1 (X7_orderOf_v (X7_layNames_c102 n1 f1 pts r) a1 pts).toNatClampNeg) + (nI 1))) 0) + (nI 1)))))]) rfl ?_
                        refine z_aload_n dX7_nameAll_205 rfl rfl ?_
                        refine z_aload_n dX7_nameAll_206 rfl rfl ?_
                        refine z_get dX7_nameAll_207 rfl hiX7_nameAll_X7 45 lkX7_nameAll_101 (Nat.le_of_ble_eq_true rfl) rfl rfl (by decide) rfl ?_
                        refine z_aload_n dX7_nameAll_210 rfl rfl ?_
                        refine z_get dX7_nameAll_211 rfl hiX7_nameAll_X7 4 lkX7_nameAll_146 (Nat.le_of_ble_eq_true rfl) rfl rfl (by decide) rfl ?_
                        refine z_callVi (c_X7_compareForm G ex _ code tps pts lns wds brs ors stp hasP fld laid told rws cms cmT cmS isN trs 106 (X7_sortForm_c105 fm2o lns) b1 lns (Nat.le_of_ble_eq_true rfl) (by omega) rfl rfl rfl) gX7_nameAll_X7_compareForm rfl dX7_nameAll_214 rfl rfl rfl okk_X7_compareForm (Nat.le_of_ble_eq_true rfl) rfl rfl ⟨Nat.le_of_ble_eq_true rfl, Nat.le_of_ble_eq_true rfl⟩ ⟨Nat.le_of_ble_eq_true rfl, Nat.le_of_ble_eq_true rfl⟩ (Nat.le_of_ble_eq_true rfl) ?_
                        refine z_if_ge (tgt := 248) dX7_nameAll_217 rfl (by decide) (fun c217 => ?_) (fun c217 => ?_)
                        · refine z_iinc_1 (v := nI (r + 1)) dX7_nameAll_248 rfl (zinc _) ?_
                          refine z_goto (tgt := 99) dX7_nameAll_251 (by decide) ?_
                          have K9 := K
                          try simp only [X7_nameAll_L99_F, hR121, zlet_e, if_pos c175, if_pos c217] at K9
                          exact K9 _
                        · refine z_iconst (v := nI 0) dX7_nameAll_220 rfl (by decide) ?_
                          refine z_istore_2 dX7_nameAll_221 rfl ?_
                          refine z_forI (head := fun k (st9 : (Nat → Int32)) => Z G mX7_nameAll (zrm 2 49) ex _ 222 [some (.ref (zB G + 76)), some (.int (nI r)), some (.int (nI k))] [] (zN, zus g [(76, (oMod G code (nI tps) (nI pts) (nI lns) (nI wds) (nI brs) (nI ors) stp hasP fld laid told (nI rws) cms (nI cmT) cmS isN (nI trs))), (102, (zI G 7 (X7_layNames_c102 n1 f1 pts r))), (103, (zI G 7 (X7_orderOf_c103 (X7_layNames_c102 n1 f1 pts r) a1 pts))), (104, (zI G 7 (X7_layNames_c104 n1 f1 pts r))), (105, (zI G 12 (X7_sortForm_c105 fm2o lns))), (106, (zI G 12 st9)), (107, (zI G 12 o0o)), (108, (zI G 13 (upd (upd k1 (X7_orderOf_v (X7_layNames_c102 n1 f1 pts r) a1 pts).toNatClampNeg ((k1 (X7_orderOf_v (X7_layNames_c102 n1 f1 pts r) a1 pts).toNatClampNeg) + (nI 1))) 0 (((upd k1 (X7_orderOf_v (X7_layNames_c102 n1 f1 pts r) a1 pts).toNatClampNeg ((k1 (X7_orderOf_v (X7_layNames_c102 n1 f1 pts r) a1 pts).toNatClampNeg) + (nI 1))) 0) + (nI 1)))))]) 0 0) (F := (X7_nameAll_L222v2_F lns fm2o)) (n := lns) (fun _ _ => True) (fun _ _ _ _ => trivial) ?_ lns 0 b1 (by omega) trivial ?_
                          · intro k b2 hi _ K
                            refine z_iload_n dX7_nameAll_222 rfl rfl ?_
                            refine z_aload_n dX7_nameAll_223 rfl rfl ?_
                            refine z_get dX7_nameAll_224 rfl hiX7_nameAll_X7 4 lkX7_nameAll_146 (Nat.le_of_ble_eq_true rfl) rfl rfl (by decide) rfl ?_
                            refine z_icmp_ge (tgt := 248) dX7_nameAll_227 rfl (by decide) (fun c227 => ?_) (fun c227 => ?_)
                            · exact absurd c227 (nI_ge hi (by omega))
                            · refine z_aload_n dX7_nameAll_230 rfl rfl ?_
                              refine z_get dX7_nameAll_231 rfl hiX7_nameAll_X7 45 lkX7_nameAll_101 (Nat.le_of_ble_eq_true rfl) rfl rfl (by decide) rfl ?_
                              refine z_iload_n dX7_nameAll_234 rfl rfl ?_
                              refine z_aload_n dX7_nameAll_235 rfl rfl ?_
                              refine z_get dX7_nameAll_236 rfl hiX7_nameAll_X7 44 lkX7_nameAll_98 (Nat.le_of_ble_eq_true rfl) rfl rfl (by decide) rfl ?_
                              refine z_iload_n dX7_nameAll_239 rfl rfl ?_
                              refine z_ialdN (j := k) dX7_nameAll_240 rfl (Nat.le_of_ble_eq_true rfl) rfl (rfl) (by omega) (by decide) ?_
                              refine z_iastN (j := k) dX7_nameAll_241 rfl (Nat.le_of_ble_eq_true rfl) rfl (rfl) (by omega) (by decide) ?_
                              refine z_n (L' := [(76, (oMod G code (nI tps) (nI pts) (nI lns) (nI wds) (nI brs) (nI ors) stp hasP fld laid told (nI rws) cms (nI cmT) cmS isN (nI trs))), (102, (zI G 7 (X7_layNames_c102 n1 f1 pts r))), (103, (zI G 7 (X7_orderOf_c103 (X7_layNames_c102 n1 f1 pts r) a1 pts))), (104, (zI G 7 (X7_layNames_c104 n1 f1 pts r))), (105, (zI G 12 (X7_sortForm_c105 fm2o lns))), (106, (zI G 12 (upd b2 k ((X7_sortForm_c105 fm2o lns) k)))), (107, (zI G 12 o0o)), (108, (zI G 13 (upd (upd k1 (X7_orderOf_v (X7_layNames_c102 n1 f1 pts r) a1 pts).toNatClampNeg ((k1 (X7_orderOf_v (X7_layNames_c102 n1 f1 pts r) a1 pts).toNatClampNeg) + (nI 1))) 0 (((upd k1 (X7_orderOf_v (X7_layNames_c102 n1 f1 pts r) a1 pts).toNatClampNeg ((k1 (X7_orderOf_v (X7_layNames_c102 n1 f1 pts r) a1 pts).toNatClampNeg) + (nI 1))) 0) + (nI 1)))))]) rfl ?_
                              refine z_iinc_2 (v := nI (k + 1)) dX7_nameAll_242 rfl (zinc _) ?_
                              refine z_goto (tgt := 222) dX7_nameAll_245 (by decide) ?_
                              exact K
                          · intro _
                            refine z_iload_n dX7_nameAll_222 rfl rfl ?_
                            refine z_aload_n dX7_nameAll_223 rfl rfl ?_
                            refine z_get dX7_nameAll_224 rfl hiX7_nameAll_X7 4 lkX7_nameAll_146 (Nat.le_of_ble_eq_true rfl) rfl rfl (by decide) rfl ?_
                            refine z_icmp_ge (tgt := 248) dX7_nameAll_227 rfl (by decide) (fun c227 => ?_) (fun c227 => ?_)
                            · refine z_iinc_1 (v := nI (r + 1)) dX7_nameAll_248 rfl (zinc _) ?_
                              refine z_goto (tgt := 99) dX7_nameAll_251 (by decide) ?_
                              have K9 := K
                              try simp only [X7_nameAll_L99_F, hR121, zlet_e, if_pos c175, if_neg c217] at K9
                              exact K9 _
                            · exact absurd (nI_le (Nat.le_refl _) (by omega)) c227
                    · exact absurd (nI_le (Nat.le_refl _) (by omega)) c126
              · intro _ y2
                refine z_iload_n dX7_nameAll_99 rfl rfl ?_
                refine z_aload_n dX7_nameAll_100 rfl rfl ?_
                refine z_get dX7_nameAll_101 rfl hiX7_nameAll_X7 3 lkX7_nameAll_143 (Nat.le_of_ble_eq_true rfl) rfl rfl (by decide) rfl ?_
                refine z_callSi (c_X7_factorial G ex _ pts (by omega)) gX7_nameAll_X7_factorial rfl dX7_nameAll_104 rfl rfl okk_X7_factorial ⟨Nat.le_of_ble_eq_true rfl, Nat.le_of_ble_eq_true rfl⟩ ⟨Nat.le_of_ble_eq_true rfl, Nat.le_of_ble_eq_true rfl⟩ (Nat.le_of_ble_eq_true rfl) ?_
                refine z_icmp_ge (tgt := 254) dX7_nameAll_107 rfl (by decide) (fun c107 => ?_) (fun c107 => ?_)
                · refine z_aload_n dX7_nameAll_254 rfl rfl ?_
                  refine z_iconst (v := nI 1) dX7_nameAll_255 rfl (by decide) ?_
                  refine z_putN (e9 := (oMod G code (nI tps) (nI pts) (nI lns) (nI wds) (nI brs) (nI ors) stp hasP fld laid told (nI rws) cms (nI cmT) cmS (nI 1) (nI trs))) tyX7 tyX7_ok nmX7 dX7_nameAll_256 rfl hiX7_nameAll_X7 47 lkX7_nameAll_162 rfl (by decide +kernel) (Nat.le_of_ble_eq_true rfl) rfl rfl (by decide) (Nat.le_of_ble_eq_true rfl) rfl rfl rfl ?_
                  refine z_n (L' := [(76, (oMod G code (nI tps) (nI pts) (nI lns) (nI wds) (nI brs) (nI ors) stp hasP fld laid told (nI rws) cms (nI cmT) cmS (nI 1) (nI trs))), (102, (zI G 7 ((zfold (X7_nameAll_L99_F pts lns lm o0o) (X7_factorial_n pts) 0 ((zfold (X7_nameAll_L2_F) 13 0 kp), X7_sortForm_c105 fm0o lns, b0o, nm, ag, fr)).2.2.2.1))), (103, (zI G 7 ((zfold (X7_nameAll_L99_F pts lns lm o0o) (X7_factorial_n pts) 0 ((zfold (X7_nameAll_L2_F) 13 0 kp), X7_sortForm_c105 fm0o lns, b0o, nm, ag, fr)).2.2.2.2.1))), (104, (zI G 7 ((zfold (X7_nameAll_L99_F pts lns lm o0o) (X7_factorial_n pts) 0 ((zfold (X7_nameAll_L2_F) 13 0 kp), X7_sortForm_c105 fm0o lns, b0o, nm, ag, fr)).2.2.2.2.2))), (105, (zI G 12 ((zfold (X7_nameAll_L99_F pts lns lm o0o) (X7_factorial_n pts) 0 ((zfold (X7_nameAll_L2_F) 13 0 kp), X7_sortForm_c105 fm0o lns, b0o, nm, ag, fr)).2.1))), (106, (zI G 12 ((zfold (X7_nameAll_L99_F pts lns lm o0o) (X7_factorial_n pts) 0 ((zfold (X7_nameAll_L2_F) 13 0 kp), X7_sortForm_c105 fm0o lns, b0o, nm, ag, fr)).2.2.1))), (107, (zI G 12 o0o)), (108, (zI G 13 ((zfold (X7_nameAll_L99_F pts lns lm o0o) (X7_factorial_n pts) 0 ((zfold (X7_nameAll_L2_F) 13 0 kp), X7_sortForm_c105 fm0o lns, b0o, nm, ag, fr)).1)))]) rfl ?_
                  exact z_return dX7_nameAll_259 rfl (Nat.le_refl _) (Nat.le_refl _) (fun _ => rfl) ⟨rfl, by simp only [X7_nameAll_p76_16, X7_nameAll_c102, X7_nameAll_c103, X7_nameAll_c104, X7_nameAll_c105, X7_nameAll_c106, X7_nameAll_c107, X7_nameAll_c108, hR23, zlet_e, hR59, zlet_e]⟩
                · exact absurd (nI_le (Nat.le_refl _) (by omega)) c107
            · exact absurd (nI_le (Nat.le_refl _) (by omega)) c64
        · exact absurd (nI_le (Nat.le_refl _) (by omega)) c28
    · exact absurd (nI_le (Nat.le_refl _) (by omega)) c5
abbrev mX7_mayName : zM := (cX7_mayName, 1, (some .boolean), RX7, wsX7_mayName, "mayName")
theorem hiX7_mayName_X7 : ∀ w ∈ wsX70, w ∈ wsX7_mayName := fun w h => List.mem_cons_of_mem _ (List.mem_append_right _ h)
theorem lkX7_mayName_146 : Cond.fieldLink RX7 146 "ConfigSearchModel" "lines" "I" ∈ wsX7_mayName := by decide +kernel
theorem lkX7_mayName_143 : Cond.fieldLink RX7 143 "ConfigSearchModel" "points" "I" ∈ wsX7_mayName := by decide +kernel
theorem lkX7_mayName_162 : Cond.fieldLink RX7 162 "ConfigSearchModel" "isNamed" "Z" ∈ wsX7_mayName := by decide +kernel
theorem okk_X7_nameAll : zOk yX7_nameAll 0 := by unfold zOk; decide +kernel
def X7_mayName_v (pts lns : Nat) (isN : Int32) : Int32 := if (nI lns) = 0 then (nI 0) else (if (nI pts) ≤ (nI 7) then (if isN = 0 then (nI 1) else (nI 1)) else (nI 0))
def X7_mayName_p76_16 (pts lns : Nat) (isN : Int32) (lm fm bs ow : Nat → Int32) : Int32 := if (nI lns) = 0 then isN else (if (nI pts) ≤ (nI 7) then (if isN = 0 then (nI (X7_nameAll_p76_16 lns lm fm bs ow)) else isN) else isN)
def X7_mayName_c102 (pts lns : Nat) (isN : Int32) (lm nm ag fr fm bs ow kp : Nat → Int32) : Nat → Int32 := if (nI lns) = 0 then nm else (if (nI pts) ≤ (nI 7) then (if isN = 0 then (X7_nameAll_c102 pts lns lm nm ag fr fm bs ow kp) else nm) else nm)
def X7_mayName_c103 (pts lns : Nat) (isN : Int32) (lm nm ag fr fm bs ow kp : Nat → Int32) : Nat → Int32 := if (nI lns) = 0 then ag else (if (nI pts) ≤ (nI 7) then (if isN = 0 then (X7_nameAll_c103 pts lns lm nm ag fr fm bs ow kp) else ag) else ag)
def X7_mayName_c104 (pts lns : Nat) (isN : Int32) (lm nm ag fr fm bs ow kp : Nat → Int32) : Nat → Int32 := if (nI lns) = 0 then fr else (if (nI pts) ≤ (nI 7) then (if isN = 0 then (X7_nameAll_c104 pts lns lm nm ag fr fm bs ow kp) else fr) else fr)
def X7_mayName_c105 (pts lns : Nat) (isN : Int32) (lm nm ag fr fm bs ow kp : Nat → Int32) : Nat → Int32 := if (nI lns) = 0 then fm else (if (nI pts) ≤ (nI 7) then (if isN = 0 then (X7_nameAll_c105 pts lns lm nm ag fr fm bs ow kp) else fm) else fm)
def X7_mayName_c106 (pts lns : Nat) (isN : Int32) (lm nm ag fr fm bs ow kp : Nat → Int32) : Nat → Int32 := if (nI lns) = 0 then bs else (if (nI pts) ≤ (nI 7) then (if isN = 0 then (X7_nameAll_c106 pts lns lm nm ag fr fm bs ow kp) else bs) else bs)
def X7_mayName_c107 (pts lns : Nat) (isN : Int32) (lm fm bs ow : Nat → Int32) : Nat → Int32 := if (nI lns) = 0 then ow else (if (nI pts) ≤ (nI 7) then (if isN = 0 then (X7_nameAll_c107 lns lm fm bs ow) else ow) else ow)
def X7_mayName_c108 (pts lns : Nat) (isN : Int32) (lm nm ag fr fm bs ow kp : Nat → Int32) : Nat → Int32 := if (nI lns) = 0 then kp else (if (nI pts) ≤ (nI 7) then (if isN = 0 then (X7_nameAll_c108 pts lns lm nm ag fr fm bs ow kp) else kp) else kp)
set_option maxRecDepth 100000 in
set_option maxHeartbeats 4000000 in
theorem c_X7_mayName (G : zG) (ex : Bool) (g : Nat → va_E) (code : Int32) (tps pts lns wds brs ors : Nat) (stp hasP fld laid told : Int32) (rws : Nat) (cms : Int32) (cmT : Nat) (cmS isN : Int32) (trs : Nat) (lm nm ag fr fm bs ow kp : Nat → Int32)  (hl : lns ≤ 12) (hp9 : pts ≤ 10) (hN : pts ≤ 7 → nmOK pts) (h76 : g 76 = (oMod G code (nI tps) (nI pts) (nI lns) (nI wds) (nI brs) (nI ors) stp hasP fld laid told (nI rws) cms (nI cmT) cmS isN (nI trs))) (h82 : g 82 = (zI G 12 lm)) (h102 : g 102 = (zI G 7 nm)) (h103 : g 103 = (zI G 7 ag)) (h104 : g 104 = (zI G 7 fr)) (h105 : g 105 = (zI G 12 fm)) (h106 : g 106 = (zI G 12 bs)) (h107 : g 107 = (zI G 12 ow)) (h108 : g 108 = (zI G 13 kp)) : zC G yX7_mayName wsX7_mayName (zrm 3 71) ex [.ref (zB G + 76)] (zN, g) (fun r h => r = some (.int (X7_mayName_v pts lns isN)) ∧ h = (zN, zus g [(76, (oMod G code (nI tps) (nI pts) (nI lns) (nI wds) (nI brs) (nI ors) stp hasP fld laid told (nI rws) cms (nI cmT) cmS (X7_mayName_p76_16 pts lns isN lm fm bs ow) (nI trs))), (102, zI G 7 (X7_mayName_c102 pts lns isN lm nm ag fr fm bs ow kp)), (103, zI G 7 (X7_mayName_c103 pts lns isN lm nm ag fr fm bs ow kp)), (104, zI G 7 (X7_mayName_c104 pts lns isN lm nm ag fr fm bs ow kp)), (105, zI G 12 (X7_mayName_c105 pts lns isN lm nm ag fr fm bs ow kp)), (106, zI G 12 (X7_mayName_c106 pts lns isN lm nm ag fr fm bs ow kp)), (107, zI G 12 (X7_mayName_c107 pts lns isN lm fm bs ow)), (108, zI G 13 (X7_mayName_c108 pts lns isN lm nm ag fr fm bs ow kp))])) := by
  refine zC_of mX7_mayName (lv := [some (.ref (zB G + 76))]) rfl rfl (by decide) (by intro v hv; simp at hv; subst hv; rfl) (Nat.le_of_ble_eq_true rfl) rfl ?_
  refine z_0 ?_
  refine z_heap (g' := zu (zus g []) 76 (oMod G code (nI tps) (nI pts) (nI lns) (nI wds) (nI brs) (nI ors) stp hasP fld laid told (nI rws) cms (nI cmT) cmS isN (nI trs))) (zu_self (zus g []) 76 _ h76).symm ?_
  refine z_n (L' := [(76, (oMod G code (nI tps) (nI pts) (nI lns) (nI wds) (nI brs) (nI ors) stp hasP fld laid told (nI rws) cms (nI cmT) cmS isN (nI trs)))]) rfl ?_
  refine z_heap (g' := zu (zus g [(76, (oMod G code (nI tps) (nI pts) (nI lns) (nI wds) (nI brs) (nI ors) stp hasP fld laid told (nI rws) cms (nI cmT) cmS isN (nI trs)))]) 102 (zI G 7 nm)) (zu_self (zus g [(76, (oMod G code (nI tps) (nI pts) (nI lns) (nI wds) (nI brs) (nI ors) stp hasP fld laid told (nI rws) cms (nI cmT) cmS isN (nI trs)))]) 102 _ h102).symm ?_
  refine z_n (L' := [(76, (oMod G code (nI tps) (nI pts) (nI lns) (nI wds) (nI brs) (nI ors) stp hasP fld laid told (nI rws) cms (nI cmT) cmS isN (nI trs))), (102, (zI G 7 nm))]) rfl ?_
  refine z_heap (g' := zu (zus g [(76, (oMod G code (nI tps) (nI pts) (nI lns) (nI wds) (nI brs) (nI ors) stp hasP fld laid told (nI rws) cms (nI cmT) cmS isN (nI trs))), (102, (zI G 7 nm))]) 103 (zI G 7 ag)) (zu_self (zus g [(76, (oMod G code (nI tps) (nI pts) (nI lns) (nI wds) (nI brs) (nI ors) stp hasP fld laid told (nI rws) cms (nI cmT) cmS isN (nI trs))), (102, (zI G 7 nm))]) 103 _ h103).symm ?_
  refine z_n (L' := [(76, (oMod G code (nI tps) (nI pts) (nI lns) (nI wds) (nI brs) (nI ors) stp hasP fld laid told (nI rws) cms (nI cmT) cmS isN (nI trs))), (102, (zI G 7 nm)), (103, (zI G 7 ag))]) rfl ?_
  refine z_heap (g' := zu (zus g [(76, (oMod G code (nI tps) (nI pts) (nI lns) (nI wds) (nI brs) (nI ors) stp hasP fld laid told (nI rws) cms (nI cmT) cmS isN (nI trs))), (102, (zI G 7 nm)), (103, (zI G 7 ag))]) 104 (zI G 7 fr)) (zu_self (zus g [(76, (oMod G code (nI tps) (nI pts) (nI lns) (nI wds) (nI brs) (nI ors) stp hasP fld laid told (nI rws) cms (nI cmT) cmS isN (nI trs))), (102, (zI G 7 nm)), (103, (zI G 7 ag))]) 104 _ h104).symm ?_
  refine z_n (L' := [(76, (oMod G code (nI tps) (nI pts) (nI lns) (nI wds) (nI brs) (nI ors) stp hasP fld laid told (nI rws) cms (nI cmT) cmS isN (nI trs))), (102, (zI G 7 nm)), (103, (zI G 7 ag)), (104, (zI G 7 fr))]) rfl ?_
  refine z_heap (g' := zu (zus g [(76, (oMod G code (nI tps) (nI pts) (nI lns) (nI wds) (nI brs) (nI ors) stp hasP fld laid told (nI rws) cms (nI cmT) cmS isN (nI trs))), (102, (zI G 7 nm)), (103, (zI G 7 ag)), (104, (zI G 7 fr))]) 105 (zI G 12 fm)) (zu_self (zus g [(76, (oMod G code (nI tps) (nI pts) (nI lns) (nI wds) (nI brs) (nI ors) stp hasP fld laid told (nI rws) cms (nI cmT) cmS isN (nI trs))), (102, (zI G 7 nm)), (103, (zI G 7 ag)), (104, (zI G 7 fr))]) 105 _ h105).symm ?_
  refine z_n (L' := [(76, (oMod G code (nI tps) (nI pts) (nI lns) (nI wds) (nI brs) (nI ors) stp hasP fld laid told (nI rws) cms (nI cmT) cmS isN (nI trs))), (102, (zI G 7 nm)), (103, (zI G 7 ag)), (104, (zI G 7 fr)), (105, (zI G 12 fm))]) rfl ?_
  refine z_heap (g' := zu (zus g [(76, (oMod G code (nI tps) (nI pts) (nI lns) (nI wds) (nI brs) (nI ors) stp hasP fld laid told (nI rws) cms (nI cmT) cmS isN (nI trs))), (102, (zI G 7 nm)), (103, (zI G 7 ag)), (104, (zI G 7 fr)), (105, (zI G 12 fm))]) 106 (zI G 12 bs)) (zu_self (zus g [(76, (oMod G code (nI tps) (nI pts) (nI lns) (nI wds) (nI brs) (nI ors) stp hasP fld laid told (nI rws) cms (nI cmT) cmS isN (nI trs))), (102, (zI G 7 nm)), (103, (zI G 7 ag)), (104, (zI G 7 fr)), (105, (zI G 12 fm))]) 106 _ h106).symm ?_
  refine z_n (L' := [(76, (oMod G code (nI tps) (nI pts) (nI lns) (nI wds) (nI brs) (nI ors) stp hasP fld laid told (nI rws) cms (nI cmT) cmS isN (nI trs))), (102, (zI G 7 nm)), (103, (zI G 7 ag)), (104, (zI G 7 fr)), (105, (zI G 12 fm)), (106, (zI G 12 bs))]) rfl ?_
  refine z_heap (g' := zu (zus g [(76, (oMod G code (nI tps) (nI pts) (nI lns) (nI wds) (nI brs) (nI ors) stp hasP fld laid told (nI rws) cms (nI cmT) cmS isN (nI trs))), (102, (zI G 7 nm)), (103, (zI G 7 ag)), (104, (zI G 7 fr)), (105, (zI G 12 fm)), (106, (zI G 12 bs))]) 107 (zI G 12 ow)) (zu_self (zus g [(76, (oMod G code (nI tps) (nI pts) (nI lns) (nI wds) (nI brs) (nI ors) stp hasP fld laid told (nI rws) cms (nI cmT) cmS isN (nI trs))), (102, (zI G 7 nm)), (103, (zI G 7 ag)), (104, (zI G 7 fr)), (105, (zI G 12 fm)), (106, (zI G 12 bs))]) 107 _ h107).symm ?_
  refine z_n (L' := [(76, (oMod G code (nI tps) (nI pts) (nI lns) (nI wds) (nI brs) (nI ors) stp hasP fld laid told (nI rws) cms (nI cmT) cmS isN (nI trs))), (102, (zI G 7 nm)), (103, (zI G 7 ag)), (104, (zI G 7 fr)), (105, (zI G 12 fm)), (106, (zI G 12 bs)), (107, (zI G 12 ow))]) rfl ?_
  refine z_heap (g' := zu (zus g [(76, (oMod G code (nI tps) (nI pts) (nI lns) (nI wds) (nI brs) (nI ors) stp hasP fld laid told (nI rws) cms (nI cmT) cmS isN (nI trs))), (102, (zI G 7 nm)), (103, (zI G 7 ag)), (104, (zI G 7 fr)), (105, (zI G 12 fm)), (106, (zI G 12 bs)), (107, (zI G 12 ow))]) 108 (zI G 13 kp)) (zu_self (zus g [(76, (oMod G code (nI tps) (nI pts) (nI lns) (nI wds) (nI brs) (nI ors) stp hasP fld laid told (nI rws) cms (nI cmT) cmS isN (nI trs))), (102, (zI G 7 nm)), (103, (zI G 7 ag)), (104, (zI G 7 fr)), (105, (zI G 12 fm)), (106, (zI G 12 bs)), (107, (zI G 12 ow))]) 108 _ h108).symm ?_
  refine z_n (L' := [(76, (oMod G code (nI tps) (nI pts) (nI lns) (nI wds) (nI brs) (nI ors) stp hasP fld laid told (nI rws) cms (nI cmT) cmS isN (nI trs))), (102, (zI G 7 nm)), (103, (zI G 7 ag)), (104, (zI G 7 fr)), (105, (zI G 12 fm)), (106, (zI G 12 bs)), (107, (zI G 12 ow)), (108, (zI G 13 kp))]) rfl ?_
  refine z_aload_n dX7_mayName_0 rfl rfl ?_
  refine z_get dX7_mayName_1 rfl hiX7_mayName_X7 4 lkX7_mayName_146 (Nat.le_of_ble_eq_true rfl) rfl rfl (by decide) rfl ?_
  refine z_if_eq (tgt := 16) dX7_mayName_4 rfl (by decide) (fun c4 => ?_) (fun c4 => ?_)
  · refine z_iconst (v := nI 0) dX7_mayName_16 rfl (by decide) ?_
    exact z_ireturn dX7_mayName_17 rfl rfl (Nat.le_refl _) (Nat.le_refl _) (fun _ => rfl) ⟨by simp only [X7_mayName_v, if_pos c4], by simp only [X7_mayName_p76_16, X7_mayName_c102, X7_mayName_c103, X7_mayName_c104, X7_mayName_c105, X7_mayName_c106, X7_mayName_c107, X7_mayName_c108, if_pos c4]⟩
  · refine z_aload_n dX7_mayName_7 rfl rfl ?_
    refine z_get dX7_mayName_8 rfl hiX7_mayName_X7 3 lkX7_mayName_143 (Nat.le_of_ble_eq_true rfl) rfl rfl (by decide) rfl ?_
    refine z_bipush (v := nI 7) dX7_mayName_11 rfl (by decide) ?_
    refine z_icmp_le (tgt := 18) dX7_mayName_13 rfl (by decide) (fun c13 => ?_) (fun c13 => ?_)
    · have hp7 : pts ≤ 7 := Nat.not_lt.mp (fun q => absurd c13 (Int32.not_le.mpr (nI_lt q (by omega))))
      refine z_aload_n dX7_mayName_18 rfl rfl ?_
      refine z_get dX7_mayName_19 rfl hiX7_mayName_X7 47 lkX7_mayName_162 (Nat.le_of_ble_eq_true rfl) rfl rfl (by decide) rfl ?_
      refine z_if_ne (tgt := 29) dX7_mayName_22 rfl (by decide) (fun c22 => ?_) (fun c22 => ?_)
      · refine z_iconst (v := nI 1) dX7_mayName_29 rfl (by decide) ?_
        exact z_ireturn dX7_mayName_30 rfl rfl (Nat.le_refl _) (Nat.le_refl _) (fun _ => rfl) ⟨by simp only [X7_mayName_v, if_neg c4, if_pos c13, if_neg c22], by simp only [X7_mayName_p76_16, X7_mayName_c102, X7_mayName_c103, X7_mayName_c104, X7_mayName_c105, X7_mayName_c106, X7_mayName_c107, X7_mayName_c108, if_neg c4, if_pos c13, if_neg c22]⟩
      · refine z_aload_n dX7_mayName_25 rfl rfl ?_
        refine z_callVv (c_X7_nameAll G ex _ code tps pts lns wds brs ors stp hasP fld laid told rws cms cmT cmS isN trs lm nm ag fr fm bs ow kp (by omega) (by omega) (hN hp7) rfl h82 rfl rfl rfl rfl rfl rfl rfl) gX7_mayName_X7_nameAll rfl dX7_mayName_26 rfl rfl rfl okk_X7_nameAll (Nat.le_of_ble_eq_true rfl) rfl rfl ⟨Nat.le_of_ble_eq_true rfl, Nat.le_of_ble_eq_true rfl⟩ ⟨Nat.le_of_ble_eq_true rfl, Nat.le_of_ble_eq_true rfl⟩ (Nat.le_of_ble_eq_true rfl) ?_
        refine z_nn (L' := [(76, (oMod G code (nI tps) (nI pts) (nI lns) (nI wds) (nI brs) (nI ors) stp hasP fld laid told (nI rws) cms (nI cmT) cmS (nI (X7_nameAll_p76_16 lns lm fm bs ow)) (nI trs))), (102, (zI G 7 (X7_nameAll_c102 pts lns lm nm ag fr fm bs ow kp))), (103, (zI G 7 (X7_nameAll_c103 pts lns lm nm ag fr fm bs ow kp))), (104, (zI G 7 (X7_nameAll_c104 pts lns lm nm ag fr fm bs ow kp))), (105, (zI G 12 (X7_nameAll_c105 pts lns lm nm ag fr fm bs ow kp))), (106, (zI G 12 (X7_nameAll_c106 pts lns lm nm ag fr fm bs ow kp))), (107, (zI G 12 (X7_nameAll_c107 lns lm fm bs ow))), (108, (zI G 13 (X7_nameAll_c108 pts lns lm nm ag fr fm bs ow kp)))]) rfl ?_
        refine z_iconst (v := nI 1) dX7_mayName_29 rfl (by decide) ?_
        exact z_ireturn dX7_mayName_30 rfl rfl (Nat.le_refl _) (Nat.le_refl _) (fun _ => rfl) ⟨by simp only [X7_mayName_v, if_neg c4, if_pos c13, if_pos c22], by simp only [X7_mayName_p76_16, X7_mayName_c102, X7_mayName_c103, X7_mayName_c104, X7_mayName_c105, X7_mayName_c106, X7_mayName_c107, X7_mayName_c108, if_neg c4, if_pos c13, if_pos c22]⟩
    · refine z_iconst (v := nI 0) dX7_mayName_16 rfl (by decide) ?_
      exact z_ireturn dX7_mayName_17 rfl rfl (Nat.le_refl _) (Nat.le_refl _) (fun _ => rfl) ⟨by simp only [X7_mayName_v, if_neg c4, if_neg c13], by simp only [X7_mayName_p76_16, X7_mayName_c102, X7_mayName_c103, X7_mayName_c104, X7_mayName_c105, X7_mayName_c106, X7_mayName_c107, X7_mayName_c108, if_neg c4, if_neg c13]⟩
abbrev mX7_canonical : zM := (cX7_canonical, 2, (some .int), RX7, wsX7_canonical, "canonical")
theorem hiX7_canonical_X7 : ∀ w ∈ wsX70, w ∈ wsX7_canonical := fun w h => List.mem_cons_of_mem _ (List.mem_append_right _ h)
theorem lkX7_canonical_122 : Cond.fieldLink RX7 122 "ConfigSearchModel" "code" "I" ∈ wsX7_canonical := by decide +kernel
theorem okk_X7_mayName : zOk yX7_mayName 0 := by unfold zOk; decide +kernel
theorem lkX7_canonical_146 : Cond.fieldLink RX7 146 "ConfigSearchModel" "lines" "I" ∈ wsX7_canonical := by decide +kernel
theorem lkX7_canonical_101 : Cond.fieldLink RX7 101 "ConfigSearchModel" "best" "[I" ∈ wsX7_canonical := by decide +kernel
def X7_canonical_v (pts lns : Nat) (isN : Int32) (lm nm ag fr fm bs ow kp : Nat → Int32) (i : Int32) : Int32 := if (X7_mayName_v pts lns isN) = 0 then (-2) else (if (X7_isIn_v i (nI 0) ((nI lns) - (nI 1))) = 0 then (-4) else ((X7_mayName_c106 pts lns isN lm nm ag fr fm bs ow kp) i.toNatClampNeg))
def X7_canonical_p76_0 (pts lns : Nat) (isN : Int32) (i : Int32) : Nat := if (X7_mayName_v pts lns isN) = 0 then 0 else (if (X7_isIn_v i (nI 0) ((nI lns) - (nI 1))) = 0 then 0 else 0)
def X7_canonical_p76_16 (pts lns : Nat) (isN : Int32) (lm fm bs ow : Nat → Int32) (i : Int32) : Int32 := if (X7_mayName_v pts lns isN) = 0 then (X7_mayName_p76_16 pts lns isN lm fm bs ow) else (if (X7_isIn_v i (nI 0) ((nI lns) - (nI 1))) = 0 then (X7_mayName_p76_16 pts lns isN lm fm bs ow) else (X7_mayName_p76_16 pts lns isN lm fm bs ow))
def X7_canonical_c102 (pts lns : Nat) (isN : Int32) (lm nm ag fr fm bs ow kp : Nat → Int32) (i : Int32) : Nat → Int32 := if (X7_mayName_v pts lns isN) = 0 then (X7_mayName_c102 pts lns isN lm nm ag fr fm bs ow kp) else (if (X7_isIn_v i (nI 0) ((nI lns) - (nI 1))) = 0 then (X7_mayName_c102 pts lns isN lm nm ag fr fm bs ow kp) else (X7_mayName_c102 pts lns isN lm nm ag fr fm bs ow kp))
def X7_canonical_c103 (pts lns : Nat) (isN : Int32) (lm nm ag fr fm bs ow kp : Nat → Int32) (i : Int32) : Nat → Int32 := if (X7_mayName_v pts lns isN) = 0 then (X7_mayName_c103 pts lns isN lm nm ag fr fm bs ow kp) else (if (X7_isIn_v i (nI 0) ((nI lns) - (nI 1))) = 0 then (X7_mayName_c103 pts lns isN lm nm ag fr fm bs ow kp) else (X7_mayName_c103 pts lns isN lm nm ag fr fm bs ow kp))
def X7_canonical_c104 (pts lns : Nat) (isN : Int32) (lm nm ag fr fm bs ow kp : Nat → Int32) (i : Int32) : Nat → Int32 := if (X7_mayName_v pts lns isN) = 0 then (X7_mayName_c104 pts lns isN lm nm ag fr fm bs ow kp) else (if (X7_isIn_v i (nI 0) ((nI lns) - (nI 1))) = 0 then (X7_mayName_c104 pts lns isN lm nm ag fr fm bs ow kp) else (X7_mayName_c104 pts lns isN lm nm ag fr fm bs ow kp))
def X7_canonical_c105 (pts lns : Nat) (isN : Int32) (lm nm ag fr fm bs ow kp : Nat → Int32) (i : Int32) : Nat → Int32 := if (X7_mayName_v pts lns isN) = 0 then (X7_mayName_c105 pts lns isN lm nm ag fr fm bs ow kp) else (if (X7_isIn_v i (nI 0) ((nI lns) - (nI 1))) = 0 then (X7_mayName_c105 pts lns isN lm nm ag fr fm bs ow kp) else (X7_mayName_c105 pts lns isN lm nm ag fr fm bs ow kp))
def X7_canonical_c106 (pts lns : Nat) (isN : Int32) (lm nm ag fr fm bs ow kp : Nat → Int32) (i : Int32) : Nat → Int32 := if (X7_mayName_v pts lns isN) = 0 then (X7_mayName_c106 pts lns isN lm nm ag fr fm bs ow kp) else (if (X7_isIn_v i (nI 0) ((nI lns) - (nI 1))) = 0 then (X7_mayName_c106 pts lns isN lm nm ag fr fm bs ow kp) else (X7_mayName_c106 pts lns isN lm nm ag fr fm bs ow kp))
def X7_canonical_c107 (pts lns : Nat) (isN : Int32) (lm fm bs ow : Nat → Int32) (i : Int32) : Nat → Int32 := if (X7_mayName_v pts lns isN) = 0 then (X7_mayName_c107 pts lns isN lm fm bs ow) else (if (X7_isIn_v i (nI 0) ((nI lns) - (nI 1))) = 0 then (X7_mayName_c107 pts lns isN lm fm bs ow) else (X7_mayName_c107 pts lns isN lm fm bs ow))
def X7_canonical_c108 (pts lns : Nat) (isN : Int32) (lm nm ag fr fm bs ow kp : Nat → Int32) (i : Int32) : Nat → Int32 := if (X7_mayName_v pts lns isN) = 0 then (X7_mayName_c108 pts lns isN lm nm ag fr fm bs ow kp) else (if (X7_isIn_v i (nI 0) ((nI lns) - (nI 1))) = 0 then (X7_mayName_c108 pts lns isN lm nm ag fr fm bs ow kp) else (X7_mayName_c108 pts lns isN lm nm ag fr fm bs ow kp))
set_option maxRecDepth 100000 in
set_option maxHeartbeats 4000000 in
theorem c_X7_canonical (G : zG) (ex : Bool) (g : Nat → va_E) (code : Int32) (tps pts lns wds brs ors : Nat) (stp hasP fld laid told : Int32) (rws : Nat) (cms : Int32) (cmT : Nat) (cmS isN : Int32) (trs : Nat) (lm nm ag fr fm bs ow kp : Nat → Int32) (i : Int32) (hl : lns ≤ 12) (hp9 : pts ≤ 10) (hN : pts ≤ 7 → nmOK pts) (h76 : g 76 = (oMod G code (nI tps) (nI pts) (nI lns) (nI wds) (nI brs) (nI ors) stp hasP fld laid told (nI rws) cms (nI cmT) cmS isN (nI trs))) (h82 : g 82 = (zI G 12 lm)) (h102 : g 102 = (zI G 7 nm)) (h103 : g 103 = (zI G 7 ag)) (h104 : g 104 = (zI G 7 fr)) (h105 : g 105 = (zI G 12 fm)) (h106 : g 106 = (zI G 12 bs)) (h107 : g 107 = (zI G 12 ow)) (h108 : g 108 = (zI G 13 kp)) : zC G yX7_canonical wsX7_canonical (zrm 4 91) ex [.ref (zB G + 76), .int i] (zN, g) (fun r h => r = some (.int (X7_canonical_v pts lns isN lm nm ag fr fm bs ow kp i)) ∧ h = (zN, zus g [(76, (oMod G (nI (X7_canonical_p76_0 pts lns isN i)) (nI tps) (nI pts) (nI lns) (nI wds) (nI brs) (nI ors) stp hasP fld laid told (nI rws) cms (nI cmT) cmS (X7_canonical_p76_16 pts lns isN lm fm bs ow i) (nI trs))), (102, zI G 7 (X7_canonical_c102 pts lns isN lm nm ag fr fm bs ow kp i)), (103, zI G 7 (X7_canonical_c103 pts lns isN lm nm ag fr fm bs ow kp i)), (104, zI G 7 (X7_canonical_c104 pts lns isN lm nm ag fr fm bs ow kp i)), (105, zI G 12 (X7_canonical_c105 pts lns isN lm nm ag fr fm bs ow kp i)), (106, zI G 12 (X7_canonical_c106 pts lns isN lm nm ag fr fm bs ow kp i)), (107, zI G 12 (X7_canonical_c107 pts lns isN lm fm bs ow i)), (108, zI G 13 (X7_canonical_c108 pts lns isN lm nm ag fr fm bs ow kp i))])) := by
  refine zC_of mX7_canonical (lv := [some (.ref (zB G + 76)), some (.int i)]) rfl rfl (by decide) (by intro v hv; simp at hv; rcases hv with rfl | rfl <;> rfl) (Nat.le_of_ble_eq_true rfl) rfl ?_
  refine z_0 ?_
  refine z_heap (g' := zu (zus g []) 76 (oMod G code (nI tps) (nI pts) (nI lns) (nI wds) (nI brs) (nI ors) stp hasP fld laid told (nI rws) cms (nI cmT) cmS isN (nI trs))) (zu_self (zus g []) 76 _ h76).symm ?_
  refine z_n (L' := [(76, (oMod G code (nI tps) (nI pts) (nI lns) (nI wds) (nI brs) (nI ors) stp hasP fld laid told (nI rws) cms (nI cmT) cmS isN (nI trs)))]) rfl ?_
  refine z_heap (g' := zu (zus g [(76, (oMod G code (nI tps) (nI pts) (nI lns) (nI wds) (nI brs) (nI ors) stp hasP fld laid told (nI rws) cms (nI cmT) cmS isN (nI trs)))]) 102 (zI G 7 nm)) (zu_self (zus g [(76, (oMod G code (nI tps) (nI pts) (nI lns) (nI wds) (nI brs) (nI ors) stp hasP fld laid told (nI rws) cms (nI cmT) cmS isN (nI trs)))]) 102 _ h102).symm ?_
  refine z_n (L' := [(76, (oMod G code (nI tps) (nI pts) (nI lns) (nI wds) (nI brs) (nI ors) stp hasP fld laid told (nI rws) cms (nI cmT) cmS isN (nI trs))), (102, (zI G 7 nm))]) rfl ?_
  refine z_heap (g' := zu (zus g [(76, (oMod G code (nI tps) (nI pts) (nI lns) (nI wds) (nI brs) (nI ors) stp hasP fld laid told (nI rws) cms (nI cmT) cmS isN (nI trs))), (102, (zI G 7 nm))]) 103 (zI G 7 ag)) (zu_self (zus g [(76, (oMod G code (nI tps) (nI pts) (nI lns) (nI wds) (nI brs) (nI ors) stp hasP fld laid told (nI rws) cms (nI cmT) cmS isN (nI trs))), (102, (zI G 7 nm))]) 103 _ h103).symm ?_
  refine z_n (L' := [(76, (oMod G code (nI tps) (nI pts) (nI lns) (nI wds) (nI brs) (nI ors) stp hasP fld laid told (nI rws) cms (nI cmT) cmS isN (nI trs))), (102, (zI G 7 nm)), (103, (zI G 7 ag))]) rfl ?_
  refine z_heap (g' := zu (zus g [(76, (oMod G code (nI tps) (nI pts) (nI lns) (nI wds) (nI brs) (nI ors) stp hasP fld laid told (nI rws) cms (nI cmT) cmS isN (nI trs))), (102, (zI G 7 nm)), (103, (zI G 7 ag))]) 104 (zI G 7 fr)) (zu_self (zus g [(76, (oMod G code (nI tps) (nI pts) (nI lns) (nI wds) (nI brs) (nI ors) stp hasP fld laid told (nI rws) cms (nI cmT) cmS isN (nI trs))), (102, (zI G 7 nm)), (103, (zI G 7 ag))]) 104 _ h104).symm ?_
  refine z_n (L' := [(76, (oMod G code (nI tps) (nI pts) (nI lns) (nI wds) (nI brs) (nI ors) stp hasP fld laid told (nI rws) cms (nI cmT) cmS isN (nI trs))), (102, (zI G 7 nm)), (103, (zI G 7 ag)), (104, (zI G 7 fr))]) rfl ?_
  refine z_heap (g' := zu (zus g [(76, (oMod G code (nI tps) (nI pts) (nI lns) (nI wds) (nI brs) (nI ors) stp hasP fld laid told (nI rws) cms (nI cmT) cmS isN (nI trs))), (102, (zI G 7 nm)), (103, (zI G 7 ag)), (104, (zI G 7 fr))]) 105 (zI G 12 fm)) (zu_self (zus g [(76, (oMod G code (nI tps) (nI pts) (nI lns) (nI wds) (nI brs) (nI ors) stp hasP fld laid told (nI rws) cms (nI cmT) cmS isN (nI trs))), (102, (zI G 7 nm)), (103, (zI G 7 ag)), (104, (zI G 7 fr))]) 105 _ h105).symm ?_
  refine z_n (L' := [(76, (oMod G code (nI tps) (nI pts) (nI lns) (nI wds) (nI brs) (nI ors) stp hasP fld laid told (nI rws) cms (nI cmT) cmS isN (nI trs))), (102, (zI G 7 nm)), (103, (zI G 7 ag)), (104, (zI G 7 fr)), (105, (zI G 12 fm))]) rfl ?_
  refine z_heap (g' := zu (zus g [(76, (oMod G code (nI tps) (nI pts) (nI lns) (nI wds) (nI brs) (nI ors) stp hasP fld laid told (nI rws) cms (nI cmT) cmS isN (nI trs))), (102, (zI G 7 nm)), (103, (zI G 7 ag)), (104, (zI G 7 fr)), (105, (zI G 12 fm))]) 106 (zI G 12 bs)) (zu_self (zus g [(76, (oMod G code (nI tps) (nI pts) (nI lns) (nI wds) (nI brs) (nI ors) stp hasP fld laid told (nI rws) cms (nI cmT) cmS isN (nI trs))), (102, (zI G 7 nm)), (103, (zI G 7 ag)), (104, (zI G 7 fr)), (105, (zI G 12 fm))]) 106 _ h106).symm ?_
  refine z_n (L' := [(76, (oMod G code (nI tps) (nI pts) (nI lns) (nI wds) (nI brs) (nI ors) stp hasP fld laid told (nI rws) cms (nI cmT) cmS isN (nI trs))), (102, (zI G 7 nm)), (103, (zI G 7 ag)), (104, (zI G 7 fr)), (105, (zI G 12 fm)), (106, (zI G 12 bs))]) rfl ?_
  refine z_heap (g' := zu (zus g [(76, (oMod G code (nI tps) (nI pts) (nI lns) (nI wds) (nI brs) (nI ors) stp hasP fld laid told (nI rws) cms (nI cmT) cmS isN (nI trs))), (102, (zI G 7 nm)), (103, (zI G 7 ag)), (104, (zI G 7 fr)), (105, (zI G 12 fm)), (106, (zI G 12 bs))]) 107 (zI G 12 ow)) (zu_self (zus g [(76, (oMod G code (nI tps) (nI pts) (nI lns) (nI wds) (nI brs) (nI ors) stp hasP fld laid told (nI rws) cms (nI cmT) cmS isN (nI trs))), (102, (zI G 7 nm)), (103, (zI G 7 ag)), (104, (zI G 7 fr)), (105, (zI G 12 fm)), (106, (zI G 12 bs))]) 107 _ h107).symm ?_
  refine z_n (L' := [(76, (oMod G code (nI tps) (nI pts) (nI lns) (nI wds) (nI brs) (nI ors) stp hasP fld laid told (nI rws) cms (nI cmT) cmS isN (nI trs))), (102, (zI G 7 nm)), (103, (zI G 7 ag)), (104, (zI G 7 fr)), (105, (zI G 12 fm)), (106, (zI G 12 bs)), (107, (zI G 12 ow))]) rfl ?_
  refine z_heap (g' := zu (zus g [(76, (oMod G code (nI tps) (nI pts) (nI lns) (nI wds) (nI brs) (nI ors) stp hasP fld laid told (nI rws) cms (nI cmT) cmS isN (nI trs))), (102, (zI G 7 nm)), (103, (zI G 7 ag)), (104, (zI G 7 fr)), (105, (zI G 12 fm)), (106, (zI G 12 bs)), (107, (zI G 12 ow))]) 108 (zI G 13 kp)) (zu_self (zus g [(76, (oMod G code (nI tps) (nI pts) (nI lns) (nI wds) (nI brs) (nI ors) stp hasP fld laid told (nI rws) cms (nI cmT) cmS isN (nI trs))), (102, (zI G 7 nm)), (103, (zI G 7 ag)), (104, (zI G 7 fr)), (105, (zI G 12 fm)), (106, (zI G 12 bs)), (107, (zI G 12 ow))]) 108 _ h108).symm ?_
  refine z_n (L' := [(76, (oMod G code (nI tps) (nI pts) (nI lns) (nI wds) (nI brs) (nI ors) stp hasP fld laid told (nI rws) cms (nI cmT) cmS isN (nI trs))), (102, (zI G 7 nm)), (103, (zI G 7 ag)), (104, (zI G 7 fr)), (105, (zI G 12 fm)), (106, (zI G 12 bs)), (107, (zI G 12 ow)), (108, (zI G 13 kp))]) rfl ?_
  refine z_aload_n dX7_canonical_0 rfl rfl ?_
  refine z_iconst (v := nI 0) dX7_canonical_1 rfl (by decide) ?_
  refine z_putN (e9 := (oMod G (nI 0) (nI tps) (nI pts) (nI lns) (nI wds) (nI brs) (nI ors) stp hasP fld laid told (nI rws) cms (nI cmT) cmS isN (nI trs))) tyX7 tyX7_ok nmX7 dX7_canonical_2 rfl hiX7_canonical_X7 0 lkX7_canonical_122 rfl (by decide +kernel) (Nat.le_of_ble_eq_true rfl) rfl rfl (by decide) (Nat.le_of_ble_eq_true rfl) rfl rfl rfl ?_
  refine z_n (L' := [(76, (oMod G (nI 0) (nI tps) (nI pts) (nI lns) (nI wds) (nI brs) (nI ors) stp hasP fld laid told (nI rws) cms (nI cmT) cmS isN (nI trs))), (102, (zI G 7 nm)), (103, (zI G 7 ag)), (104, (zI G 7 fr)), (105, (zI G 12 fm)), (106, (zI G 12 bs)), (107, (zI G 12 ow)), (108, (zI G 13 kp))]) rfl ?_
  refine z_aload_n dX7_canonical_5 rfl rfl ?_
  refine z_callVi (c_X7_mayName G ex _ (nI 0) tps pts lns wds brs ors stp hasP fld laid told rws cms cmT cmS isN trs lm nm ag fr fm bs ow kp (by omega) (by omega) (by assumption) rfl h82 rfl rfl rfl rfl rfl rfl rfl) gX7_canonical_X7_mayName rfl dX7_canonical_6 rfl rfl rfl okk_X7_mayName (Nat.le_of_ble_eq_true rfl) rfl rfl ⟨Nat.le_of_ble_eq_true rfl, Nat.le_of_ble_eq_true rfl⟩ ⟨Nat.le_of_ble_eq_true rfl, Nat.le_of_ble_eq_true rfl⟩ (Nat.le_of_ble_eq_true rfl) ?_
  refine z_nn (L' := [(76, (oMod G (nI 0) (nI tps) (nI pts) (nI lns) (nI wds) (nI brs) (nI ors) stp hasP fld laid told (nI rws) cms (nI cmT) cmS (X7_mayName_p76_16 pts lns isN lm fm bs ow) (nI trs))), (102, (zI G 7 (X7_mayName_c102 pts lns isN lm nm ag fr fm bs ow kp))), (103, (zI G 7 (X7_mayName_c103 pts lns isN lm nm ag fr fm bs ow kp))), (104, (zI G 7 (X7_mayName_c104 pts lns isN lm nm ag fr fm bs ow kp))), (105, (zI G 12 (X7_mayName_c105 pts lns isN lm nm ag fr fm bs ow kp))), (106, (zI G 12 (X7_mayName_c106 pts lns isN lm nm ag fr fm bs ow kp))), (107, (zI G 12 (X7_mayName_c107 pts lns isN lm fm bs ow))), (108, (zI G 13 (X7_mayName_c108 pts lns isN lm nm ag fr fm bs ow kp)))]) rfl ?_
  refine z_if_ne (tgt := 15) dX7_canonical_9 rfl (by decide) (fun c9 => ?_) (fun c9 => ?_)
  · refine z_iload_n dX7_canonical_15 rfl rfl ?_
    refine z_iconst (v := nI 0) dX7_canonical_16 rfl (by decide) ?_
    refine z_aload_n dX7_canonical_17 rfl rfl ?_
    refine z_get dX7_canonical_18 rfl hiX7_canonical_X7 4 lkX7_canonical_146 (Nat.le_of_ble_eq_true rfl) rfl rfl (by decide) rfl ?_
    refine z_iconst (v := nI 1) dX7_canonical_21 rfl (by decide) ?_
    refine z_isub dX7_canonical_22 rfl ?_
    refine z_callSi (c_X7_isIn G ex _ i (nI 0) ((nI lns) - (nI 1))) gX7_canonical_X7_isIn rfl dX7_canonical_23 rfl rfl okk_X7_isIn ⟨Nat.le_of_ble_eq_true rfl, Nat.le_of_ble_eq_true rfl⟩ ⟨Nat.le_of_ble_eq_true rfl, Nat.le_of_ble_eq_true rfl⟩ (Nat.le_of_ble_eq_true rfl) ?_
    refine z_if_eq (tgt := 38) dX7_canonical_26 rfl (by decide) (fun c26 => ?_) (fun c26 => ?_)
    · refine z_bipush (v := (-4)) dX7_canonical_38 rfl (by decide) ?_
      exact z_ireturn dX7_canonical_40 rfl rfl (Nat.le_refl _) (Nat.le_refl _) (fun _ => rfl) ⟨by simp only [X7_canonical_v, if_neg c9, if_pos c26], by simp only [X7_canonical_p76_0, X7_canonical_p76_16, X7_canonical_c102, X7_canonical_c103, X7_canonical_c104, X7_canonical_c105, X7_canonical_c106, X7_canonical_c107, X7_canonical_c108, if_neg c9, if_pos c26]⟩
    · have hvi : vp_in i lns := isIn_in c26 (by omega)
      have hli := zvlt hvi
      refine z_lv (congrArg (fun z9 : Int32 => ([some (.ref (zB G + 76)), some (.int z9)] : List (Option Value))) (show i = (nI i.toNatClampNeg) from zvin hvi)) ?_
      refine z_aload_n dX7_canonical_29 rfl rfl ?_
      refine z_get dX7_canonical_30 rfl hiX7_canonical_X7 45 lkX7_canonical_101 (Nat.le_of_ble_eq_true rfl) rfl rfl (by decide) rfl ?_
      refine z_iload_n dX7_canonical_33 rfl rfl ?_
      refine z_ialdN (j := i.toNatClampNeg) dX7_canonical_34 rfl (Nat.le_of_ble_eq_true rfl) rfl (rfl) (by omega) (by decide) ?_
      refine z_goto (tgt := 40) dX7_canonical_35 (by decide) ?_
      exact z_ireturn dX7_canonical_40 rfl rfl (Nat.le_refl _) (Nat.le_refl _) (fun _ => rfl) ⟨by simp only [X7_canonical_v, if_neg c9, if_neg c26], by simp only [X7_canonical_p76_0, X7_canonical_p76_16, X7_canonical_c102, X7_canonical_c103, X7_canonical_c104, X7_canonical_c105, X7_canonical_c106, X7_canonical_c107, X7_canonical_c108, if_neg c9, if_neg c26]⟩
  · refine z_bipush (v := (-2)) dX7_canonical_12 rfl (by decide) ?_
    exact z_ireturn dX7_canonical_14 rfl rfl (Nat.le_refl _) (Nat.le_refl _) (fun _ => rfl) ⟨by simp only [X7_canonical_v, if_pos c9], by simp only [X7_canonical_p76_0, X7_canonical_p76_16, X7_canonical_c102, X7_canonical_c103, X7_canonical_c104, X7_canonical_c105, X7_canonical_c106, X7_canonical_c107, X7_canonical_c108, if_pos c9]⟩
theorem zlt_k9 {x : Int32} {n : Nat} (h0 : 0 ≤ x) (h : x < nI n) (hn : n < 2147483648) : vp_in x n := zlt_in9 (Int32.not_lt.mpr h0) (Int32.not_le.mpr h) hn
abbrev mX7_orbit : zM := (cX7_orbit, 2, (some .int), RX7, wsX7_orbit, "orbit")
theorem hiX7_orbit_X7 : ∀ w ∈ wsX70, w ∈ wsX7_orbit := fun w h => List.mem_cons_of_mem _ (List.mem_append_right _ h)
theorem lkX7_orbit_122 : Cond.fieldLink RX7 122 "ConfigSearchModel" "code" "I" ∈ wsX7_orbit := by decide +kernel
theorem lkX7_orbit_107 : Cond.fieldLink RX7 107 "ConfigSearchModel" "keeps" "[I" ∈ wsX7_orbit := by decide +kernel
def X7_orbit_v (pts lns : Nat) (isN : Int32) (lm nm ag fr fm bs ow kp : Nat → Int32) (i : Int32) : Int32 := if 0 ≤ i then (if (X7_mayName_v pts lns isN) = 0 then (-2) else (if (nI 13) ≤ i then (nI 0) else ((X7_mayName_c108 pts lns isN lm nm ag fr fm bs ow kp) i.toNatClampNeg))) else (-9)
def X7_orbit_p76_0 (pts lns : Nat) (isN : Int32) (i : Int32) : Nat := if 0 ≤ i then (if (X7_mayName_v pts lns isN) = 0 then 0 else (if (nI 13) ≤ i then 0 else 0)) else 0
def X7_orbit_p76_16 (pts lns : Nat) (isN : Int32) (lm fm bs ow : Nat → Int32) (i : Int32) : Int32 := if 0 ≤ i then (if (X7_mayName_v pts lns isN) = 0 then (X7_mayName_p76_16 pts lns isN lm fm bs ow) else (if (nI 13) ≤ i then (X7_mayName_p76_16 pts lns isN lm fm bs ow) else (X7_mayName_p76_16 pts lns isN lm fm bs ow))) else isN
def X7_orbit_c102 (pts lns : Nat) (isN : Int32) (lm nm ag fr fm bs ow kp : Nat → Int32) (i : Int32) : Nat → Int32 := if 0 ≤ i then (if (X7_mayName_v pts lns isN) = 0 then (X7_mayName_c102 pts lns isN lm nm ag fr fm bs ow kp) else (if (nI 13) ≤ i then (X7_mayName_c102 pts lns isN lm nm ag fr fm bs ow kp) else (X7_mayName_c102 pts lns isN lm nm ag fr fm bs ow kp))) else nm
def X7_orbit_c103 (pts lns : Nat) (isN : Int32) (lm nm ag fr fm bs ow kp : Nat → Int32) (i : Int32) : Nat → Int32 := if 0 ≤ i then (if (X7_mayName_v pts lns isN) = 0 then (X7_mayName_c103 pts lns isN lm nm ag fr fm bs ow kp) else (if (nI 13) ≤ i then (X7_mayName_c103 pts lns isN lm nm ag fr fm bs ow kp) else (X7_mayName_c103 pts lns isN lm nm ag fr fm bs ow kp))) else ag
def X7_orbit_c104 (pts lns : Nat) (isN : Int32) (lm nm ag fr fm bs ow kp : Nat → Int32) (i : Int32) : Nat → Int32 := if 0 ≤ i then (if (X7_mayName_v pts lns isN) = 0 then (X7_mayName_c104 pts lns isN lm nm ag fr fm bs ow kp) else (if (nI 13) ≤ i then (X7_mayName_c104 pts lns isN lm nm ag fr fm bs ow kp) else (X7_mayName_c104 pts lns isN lm nm ag fr fm bs ow kp))) else fr
def X7_orbit_c105 (pts lns : Nat) (isN : Int32) (lm nm ag fr fm bs ow kp : Nat → Int32) (i : Int32) : Nat → Int32 := if 0 ≤ i then (if (X7_mayName_v pts lns isN) = 0 then (X7_mayName_c105 pts lns isN lm nm ag fr fm bs ow kp) else (if (nI 13) ≤ i then (X7_mayName_c105 pts lns isN lm nm ag fr fm bs ow kp) else (X7_mayName_c105 pts lns isN lm nm ag fr fm bs ow kp))) else fm
def X7_orbit_c106 (pts lns : Nat) (isN : Int32) (lm nm ag fr fm bs ow kp : Nat → Int32) (i : Int32) : Nat → Int32 := if 0 ≤ i then (if (X7_mayName_v pts lns isN) = 0 then (X7_mayName_c106 pts lns isN lm nm ag fr fm bs ow kp) else (if (nI 13) ≤ i then (X7_mayName_c106 pts lns isN lm nm ag fr fm bs ow kp) else (X7_mayName_c106 pts lns isN lm nm ag fr fm bs ow kp))) else bs
def X7_orbit_c107 (pts lns : Nat) (isN : Int32) (lm fm bs ow : Nat → Int32) (i : Int32) : Nat → Int32 := if 0 ≤ i then (if (X7_mayName_v pts lns isN) = 0 then (X7_mayName_c107 pts lns isN lm fm bs ow) else (if (nI 13) ≤ i then (X7_mayName_c107 pts lns isN lm fm bs ow) else (X7_mayName_c107 pts lns isN lm fm bs ow))) else ow
def X7_orbit_c108 (pts lns : Nat) (isN : Int32) (lm nm ag fr fm bs ow kp : Nat → Int32) (i : Int32) : Nat → Int32 := if 0 ≤ i then (if (X7_mayName_v pts lns isN) = 0 then (X7_mayName_c108 pts lns isN lm nm ag fr fm bs ow kp) else (if (nI 13) ≤ i then (X7_mayName_c108 pts lns isN lm nm ag fr fm bs ow kp) else (X7_mayName_c108 pts lns isN lm nm ag fr fm bs ow kp))) else kp
set_option maxRecDepth 100000 in
set_option maxHeartbeats 4000000 in
theorem c_X7_orbit (G : zG) (ex : Bool) (g : Nat → va_E) (code : Int32) (tps pts lns wds brs ors : Nat) (stp hasP fld laid told : Int32) (rws : Nat) (cms : Int32) (cmT : Nat) (cmS isN : Int32) (trs : Nat) (lm nm ag fr fm bs ow kp : Nat → Int32) (i : Int32) (hl : lns ≤ 12) (hp9 : pts ≤ 10) (hN : pts ≤ 7 → nmOK pts) (h76 : g 76 = (oMod G code (nI tps) (nI pts) (nI lns) (nI wds) (nI brs) (nI ors) stp hasP fld laid told (nI rws) cms (nI cmT) cmS isN (nI trs))) (h82 : g 82 = (zI G 12 lm)) (h102 : g 102 = (zI G 7 nm)) (h103 : g 103 = (zI G 7 ag)) (h104 : g 104 = (zI G 7 fr)) (h105 : g 105 = (zI G 12 fm)) (h106 : g 106 = (zI G 12 bs)) (h107 : g 107 = (zI G 12 ow)) (h108 : g 108 = (zI G 13 kp)) : zC G yX7_orbit wsX7_orbit (zrm 4 91) ex [.ref (zB G + 76), .int i] (zN, g) (fun r h => r = some (.int (X7_orbit_v pts lns isN lm nm ag fr fm bs ow kp i)) ∧ h = (zN, zus g [(76, (oMod G (nI (X7_orbit_p76_0 pts lns isN i)) (nI tps) (nI pts) (nI lns) (nI wds) (nI brs) (nI ors) stp hasP fld laid told (nI rws) cms (nI cmT) cmS (X7_orbit_p76_16 pts lns isN lm fm bs ow i) (nI trs))), (102, zI G 7 (X7_orbit_c102 pts lns isN lm nm ag fr fm bs ow kp i)), (103, zI G 7 (X7_orbit_c103 pts lns isN lm nm ag fr fm bs ow kp i)), (104, zI G 7 (X7_orbit_c104 pts lns isN lm nm ag fr fm bs ow kp i)), (105, zI G 12 (X7_orbit_c105 pts lns isN lm nm ag fr fm bs ow kp i)), (106, zI G 12 (X7_orbit_c106 pts lns isN lm nm ag fr fm bs ow kp i)), (107, zI G 12 (X7_orbit_c107 pts lns isN lm fm bs ow i)), (108, zI G 13 (X7_orbit_c108 pts lns isN lm nm ag fr fm bs ow kp i))])) := by
  refine zC_of mX7_orbit (lv := [some (.ref (zB G + 76)), some (.int i)]) rfl rfl (by decide) (by intro v hv; simp at hv; rcases hv with rfl | rfl <;> rfl) (Nat.le_of_ble_eq_true rfl) rfl ?_
  refine z_0 ?_
  refine z_heap (g' := zu (zus g []) 76 (oMod G code (nI tps) (nI pts) (nI lns) (nI wds) (nI brs) (nI ors) stp hasP fld laid told (nI rws) cms (nI cmT) cmS isN (nI trs))) (zu_self (zus g []) 76 _ h76).symm ?_
  refine z_n (L' := [(76, (oMod G code (nI tps) (nI pts) (nI lns) (nI wds) (nI brs) (nI ors) stp hasP fld laid told (nI rws) cms (nI cmT) cmS isN (nI trs)))]) rfl ?_
  refine z_heap (g' := zu (zus g [(76, (oMod G code (nI tps) (nI pts) (nI lns) (nI wds) (nI brs) (nI ors) stp hasP fld laid told (nI rws) cms (nI cmT) cmS isN (nI trs)))]) 102 (zI G 7 nm)) (zu_self (zus g [(76, (oMod G code (nI tps) (nI pts) (nI lns) (nI wds) (nI brs) (nI ors) stp hasP fld laid told (nI rws) cms (nI cmT) cmS isN (nI trs)))]) 102 _ h102).symm ?_
  refine z_n (L' := [(76, (oMod G code (nI tps) (nI pts) (nI lns) (nI wds) (nI brs) (nI ors) stp hasP fld laid told (nI rws) cms (nI cmT) cmS isN (nI trs))), (102, (zI G 7 nm))]) rfl ?_
  refine z_heap (g' := zu (zus g [(76, (oMod G code (nI tps) (nI pts) (nI lns) (nI wds) (nI brs) (nI ors) stp hasP fld laid told (nI rws) cms (nI cmT) cmS isN (nI trs))), (102, (zI G 7 nm))]) 103 (zI G 7 ag)) (zu_self (zus g [(76, (oMod G code (nI tps) (nI pts) (nI lns) (nI wds) (nI brs) (nI ors) stp hasP fld laid told (nI rws) cms (nI cmT) cmS isN (nI trs))), (102, (zI G 7 nm))]) 103 _ h103).symm ?_
  refine z_n (L' := [(76, (oMod G code (nI tps) (nI pts) (nI lns) (nI wds) (nI brs) (nI ors) stp hasP fld laid told (nI rws) cms (nI cmT) cmS isN (nI trs))), (102, (zI G 7 nm)), (103, (zI G 7 ag))]) rfl ?_
  refine z_heap (g' := zu (zus g [(76, (oMod G code (nI tps) (nI pts) (nI lns) (nI wds) (nI brs) (nI ors) stp hasP fld laid told (nI rws) cms (nI cmT) cmS isN (nI trs))), (102, (zI G 7 nm)), (103, (zI G 7 ag))]) 104 (zI G 7 fr)) (zu_self (zus g [(76, (oMod G code (nI tps) (nI pts) (nI lns) (nI wds) (nI brs) (nI ors) stp hasP fld laid told (nI rws) cms (nI cmT) cmS isN (nI trs))), (102, (zI G 7 nm)), (103, (zI G 7 ag))]) 104 _ h104).symm ?_
  refine z_n (L' := [(76, (oMod G code (nI tps) (nI pts) (nI lns) (nI wds) (nI brs) (nI ors) stp hasP fld laid told (nI rws) cms (nI cmT) cmS isN (nI trs))), (102, (zI G 7 nm)), (103, (zI G 7 ag)), (104, (zI G 7 fr))]) rfl ?_
  refine z_heap (g' := zu (zus g [(76, (oMod G code (nI tps) (nI pts) (nI lns) (nI wds) (nI brs) (nI ors) stp hasP fld laid told (nI rws) cms (nI cmT) cmS isN (nI trs))), (102, (zI G 7 nm)), (103, (zI G 7 ag)), (104, (zI G 7 fr))]) 105 (zI G 12 fm)) (zu_self (zus g [(76, (oMod G code (nI tps) (nI pts) (nI lns) (nI wds) (nI brs) (nI ors) stp hasP fld laid told (nI rws) cms (nI cmT) cmS isN (nI trs))), (102, (zI G 7 nm)), (103, (zI G 7 ag)), (104, (zI G 7 fr))]) 105 _ h105).symm ?_
  refine z_n (L' := [(76, (oMod G code (nI tps) (nI pts) (nI lns) (nI wds) (nI brs) (nI ors) stp hasP fld laid told (nI rws) cms (nI cmT) cmS isN (nI trs))), (102, (zI G 7 nm)), (103, (zI G 7 ag)), (104, (zI G 7 fr)), (105, (zI G 12 fm))]) rfl ?_
  refine z_heap (g' := zu (zus g [(76, (oMod G code (nI tps) (nI pts) (nI lns) (nI wds) (nI brs) (nI ors) stp hasP fld laid told (nI rws) cms (nI cmT) cmS isN (nI trs))), (102, (zI G 7 nm)), (103, (zI G 7 ag)), (104, (zI G 7 fr)), (105, (zI G 12 fm))]) 106 (zI G 12 bs)) (zu_self (zus g [(76, (oMod G code (nI tps) (nI pts) (nI lns) (nI wds) (nI brs) (nI ors) stp hasP fld laid told (nI rws) cms (nI cmT) cmS isN (nI trs))), (102, (zI G 7 nm)), (103, (zI G 7 ag)), (104, (zI G 7 fr)), (105, (zI G 12 fm))]) 106 _ h106).symm ?_
  refine z_n (L' := [(76, (oMod G code (nI tps) (nI pts) (nI lns) (nI wds) (nI brs) (nI ors) stp hasP fld laid told (nI rws) cms (nI cmT) cmS isN (nI trs))), (102, (zI G 7 nm)), (103, (zI G 7 ag)), (104, (zI G 7 fr)), (105, (zI G 12 fm)), (106, (zI G 12 bs))]) rfl ?_
  refine z_heap (g' := zu (zus g [(76, (oMod G code (nI tps) (nI pts) (nI lns) (nI wds) (nI brs) (nI ors) stp hasP fld laid told (nI rws) cms (nI cmT) cmS isN (nI trs))), (102, (zI G 7 nm)), (103, (zI G 7 ag)), (104, (zI G 7 fr)), (105, (zI G 12 fm)), (106, (zI G 12 bs))]) 107 (zI G 12 ow)) (zu_self (zus g [(76, (oMod G code (nI tps) (nI pts) (nI lns) (nI wds) (nI brs) (nI ors) stp hasP fld laid told (nI rws) cms (nI cmT) cmS isN (nI trs))), (102, (zI G 7 nm)), (103, (zI G 7 ag)), (104, (zI G 7 fr)), (105, (zI G 12 fm)), (106, (zI G 12 bs))]) 107 _ h107).symm ?_
  refine z_n (L' := [(76, (oMod G code (nI tps) (nI pts) (nI lns) (nI wds) (nI brs) (nI ors) stp hasP fld laid told (nI rws) cms (nI cmT) cmS isN (nI trs))), (102, (zI G 7 nm)), (103, (zI G 7 ag)), (104, (zI G 7 fr)), (105, (zI G 12 fm)), (106, (zI G 12 bs)), (107, (zI G 12 ow))]) rfl ?_
  refine z_heap (g' := zu (zus g [(76, (oMod G code (nI tps) (nI pts) (nI lns) (nI wds) (nI brs) (nI ors) stp hasP fld laid told (nI rws) cms (nI cmT) cmS isN (nI trs))), (102, (zI G 7 nm)), (103, (zI G 7 ag)), (104, (zI G 7 fr)), (105, (zI G 12 fm)), (106, (zI G 12 bs)), (107, (zI G 12 ow))]) 108 (zI G 13 kp)) (zu_self (zus g [(76, (oMod G code (nI tps) (nI pts) (nI lns) (nI wds) (nI brs) (nI ors) stp hasP fld laid told (nI rws) cms (nI cmT) cmS isN (nI trs))), (102, (zI G 7 nm)), (103, (zI G 7 ag)), (104, (zI G 7 fr)), (105, (zI G 12 fm)), (106, (zI G 12 bs)), (107, (zI G 12 ow))]) 108 _ h108).symm ?_
  refine z_n (L' := [(76, (oMod G code (nI tps) (nI pts) (nI lns) (nI wds) (nI brs) (nI ors) stp hasP fld laid told (nI rws) cms (nI cmT) cmS isN (nI trs))), (102, (zI G 7 nm)), (103, (zI G 7 ag)), (104, (zI G 7 fr)), (105, (zI G 12 fm)), (106, (zI G 12 bs)), (107, (zI G 12 ow)), (108, (zI G 13 kp))]) rfl ?_
  refine z_aload_n dX7_orbit_0 rfl rfl ?_
  refine z_iconst (v := nI 0) dX7_orbit_1 rfl (by decide) ?_
  refine z_putN (e9 := (oMod G (nI 0) (nI tps) (nI pts) (nI lns) (nI wds) (nI brs) (nI ors) stp hasP fld laid told (nI rws) cms (nI cmT) cmS isN (nI trs))) tyX7 tyX7_ok nmX7 dX7_orbit_2 rfl hiX7_orbit_X7 0 lkX7_orbit_122 rfl (by decide +kernel) (Nat.le_of_ble_eq_true rfl) rfl rfl (by decide) (Nat.le_of_ble_eq_true rfl) rfl rfl rfl ?_
  refine z_n (L' := [(76, (oMod G (nI 0) (nI tps) (nI pts) (nI lns) (nI wds) (nI brs) (nI ors) stp hasP fld laid told (nI rws) cms (nI cmT) cmS isN (nI trs))), (102, (zI G 7 nm)), (103, (zI G 7 ag)), (104, (zI G 7 fr)), (105, (zI G 12 fm)), (106, (zI G 12 bs)), (107, (zI G 12 ow)), (108, (zI G 13 kp))]) rfl ?_
  refine z_iload_n dX7_orbit_5 rfl rfl ?_
  refine z_if_ge (tgt := 12) dX7_orbit_6 rfl (by decide) (fun c6 => ?_) (fun c6 => ?_)
  · refine z_aload_n dX7_orbit_12 rfl rfl ?_
    refine z_callVi (c_X7_mayName G ex _ (nI 0) tps pts lns wds brs ors stp hasP fld laid told rws cms cmT cmS isN trs lm nm ag fr fm bs ow kp (by omega) (by omega) (by assumption) rfl h82 rfl rfl rfl rfl rfl rfl rfl) gX7_orbit_X7_mayName rfl dX7_orbit_13 rfl rfl rfl okk_X7_mayName (Nat.le_of_ble_eq_true rfl) rfl rfl ⟨Nat.le_of_ble_eq_true rfl, Nat.le_of_ble_eq_true rfl⟩ ⟨Nat.le_of_ble_eq_true rfl, Nat.le_of_ble_eq_true rfl⟩ (Nat.le_of_ble_eq_true rfl) ?_
    refine z_nn (L' := [(76, (oMod G (nI 0) (nI tps) (nI pts) (nI lns) (nI wds) (nI brs) (nI ors) stp hasP fld laid told (nI rws) cms (nI cmT) cmS (X7_mayName_p76_16 pts lns isN lm fm bs ow) (nI trs))), (102, (zI G 7 (X7_mayName_c102 pts lns isN lm nm ag fr fm bs ow kp))), (103, (zI G 7 (X7_mayName_c103 pts lns isN lm nm ag fr fm bs ow kp))), (104, (zI G 7 (X7_mayName_c104 pts lns isN lm nm ag fr fm bs ow kp))), (105, (zI G 12 (X7_mayName_c105 pts lns isN lm nm ag fr fm bs ow kp))), (106, (zI G 12 (X7_mayName_c106 pts lns isN lm nm ag fr fm bs ow kp))), (107, (zI G 12 (X7_mayName_c107 pts lns isN lm fm bs ow))), (108, (zI G 13 (X7_mayName_c108 pts lns isN lm nm ag fr fm bs ow kp)))]) rfl ?_
    refine z_if_ne (tgt := 22) dX7_orbit_16 rfl (by decide) (fun c16 => ?_) (fun c16 => ?_)
    · refine z_iload_n dX7_orbit_22 rfl rfl ?_
      refine z_bipush (v := nI 13) dX7_orbit_23 rfl (by decide) ?_
      refine z_icmp_ge (tgt := 37) dX7_orbit_25 rfl (by decide) (fun c25 => ?_) (fun c25 => ?_)
      · refine z_iconst (v := nI 0) dX7_orbit_37 rfl (by decide) ?_
        exact z_ireturn dX7_orbit_38 rfl rfl (Nat.le_refl _) (Nat.le_refl _) (fun _ => rfl) ⟨by simp only [X7_orbit_v, if_pos c6, if_neg c16, if_pos c25], by simp only [X7_orbit_p76_0, X7_orbit_p76_16, X7_orbit_c102, X7_orbit_c103, X7_orbit_c104, X7_orbit_c105, X7_orbit_c106, X7_orbit_c107, X7_orbit_c108, if_pos c6, if_neg c16, if_pos c25]⟩
      · have hvi : vp_in i 13 := zlt_in9 (Int32.not_lt.mpr c6) c25 (by decide)
        have hli := zvlt hvi
        refine z_lv (congrArg (fun z9 : Int32 => ([some (.ref (zB G + 76)), some (.int z9)] : List (Option Value))) (show i = (nI i.toNatClampNeg) from zvin hvi)) ?_
        refine z_aload_n dX7_orbit_28 rfl rfl ?_
        refine z_get dX7_orbit_29 rfl hiX7_orbit_X7 48 lkX7_orbit_107 (Nat.le_of_ble_eq_true rfl) rfl rfl (by decide) rfl ?_
        refine z_iload_n dX7_orbit_32 rfl rfl ?_
        refine z_ialdN (j := i.toNatClampNeg) dX7_orbit_33 rfl (Nat.le_of_ble_eq_true rfl) rfl (rfl) (by omega) (by decide) ?_
        refine z_goto (tgt := 38) dX7_orbit_34 (by decide) ?_
        exact z_ireturn dX7_orbit_38 rfl rfl (Nat.le_refl _) (Nat.le_refl _) (fun _ => rfl) ⟨by simp only [X7_orbit_v, if_pos c6, if_neg c16, if_neg c25], by simp only [X7_orbit_p76_0, X7_orbit_p76_16, X7_orbit_c102, X7_orbit_c103, X7_orbit_c104, X7_orbit_c105, X7_orbit_c106, X7_orbit_c107, X7_orbit_c108, if_pos c6, if_neg c16, if_neg c25]⟩
    · refine z_bipush (v := (-2)) dX7_orbit_19 rfl (by decide) ?_
      exact z_ireturn dX7_orbit_21 rfl rfl (Nat.le_refl _) (Nat.le_refl _) (fun _ => rfl) ⟨by simp only [X7_orbit_v, if_pos c6, if_pos c16], by simp only [X7_orbit_p76_0, X7_orbit_p76_16, X7_orbit_c102, X7_orbit_c103, X7_orbit_c104, X7_orbit_c105, X7_orbit_c106, X7_orbit_c107, X7_orbit_c108, if_pos c6, if_pos c16]⟩
  · refine z_bipush (v := (-9)) dX7_orbit_9 rfl (by decide) ?_
    exact z_ireturn dX7_orbit_11 rfl rfl (Nat.le_refl _) (Nat.le_refl _) (fun _ => rfl) ⟨by simp only [X7_orbit_v, if_neg c6], by simp only [X7_orbit_p76_0, X7_orbit_p76_16, X7_orbit_c102, X7_orbit_c103, X7_orbit_c104, X7_orbit_c105, X7_orbit_c106, X7_orbit_c107, X7_orbit_c108, if_neg c6]⟩
