theorem rprime_ne {p : Int32} (h : ¬ X7_isPrime_v p = 0) : ¬ p = 0 := by
  rcases rprime_in h with e | e | e | e | e | e <;> (subst e; decide)
theorem rprime_ne64 {p : Int32} (h : ¬ X7_isPrime_v p = 0) : ¬ p.toInt64 = 0 := by
  rcases rprime_in h with e | e | e | e | e | e <;> (subst e; decide)
theorem vp_mn9 {x : Int32} {n m : Nat} (h : vp_in x n) (hm : n ≤ m) : vp_in x m := fun q => h (q.elim Or.inl (fun z => Or.inr (by omega)))
abbrev mX7_meet : zM := (cX7_meet, 6, (some .int), RX7, wsX7_meet, "meet")
theorem hiX7_meet_X7 : ∀ w ∈ wsX70, w ∈ wsX7_meet := fun w h => List.mem_cons_of_mem _ (List.mem_append_right _ h)
theorem lkX7_meet_122 : Cond.fieldLink RX7 122 "ConfigSearchModel" "code" "I" ∈ wsX7_meet := by decide +kernel
theorem lkX7_meet_146 : Cond.fieldLink RX7 146 "ConfigSearchModel" "lines" "I" ∈ wsX7_meet := by decide +kernel
theorem lkX7_meet_158 : Cond.fieldLink RX7 158 "ConfigSearchModel" "hasPicture" "Z" ∈ wsX7_meet := by decide +kernel
theorem lkX7_meet_219 : Cond.fieldLink RX7 219 "ConfigSearchModel" "field" "I" ∈ wsX7_meet := by decide +kernel
theorem okk_X7_on : zOk yX7_on 2 := by unfold zOk; decide +kernel
def X7_meet_L75_F (fd : Nat) (laid : Int32) (fs : Nat → Int32) (sc : Nat → Int32) (th : Nat → Int32) (po : Nat → Int32) (lp : Nat → Int32) (a : Int32) (b : Int32) (k : Nat) (a9 : (Int32) × (Nat)) : (Int32) × (Nat) := if (X7_valueOf_v (X7_layField_c92 laid fs sc th fd) (X7_layField_c93 laid fs sc th fd) (X7_layField_c94 laid fs sc th fd) (nI fd) k ((X7_on_v po lp a.toNatClampNeg 0).toNatClampNeg) ((X7_on_v po lp a.toNatClampNeg 1).toNatClampNeg)) = 0 then (if (X7_valueOf_v (X7_layField_c92 laid fs sc th fd) (X7_layField_c93 laid fs sc th fd) (X7_layField_c94 laid fs sc th fd) (nI fd) k ((X7_on_v po lp b.toNatClampNeg 0).toNatClampNeg) ((X7_on_v po lp b.toNatClampNeg 1).toNatClampNeg)) = 0 then (nI k, a9.2 + 1) else (a9.1, a9.2)) else (a9.1, a9.2)
def X7_meet_v (lns : Nat) (hasP : Int32) (fd : Nat) (laid : Int32) (fs sc th po lp : Nat → Int32) (a b : Int32) : Int32 := if (X7_isIn_v a (nI 0) ((nI lns) - (nI 1))) = 0 then (-9) else (if (X7_isIn_v b (nI 0) ((nI lns) - (nI 1))) = 0 then (-9) else (if a = b then (-9) else (if hasP = 0 then (-2) else (if (nI fd) = 0 then (-2) else (zlet (zfold (X7_meet_L75_F fd laid fs sc th po lp a b) (X7_placesOf_n fd) 0 ((-4), 0)) (fun rr75 => if (nI rr75.2) ≤ (nI 1) then rr75.1 else (nI 0)))))))
def X7_meet_p76_0 (lns : Nat) (hasP : Int32) (fd : Nat) (laid : Int32) (fs sc th po lp : Nat → Int32) (a b : Int32) : Nat := if (X7_isIn_v a (nI 0) ((nI lns) - (nI 1))) = 0 then 0 else (if (X7_isIn_v b (nI 0) ((nI lns) - (nI 1))) = 0 then 0 else (if a = b then 0 else (if hasP = 0 then 0 else (if (nI fd) = 0 then 0 else (zlet (zfold (X7_meet_L75_F fd laid fs sc th po lp a b) (X7_placesOf_n fd) 0 ((-4), 0)) (fun rr75 => if (nI rr75.2) ≤ (nI 1) then 0 else 1))))))
def X7_meet_p76_10 (lns : Nat) (hasP : Int32) (fd : Nat) (laid : Int32) (fs sc th po lp : Nat → Int32) (a b : Int32) : Int32 := if (X7_isIn_v a (nI 0) ((nI lns) - (nI 1))) = 0 then laid else (if (X7_isIn_v b (nI 0) ((nI lns) - (nI 1))) = 0 then laid else (if a = b then laid else (if hasP = 0 then laid else (if (nI fd) = 0 then laid else (zlet (zfold (X7_meet_L75_F fd laid fs sc th po lp a b) (X7_placesOf_n fd) 0 ((-4), 0)) (fun rr75 => if (nI rr75.2) ≤ (nI 1) then (nI (X7_layField_p76_10 fd)) else (nI (X7_layField_p76_10 fd))))))))
def X7_meet_c92 (lns : Nat) (hasP : Int32) (fd : Nat) (laid : Int32) (fs sc th po lp : Nat → Int32) (a b : Int32) : Nat → Int32 := if (X7_isIn_v a (nI 0) ((nI lns) - (nI 1))) = 0 then fs else (if (X7_isIn_v b (nI 0) ((nI lns) - (nI 1))) = 0 then fs else (if a = b then fs else (if hasP = 0 then fs else (if (nI fd) = 0 then fs else (zlet (zfold (X7_meet_L75_F fd laid fs sc th po lp a b) (X7_placesOf_n fd) 0 ((-4), 0)) (fun rr75 => if (nI rr75.2) ≤ (nI 1) then (X7_layField_c92 laid fs sc th fd) else (X7_layField_c92 laid fs sc th fd)))))))
def X7_meet_c93 (lns : Nat) (hasP : Int32) (fd : Nat) (laid : Int32) (fs sc th po lp : Nat → Int32) (a b : Int32) : Nat → Int32 := if (X7_isIn_v a (nI 0) ((nI lns) - (nI 1))) = 0 then sc else (if (X7_isIn_v b (nI 0) ((nI lns) - (nI 1))) = 0 then sc else (if a = b then sc else (if hasP = 0 then sc else (if (nI fd) = 0 then sc else (zlet (zfold (X7_meet_L75_F fd laid fs sc th po lp a b) (X7_placesOf_n fd) 0 ((-4), 0)) (fun rr75 => if (nI rr75.2) ≤ (nI 1) then (X7_layField_c93 laid fs sc th fd) else (X7_layField_c93 laid fs sc th fd)))))))
def X7_meet_c94 (lns : Nat) (hasP : Int32) (fd : Nat) (laid : Int32) (fs sc th po lp : Nat → Int32) (a b : Int32) : Nat → Int32 := if (X7_isIn_v a (nI 0) ((nI lns) - (nI 1))) = 0 then th else (if (X7_isIn_v b (nI 0) ((nI lns) - (nI 1))) = 0 then th else (if a = b then th else (if hasP = 0 then th else (if (nI fd) = 0 then th else (zlet (zfold (X7_meet_L75_F fd laid fs sc th po lp a b) (X7_placesOf_n fd) 0 ((-4), 0)) (fun rr75 => if (nI rr75.2) ≤ (nI 1) then (X7_layField_c94 laid fs sc th fd) else (X7_layField_c94 laid fs sc th fd)))))))
set_option maxRecDepth 100000 in
set_option maxHeartbeats 4000000 in
theorem c_X7_meet (G : zG) (ex : Bool) (g : Nat → va_E) (code : Int32) (tps pts lns wds brs ors : Nat) (stp hasP : Int32) (fd : Nat) (laid told : Int32) (rws : Nat) (cms : Int32) (cmT : Nat) (cmS isN : Int32) (trs : Nat) (fs sc th po lp : Nat → Int32) (a b : Int32) (hf : X7_placesOf_n fd ≤ 183) (hl : lns ≤ 12) (hp : pts ≤ 10) (hw : ∀ l, l < lns → vp_in (lp (5 * l + 0)) pts ∧ vp_in (lp (5 * l + 1)) pts) (hpo : ¬ hasP = 0 → ∀ k, k < pts → vp_in (po k) 183) (h76 : g 76 = (oMod G code (nI tps) (nI pts) (nI lns) (nI wds) (nI brs) (nI ors) stp hasP (nI fd) laid told (nI rws) cms (nI cmT) cmS isN (nI trs))) (h92 : g 92 = (zI G 183 fs)) (h93 : g 93 = (zI G 183 sc)) (h94 : g 94 = (zI G 183 th)) (h89 : g 89 = (zI G 10 po)) (h81 : g 81 = (zI G 60 lp)) : zC G yX7_meet wsX7_meet (zrm 2 44) ex [.ref (zB G + 76), .int a, .int b] (zN, g) (fun r h => r = some (.int (X7_meet_v lns hasP fd laid fs sc th po lp a b)) ∧ h = (zN, zus g [(76, (oMod G (nI (X7_meet_p76_0 lns hasP fd laid fs sc th po lp a b)) (nI tps) (nI pts) (nI lns) (nI wds) (nI brs) (nI ors) stp hasP (nI fd) (X7_meet_p76_10 lns hasP fd laid fs sc th po lp a b) told (nI rws) cms (nI cmT) cmS isN (nI trs))), (92, zI G 183 (X7_meet_c92 lns hasP fd laid fs sc th po lp a b)), (93, zI G 183 (X7_meet_c93 lns hasP fd laid fs sc th po lp a b)), (94, zI G 183 (X7_meet_c94 lns hasP fd laid fs sc th po lp a b))])) := by
  refine zC_of mX7_meet (lv := [some (.ref (zB G + 76)), some (.int a), some (.int b), none, none, none]) rfl rfl (by decide) (by intro v hv; simp at hv; rcases hv with rfl | rfl | rfl <;> rfl) (Nat.le_of_ble_eq_true rfl) rfl ?_
  refine z_0 ?_
  refine z_heap (g' := zu (zus g []) 76 (oMod G code (nI tps) (nI pts) (nI lns) (nI wds) (nI brs) (nI ors) stp hasP (nI fd) laid told (nI rws) cms (nI cmT) cmS isN (nI trs))) (zu_self (zus g []) 76 _ h76).symm ?_
  refine z_n (L' := [(76, (oMod G code (nI tps) (nI pts) (nI lns) (nI wds) (nI brs) (nI ors) stp hasP (nI fd) laid told (nI rws) cms (nI cmT) cmS isN (nI trs)))]) rfl ?_
  refine z_heap (g' := zu (zus g [(76, (oMod G code (nI tps) (nI pts) (nI lns) (nI wds) (nI brs) (nI ors) stp hasP (nI fd) laid told (nI rws) cms (nI cmT) cmS isN (nI trs)))]) 92 (zI G 183 fs)) (zu_self (zus g [(76, (oMod G code (nI tps) (nI pts) (nI lns) (nI wds) (nI brs) (nI ors) stp hasP (nI fd) laid told (nI rws) cms (nI cmT) cmS isN (nI trs)))]) 92 _ h92).symm ?_
  refine z_n (L' := [(76, (oMod G code (nI tps) (nI pts) (nI lns) (nI wds) (nI brs) (nI ors) stp hasP (nI fd) laid told (nI rws) cms (nI cmT) cmS isN (nI trs))), (92, (zI G 183 fs))]) rfl ?_
  refine z_heap (g' := zu (zus g [(76, (oMod G code (nI tps) (nI pts) (nI lns) (nI wds) (nI brs) (nI ors) stp hasP (nI fd) laid told (nI rws) cms (nI cmT) cmS isN (nI trs))), (92, (zI G 183 fs))]) 93 (zI G 183 sc)) (zu_self (zus g [(76, (oMod G code (nI tps) (nI pts) (nI lns) (nI wds) (nI brs) (nI ors) stp hasP (nI fd) laid told (nI rws) cms (nI cmT) cmS isN (nI trs))), (92, (zI G 183 fs))]) 93 _ h93).symm ?_
  refine z_n (L' := [(76, (oMod G code (nI tps) (nI pts) (nI lns) (nI wds) (nI brs) (nI ors) stp hasP (nI fd) laid told (nI rws) cms (nI cmT) cmS isN (nI trs))), (92, (zI G 183 fs)), (93, (zI G 183 sc))]) rfl ?_
  refine z_heap (g' := zu (zus g [(76, (oMod G code (nI tps) (nI pts) (nI lns) (nI wds) (nI brs) (nI ors) stp hasP (nI fd) laid told (nI rws) cms (nI cmT) cmS isN (nI trs))), (92, (zI G 183 fs)), (93, (zI G 183 sc))]) 94 (zI G 183 th)) (zu_self (zus g [(76, (oMod G code (nI tps) (nI pts) (nI lns) (nI wds) (nI brs) (nI ors) stp hasP (nI fd) laid told (nI rws) cms (nI cmT) cmS isN (nI trs))), (92, (zI G 183 fs)), (93, (zI G 183 sc))]) 94 _ h94).symm ?_
  refine z_n (L' := [(76, (oMod G code (nI tps) (nI pts) (nI lns) (nI wds) (nI brs) (nI ors) stp hasP (nI fd) laid told (nI rws) cms (nI cmT) cmS isN (nI trs))), (92, (zI G 183 fs)), (93, (zI G 183 sc)), (94, (zI G 183 th))]) rfl ?_
  refine z_aload_n dX7_meet_0 rfl rfl ?_
  refine z_iconst (v := nI 0) dX7_meet_1 rfl (by decide) ?_
  refine z_putN (e9 := (oMod G (nI 0) (nI tps) (nI pts) (nI lns) (nI wds) (nI brs) (nI ors) stp hasP (nI fd) laid told (nI rws) cms (nI cmT) cmS isN (nI trs))) tyX7 tyX7_ok nmX7 dX7_meet_2 rfl hiX7_meet_X7 0 lkX7_meet_122 rfl (by decide +kernel) (Nat.le_of_ble_eq_true rfl) rfl rfl (by decide) (Nat.le_of_ble_eq_true rfl) rfl rfl rfl ?_
  refine z_n (L' := [(76, (oMod G (nI 0) (nI tps) (nI pts) (nI lns) (nI wds) (nI brs) (nI ors) stp hasP (nI fd) laid told (nI rws) cms (nI cmT) cmS isN (nI trs))), (92, (zI G 183 fs)), (93, (zI G 183 sc)), (94, (zI G 183 th))]) rfl ?_
  refine z_iload_n dX7_meet_5 rfl rfl ?_
  refine z_iconst (v := nI 0) dX7_meet_6 rfl (by decide) ?_
  refine z_aload_n dX7_meet_7 rfl rfl ?_
  refine z_get dX7_meet_8 rfl hiX7_meet_X7 4 lkX7_meet_146 (Nat.le_of_ble_eq_true rfl) rfl rfl (by decide) rfl ?_
  refine z_iconst (v := nI 1) dX7_meet_11 rfl (by decide) ?_
  refine z_isub dX7_meet_12 rfl ?_
  refine z_callSi (c_X7_isIn G ex _ a (nI 0) ((nI lns) - (nI 1))) gX7_meet_X7_isIn rfl dX7_meet_13 rfl rfl okk_X7_isIn ⟨Nat.le_of_ble_eq_true rfl, Nat.le_of_ble_eq_true rfl⟩ ⟨Nat.le_of_ble_eq_true rfl, Nat.le_of_ble_eq_true rfl⟩ (Nat.le_of_ble_eq_true rfl) ?_
  refine z_if_eq (tgt := 38) dX7_meet_16 rfl (by decide) (fun c16 => ?_) (fun c16 => ?_)
  · refine z_bipush (v := (-9)) dX7_meet_38 rfl (by decide) ?_
    exact z_ireturn dX7_meet_40 rfl rfl (Nat.le_refl _) (Nat.le_refl _) (fun _ => rfl) ⟨by simp only [X7_meet_v, if_pos c16], by simp only [X7_meet_p76_0, X7_meet_p76_10, X7_meet_c92, X7_meet_c93, X7_meet_c94, if_pos c16]⟩
  · refine z_iload_n dX7_meet_19 rfl rfl ?_
    refine z_iconst (v := nI 0) dX7_meet_20 rfl (by decide) ?_
    refine z_aload_n dX7_meet_21 rfl rfl ?_
    refine z_get dX7_meet_22 rfl hiX7_meet_X7 4 lkX7_meet_146 (Nat.le_of_ble_eq_true rfl) rfl rfl (by decide) rfl ?_
    refine z_iconst (v := nI 1) dX7_meet_25 rfl (by decide) ?_
    refine z_isub dX7_meet_26 rfl ?_
    refine z_callSi (c_X7_isIn G ex _ b (nI 0) ((nI lns) - (nI 1))) gX7_meet_X7_isIn rfl dX7_meet_27 rfl rfl okk_X7_isIn ⟨Nat.le_of_ble_eq_true rfl, Nat.le_of_ble_eq_true rfl⟩ ⟨Nat.le_of_ble_eq_true rfl, Nat.le_of_ble_eq_true rfl⟩ (Nat.le_of_ble_eq_true rfl) ?_
    refine z_if_eq (tgt := 38) dX7_meet_30 rfl (by decide) (fun c30 => ?_) (fun c30 => ?_)
    · refine z_bipush (v := (-9)) dX7_meet_38 rfl (by decide) ?_
      exact z_ireturn dX7_meet_40 rfl rfl (Nat.le_refl _) (Nat.le_refl _) (fun _ => rfl) ⟨by simp only [X7_meet_v, if_neg c16, if_pos c30], by simp only [X7_meet_p76_0, X7_meet_p76_10, X7_meet_c92, X7_meet_c93, X7_meet_c94, if_neg c16, if_pos c30]⟩
    · refine z_iload_n dX7_meet_33 rfl rfl ?_
      refine z_iload_n dX7_meet_34 rfl rfl ?_
      refine z_icmp_ne (tgt := 41) dX7_meet_35 rfl (by decide) (fun c35 => ?_) (fun c35 => ?_)
      · refine z_aload_n dX7_meet_41 rfl rfl ?_
        refine z_get dX7_meet_42 rfl hiX7_meet_X7 20 lkX7_meet_158 (Nat.le_of_ble_eq_true rfl) rfl rfl (by decide) rfl ?_
        refine z_if_eq (tgt := 55) dX7_meet_45 rfl (by decide) (fun c45 => ?_) (fun c45 => ?_)
        · refine z_bipush (v := (-2)) dX7_meet_55 rfl (by decide) ?_
          exact z_ireturn dX7_meet_57 rfl rfl (Nat.le_refl _) (Nat.le_refl _) (fun _ => rfl) ⟨by simp only [X7_meet_v, if_neg c16, if_neg c30, if_neg c35, if_pos c45], by simp only [X7_meet_p76_0, X7_meet_p76_10, X7_meet_c92, X7_meet_c93, X7_meet_c94, if_neg c16, if_neg c30, if_neg c35, if_pos c45]⟩
        · refine z_aload_n dX7_meet_48 rfl rfl ?_
          refine z_get dX7_meet_49 rfl hiX7_meet_X7 21 lkX7_meet_219 (Nat.le_of_ble_eq_true rfl) rfl rfl (by decide) rfl ?_
          refine z_if_ne (tgt := 58) dX7_meet_52 rfl (by decide) (fun c52 => ?_) (fun c52 => ?_)
          · have hva : vp_in a lns := isIn_in c16 (by omega)
            have hvb : vp_in b lns := isIn_in c30 (by omega)
            have hla := zvlt hva
            have hlb := zvlt hvb
            have on9 : ∀ l, l < lns → vp_in (X7_on_v po lp l 0) 183 ∧ vp_in (X7_on_v po lp l 1) 183 := fun l hl9 => ⟨hpo c45 _ (zvlt (hw l hl9).1), hpo c45 _ (zvlt (hw l hl9).2)⟩
            refine z_lv (congrArg (fun z9 : Int32 => ([some (.ref (zB G + 76)), some (.int z9), some (.int b), none, none, none] : List (Option Value))) (show a = (nI a.toNatClampNeg) from zvin hva)) ?_
            refine z_lv (congrArg (fun z9 : Int32 => ([some (.ref (zB G + 76)), some (.int (nI a.toNatClampNeg)), some (.int z9), none, none, none] : List (Option Value))) (show b = (nI b.toNatClampNeg) from zvin hvb)) ?_
            refine z_aload_n dX7_meet_58 rfl rfl ?_
            refine z_aload_n dX7_meet_59 rfl rfl ?_
            refine z_get dX7_meet_60 rfl hiX7_meet_X7 21 lkX7_meet_219 (Nat.le_of_ble_eq_true rfl) rfl rfl (by decide) rfl ?_
            refine z_callVv (c_X7_layField G ex _ (nI 0) tps pts lns wds brs ors stp hasP (nI fd) laid told rws cms cmT cmS isN trs fs sc th fd (by omega) rfl rfl rfl rfl) gX7_meet_X7_layField rfl dX7_meet_63 rfl rfl rfl okk_X7_layField (Nat.le_of_ble_eq_true rfl) rfl rfl ⟨Nat.le_of_ble_eq_true rfl, Nat.le_of_ble_eq_true rfl⟩ ⟨Nat.le_of_ble_eq_true rfl, Nat.le_of_ble_eq_true rfl⟩ (Nat.le_of_ble_eq_true rfl) ?_
            refine z_nn (L' := [(76, (oMod G (nI 0) (nI tps) (nI pts) (nI lns) (nI wds) (nI brs) (nI ors) stp hasP (nI fd) (nI (X7_layField_p76_10 fd)) told (nI rws) cms (nI cmT) cmS isN (nI trs))), (92, (zI G 183 (X7_layField_c92 laid fs sc th fd))), (93, (zI G 183 (X7_layField_c93 laid fs sc th fd))), (94, (zI G 183 (X7_layField_c94 laid fs sc th fd)))]) rfl ?_
            refine z_bipush (v := (-4)) dX7_meet_66 rfl (by decide) ?_
            refine z_istore_3 dX7_meet_68 rfl ?_
            refine z_iconst (v := nI 0) dX7_meet_69 rfl (by decide) ?_
            refine z_istore_4 dX7_meet_70 rfl ?_
            refine z_iconst (v := nI 0) dX7_meet_72 rfl (by decide) ?_
            refine z_istore_5 dX7_meet_73 rfl ?_
            refine z_forI (head := fun k (st9 : (Int32) × (Nat)) => Z G mX7_meet (zrm 2 44) ex _ 75 [some (.ref (zB G + 76)), some (.int (nI a.toNatClampNeg)), some (.int (nI b.toNatClampNeg)), some (.int st9.1), some (.int (nI st9.2)), some (.int (nI k))] [] (zN, zus g [(76, (oMod G (nI 0) (nI tps) (nI pts) (nI lns) (nI wds) (nI brs) (nI ors) stp hasP (nI fd) (nI (X7_layField_p76_10 fd)) told (nI rws) cms (nI cmT) cmS isN (nI trs))), (92, (zI G 183 (X7_layField_c92 laid fs sc th fd))), (93, (zI G 183 (X7_layField_c93 laid fs sc th fd))), (94, (zI G 183 (X7_layField_c94 laid fs sc th fd)))]) 0 0) (F := (X7_meet_L75_F fd laid fs sc th po lp a b)) (n := X7_placesOf_n fd) (fun _ _ => True) (fun _ _ _ _ => trivial) ?_ (X7_placesOf_n fd) 0 ((-4), 0) (by omega) trivial ?_
            · intro k a9 hi _ K
              obtain ⟨fo, mn⟩ := a9
              refine z_iload dX7_meet_75 rfl rfl ?_
              refine z_aload_n dX7_meet_77 rfl rfl ?_
              refine z_get dX7_meet_78 rfl hiX7_meet_X7 21 lkX7_meet_219 (Nat.le_of_ble_eq_true rfl) rfl rfl (by decide) rfl ?_
              refine z_callSi (c_X7_placesOf G ex _ fd) gX7_meet_X7_placesOf rfl dX7_meet_81 rfl rfl okk_X7_placesOf ⟨Nat.le_of_ble_eq_true rfl, Nat.le_of_ble_eq_true rfl⟩ ⟨Nat.le_of_ble_eq_true rfl, Nat.le_of_ble_eq_true rfl⟩ (Nat.le_of_ble_eq_true rfl) ?_
              refine z_icmp_ge (tgt := 149) dX7_meet_84 rfl (by decide) (fun c84 => ?_) (fun c84 => ?_)
              · exact absurd c84 (nI_ge hi (by omega))
              · refine z_aload_n dX7_meet_87 rfl rfl ?_
                refine z_aload_n dX7_meet_88 rfl rfl ?_
                refine z_get dX7_meet_89 rfl hiX7_meet_X7 21 lkX7_meet_219 (Nat.le_of_ble_eq_true rfl) rfl rfl (by decide) rfl ?_
                refine z_iload dX7_meet_92 rfl rfl ?_
                refine z_aload_n dX7_meet_94 rfl rfl ?_
                refine z_iload_n dX7_meet_95 rfl rfl ?_
                refine z_iconst (v := nI 0) dX7_meet_96 rfl (by decide) ?_
                refine z_callVi (c_X7_on G ex _ (nI 0) tps pts lns wds brs ors stp hasP (nI fd) (nI (X7_layField_p76_10 fd)) told rws cms cmT cmS isN trs po lp a.toNatClampNeg 0 (by omega) (by omega) (vp_mn9 (hw _ hla).1 hp) rfl h89 h81) gX7_meet_X7_on rfl dX7_meet_97 rfl rfl rfl okk_X7_on (Nat.le_of_ble_eq_true rfl) rfl rfl ⟨Nat.le_of_ble_eq_true rfl, Nat.le_of_ble_eq_true rfl⟩ ⟨Nat.le_of_ble_eq_true rfl, Nat.le_of_ble_eq_true rfl⟩ (Nat.le_of_ble_eq_true rfl) ?_
                refine z_aload_n dX7_meet_100 rfl rfl ?_
                refine z_iload_n dX7_meet_101 rfl rfl ?_
                refine z_iconst (v := nI 1) dX7_meet_102 rfl (by decide) ?_
                refine z_callVi (c_X7_on G ex _ (nI 0) tps pts lns wds brs ors stp hasP (nI fd) (nI (X7_layField_p76_10 fd)) told rws cms cmT cmS isN trs po lp a.toNatClampNeg 1 (by omega) (by omega) (vp_mn9 (hw _ hla).2 hp) rfl h89 h81) gX7_meet_X7_on rfl dX7_meet_103 rfl rfl rfl okk_X7_on (Nat.le_of_ble_eq_true rfl) rfl rfl ⟨Nat.le_of_ble_eq_true rfl, Nat.le_of_ble_eq_true rfl⟩ ⟨Nat.le_of_ble_eq_true rfl, Nat.le_of_ble_eq_true rfl⟩ (Nat.le_of_ble_eq_true rfl) ?_
                rw [show X7_on_v po lp a.toNatClampNeg 0 = nI ((X7_on_v po lp a.toNatClampNeg 0).toNatClampNeg) from zvin (on9 _ hla).1]
                rw [show X7_on_v po lp a.toNatClampNeg 1 = nI ((X7_on_v po lp a.toNatClampNeg 1).toNatClampNeg) from zvin (on9 _ hla).2]
                refine z_callVi (c_X7_valueOf G ex _ (nI 0) tps pts lns wds brs ors stp hasP (nI fd) (nI (X7_layField_p76_10 fd)) told rws cms cmT cmS isN trs (X7_layField_c92 laid fs sc th fd) (X7_layField_c93 laid fs sc th fd) (X7_layField_c94 laid fs sc th fd) (nI fd) k ((X7_on_v po lp a.toNatClampNeg 0).toNatClampNeg) ((X7_on_v po lp a.toNatClampNeg 1).toNatClampNeg) (by omega) (zvlt (on9 _ hla).1) (zvlt (on9 _ hla).2) rfl rfl rfl rfl) gX7_meet_X7_valueOf rfl dX7_meet_106 rfl rfl rfl okk_X7_valueOf (Nat.le_of_ble_eq_true rfl) rfl rfl ⟨Nat.le_of_ble_eq_true rfl, Nat.le_of_ble_eq_true rfl⟩ ⟨Nat.le_of_ble_eq_true rfl, Nat.le_of_ble_eq_true rfl⟩ (Nat.le_of_ble_eq_true rfl) ?_
                refine z_if_ne (tgt := 143) dX7_meet_109 rfl (by decide) (fun c109 => ?_) (fun c109 => ?_)
                · refine z_iinc_5 (v := nI (k + 1)) dX7_meet_143 rfl (zinc _) ?_
                  refine z_goto (tgt := 75) dX7_meet_146 (by decide) ?_
                  have K9 := K
                  try simp only [X7_meet_L75_F, if_neg c109] at K9
                  exact K9
                · refine z_aload_n dX7_meet_112 rfl rfl ?_
                  refine z_aload_n dX7_meet_113 rfl rfl ?_
                  refine z_get dX7_meet_114 rfl hiX7_meet_X7 21 lkX7_meet_219 (Nat.le_of_ble_eq_true rfl) rfl rfl (by decide) rfl ?_
                  refine z_iload dX7_meet_117 rfl rfl ?_
                  refine z_aload_n dX7_meet_119 rfl rfl ?_
                  refine z_iload_n dX7_meet_120 rfl rfl ?_
                  refine z_iconst (v := nI 0) dX7_meet_121 rfl (by decide) ?_
                  refine z_callVi (c_X7_on G ex _ (nI 0) tps pts lns wds brs ors stp hasP (nI fd) (nI (X7_layField_p76_10 fd)) told rws cms cmT cmS isN trs po lp b.toNatClampNeg 0 (by omega) (by omega) (vp_mn9 (hw _ hlb).1 hp) rfl h89 h81) gX7_meet_X7_on rfl dX7_meet_122 rfl rfl rfl okk_X7_on (Nat.le_of_ble_eq_true rfl) rfl rfl ⟨Nat.le_of_ble_eq_true rfl, Nat.le_of_ble_eq_true rfl⟩ ⟨Nat.le_of_ble_eq_true rfl, Nat.le_of_ble_eq_true rfl⟩ (Nat.le_of_ble_eq_true rfl) ?_
                  refine z_aload_n dX7_meet_125 rfl rfl ?_
                  refine z_iload_n dX7_meet_126 rfl rfl ?_
                  refine z_iconst (v := nI 1) dX7_meet_127 rfl (by decide) ?_
                  refine z_callVi (c_X7_on G ex _ (nI 0) tps pts lns wds brs ors stp hasP (nI fd) (nI (X7_layField_p76_10 fd)) told rws cms cmT cmS isN trs po lp b.toNatClampNeg 1 (by omega) (by omega) (vp_mn9 (hw _ hlb).2 hp) rfl h89 h81) gX7_meet_X7_on rfl dX7_meet_128 rfl rfl rfl okk_X7_on (Nat.le_of_ble_eq_true rfl) rfl rfl ⟨Nat.le_of_ble_eq_true rfl, Nat.le_of_ble_eq_true rfl⟩ ⟨Nat.le_of_ble_eq_true rfl, Nat.le_of_ble_eq_true rfl⟩ (Nat.le_of_ble_eq_true rfl) ?_
                  rw [show X7_on_v po lp b.toNatClampNeg 0 = nI ((X7_on_v po lp b.toNatClampNeg 0).toNatClampNeg) from zvin (on9 _ hlb).1]
                  rw [show X7_on_v po lp b.toNatClampNeg 1 = nI ((X7_on_v po lp b.toNatClampNeg 1).toNatClampNeg) from zvin (on9 _ hlb).2]
                  refine z_callVi (c_X7_valueOf G ex _ (nI 0) tps pts lns wds brs ors stp hasP (nI fd) (nI (X7_layField_p76_10 fd)) told rws cms cmT cmS isN trs (X7_layField_c92 laid fs sc th fd) (X7_layField_c93 laid fs sc th fd) (X7_layField_c94 laid fs sc th fd) (nI fd) k ((X7_on_v po lp b.toNatClampNeg 0).toNatClampNeg) ((X7_on_v po lp b.toNatClampNeg 1).toNatClampNeg) (by omega) (zvlt (on9 _ hlb).1) (zvlt (on9 _ hlb).2) rfl rfl rfl rfl) gX7_meet_X7_valueOf rfl dX7_meet_131 rfl rfl rfl okk_X7_valueOf (Nat.le_of_ble_eq_true rfl) rfl rfl ⟨Nat.le_of_ble_eq_true rfl, Nat.le_of_ble_eq_true rfl⟩ ⟨Nat.le_of_ble_eq_true rfl, Nat.le_of_ble_eq_true rfl⟩ (Nat.le_of_ble_eq_true rfl) ?_
                  refine z_if_ne (tgt := 143) dX7_meet_134 rfl (by decide) (fun c134 => ?_) (fun c134 => ?_)
                  · refine z_iinc_5 (v := nI (k + 1)) dX7_meet_143 rfl (zinc _) ?_
                    refine z_goto (tgt := 75) dX7_meet_146 (by decide) ?_
                    have K9 := K
                    try simp only [X7_meet_L75_F, if_pos c109, if_neg c134] at K9
                    exact K9
                  · refine z_iload dX7_meet_137 rfl rfl ?_
                    refine z_istore_3 dX7_meet_139 rfl ?_
                    refine z_iinc_4 (v := nI (mn + 1)) dX7_meet_140 rfl (zinc _) ?_
                    refine z_iinc_5 (v := nI (k + 1)) dX7_meet_143 rfl (zinc _) ?_
                    refine z_goto (tgt := 75) dX7_meet_146 (by decide) ?_
                    have K9 := K
                    try simp only [X7_meet_L75_F, if_pos c109, if_pos c134] at K9
                    exact K9
            · generalize hR75 : zfold (X7_meet_L75_F fd laid fs sc th po lp a b) (X7_placesOf_n fd) 0 ((-4), 0) = r9
              obtain ⟨foo, mno⟩ := r9
              intro _
              refine z_iload dX7_meet_75 rfl rfl ?_
              refine z_aload_n dX7_meet_77 rfl rfl ?_
              refine z_get dX7_meet_78 rfl hiX7_meet_X7 21 lkX7_meet_219 (Nat.le_of_ble_eq_true rfl) rfl rfl (by decide) rfl ?_
              refine z_callSi (c_X7_placesOf G ex _ fd) gX7_meet_X7_placesOf rfl dX7_meet_81 rfl rfl okk_X7_placesOf ⟨Nat.le_of_ble_eq_true rfl, Nat.le_of_ble_eq_true rfl⟩ ⟨Nat.le_of_ble_eq_true rfl, Nat.le_of_ble_eq_true rfl⟩ (Nat.le_of_ble_eq_true rfl) ?_
              refine z_icmp_ge (tgt := 149) dX7_meet_84 rfl (by decide) (fun c84 => ?_) (fun c84 => ?_)
              · refine z_aload_n dX7_meet_149 rfl rfl ?_
                refine z_iload dX7_meet_150 rfl rfl ?_
                refine z_iconst (v := nI 1) dX7_meet_152 rfl (by decide) ?_
                refine z_icmp_le (tgt := 160) dX7_meet_153 rfl (by decide) (fun c153 => ?_) (fun c153 => ?_)
                · refine z_iconst (v := nI 0) dX7_meet_160 rfl (by decide) ?_
                  refine z_putN (e9 := (oMod G (nI 0) (nI tps) (nI pts) (nI lns) (nI wds) (nI brs) (nI ors) stp hasP (nI fd) (nI (X7_layField_p76_10 fd)) told (nI rws) cms (nI cmT) cmS isN (nI trs))) tyX7 tyX7_ok nmX7 dX7_meet_161 rfl hiX7_meet_X7 0 lkX7_meet_122 rfl (by decide +kernel) (Nat.le_of_ble_eq_true rfl) rfl rfl (by decide) (Nat.le_of_ble_eq_true rfl) rfl rfl rfl ?_
                  refine z_n (L' := [(76, (oMod G (nI 0) (nI tps) (nI pts) (nI lns) (nI wds) (nI brs) (nI ors) stp hasP (nI fd) (nI (X7_layField_p76_10 fd)) told (nI rws) cms (nI cmT) cmS isN (nI trs))), (92, (zI G 183 (X7_layField_c92 laid fs sc th fd))), (93, (zI G 183 (X7_layField_c93 laid fs sc th fd))), (94, (zI G 183 (X7_layField_c94 laid fs sc th fd)))]) rfl ?_
                  refine z_iload dX7_meet_164 rfl rfl ?_
                  refine z_iconst (v := nI 1) dX7_meet_166 rfl (by decide) ?_
                  refine z_icmp_le (tgt := 174) dX7_meet_167 rfl (by decide) (fun c167 => ?_) (fun c167 => ?_)
                  · refine z_iload_n dX7_meet_174 rfl rfl ?_
                    exact z_ireturn dX7_meet_175 rfl rfl (Nat.le_refl _) (Nat.le_refl _) (fun _ => rfl) ⟨by simp only [X7_meet_v, if_neg c16, if_neg c30, if_neg c35, if_neg c45, if_neg c52, hR75, zlet_e, if_pos c153], by simp only [X7_meet_p76_0, X7_meet_p76_10, X7_meet_c92, X7_meet_c93, X7_meet_c94, if_neg c16, if_neg c30, if_neg c35, if_neg c45, if_neg c52, hR75, zlet_e, if_pos c153]⟩
                  · exact absurd c153 c167
                · refine z_iconst (v := nI 1) dX7_meet_156 rfl (by decide) ?_
                  refine z_goto (tgt := 161) dX7_meet_157 (by decide) ?_
                  refine z_putN (e9 := (oMod G (nI 1) (nI tps) (nI pts) (nI lns) (nI wds) (nI brs) (nI ors) stp hasP (nI fd) (nI (X7_layField_p76_10 fd)) told (nI rws) cms (nI cmT) cmS isN (nI trs))) tyX7 tyX7_ok nmX7 dX7_meet_161 rfl hiX7_meet_X7 0 lkX7_meet_122 rfl (by decide +kernel) (Nat.le_of_ble_eq_true rfl) rfl rfl (by decide) (Nat.le_of_ble_eq_true rfl) rfl rfl rfl ?_
                  refine z_n (L' := [(76, (oMod G (nI 1) (nI tps) (nI pts) (nI lns) (nI wds) (nI brs) (nI ors) stp hasP (nI fd) (nI (X7_layField_p76_10 fd)) told (nI rws) cms (nI cmT) cmS isN (nI trs))), (92, (zI G 183 (X7_layField_c92 laid fs sc th fd))), (93, (zI G 183 (X7_layField_c93 laid fs sc th fd))), (94, (zI G 183 (X7_layField_c94 laid fs sc th fd)))]) rfl ?_
                  refine z_iload dX7_meet_164 rfl rfl ?_
                  refine z_iconst (v := nI 1) dX7_meet_166 rfl (by decide) ?_
                  refine z_icmp_le (tgt := 174) dX7_meet_167 rfl (by decide) (fun c167 => ?_) (fun c167 => ?_)
                  · exact absurd c167 c153
                  · refine z_iconst (v := nI 0) dX7_meet_170 rfl (by decide) ?_
                    refine z_goto (tgt := 175) dX7_meet_171 (by decide) ?_
                    exact z_ireturn dX7_meet_175 rfl rfl (Nat.le_refl _) (Nat.le_refl _) (fun _ => rfl) ⟨by simp only [X7_meet_v, if_neg c16, if_neg c30, if_neg c35, if_neg c45, if_neg c52, hR75, zlet_e, if_neg c153], by simp only [X7_meet_p76_0, X7_meet_p76_10, X7_meet_c92, X7_meet_c93, X7_meet_c94, if_neg c16, if_neg c30, if_neg c35, if_neg c45, if_neg c52, hR75, zlet_e, if_neg c153]⟩
              · exact absurd (nI_le (Nat.le_refl _) (by omega)) c84
          · refine z_bipush (v := (-2)) dX7_meet_55 rfl (by decide) ?_
            exact z_ireturn dX7_meet_57 rfl rfl (Nat.le_refl _) (Nat.le_refl _) (fun _ => rfl) ⟨by simp only [X7_meet_v, if_neg c16, if_neg c30, if_neg c35, if_neg c45, if_pos c52], by simp only [X7_meet_p76_0, X7_meet_p76_10, X7_meet_c92, X7_meet_c93, X7_meet_c94, if_neg c16, if_neg c30, if_neg c35, if_neg c45, if_pos c52]⟩
      · refine z_bipush (v := (-9)) dX7_meet_38 rfl (by decide) ?_
        exact z_ireturn dX7_meet_40 rfl rfl (Nat.le_refl _) (Nat.le_refl _) (fun _ => rfl) ⟨by simp only [X7_meet_v, if_neg c16, if_neg c30, if_pos c35], by simp only [X7_meet_p76_0, X7_meet_p76_10, X7_meet_c92, X7_meet_c93, X7_meet_c94, if_neg c16, if_neg c30, if_pos c35]⟩
abbrev mX7_meets : zM := (cX7_meets, 5, (some .int), RX7, wsX7_meets, "meets")
theorem okk_X7_meet : zOk yX7_meet 2 := by unfold zOk; decide +kernel
theorem hiX7_meets_X7 : ∀ w ∈ wsX70, w ∈ wsX7_meets := fun w h => List.mem_cons_of_mem _ (List.mem_append_right _ h)
theorem lkX7_meets_122 : Cond.fieldLink RX7 122 "ConfigSearchModel" "code" "I" ∈ wsX7_meets := by decide +kernel
def X7_meets_v (lns : Nat) (hasP : Int32) (fd : Nat) (laid : Int32) (fs sc th po lp : Nat → Int32) (a b : Int32) : Int32 := if (nI (X7_meet_p76_0 lns hasP fd laid fs sc th po lp a b)) = (nI 1) then (-4) else (X7_meet_v lns hasP fd laid fs sc th po lp a b)
def X7_meets_p76_0 (lns : Nat) (hasP : Int32) (fd : Nat) (laid : Int32) (fs sc th po lp : Nat → Int32) (a b : Int32) : Nat := if (nI (X7_meet_p76_0 lns hasP fd laid fs sc th po lp a b)) = (nI 1) then 0 else 0
def X7_meets_p76_10 (lns : Nat) (hasP : Int32) (fd : Nat) (laid : Int32) (fs sc th po lp : Nat → Int32) (a b : Int32) : Int32 := if (nI (X7_meet_p76_0 lns hasP fd laid fs sc th po lp a b)) = (nI 1) then (X7_meet_p76_10 lns hasP fd laid fs sc th po lp a b) else (X7_meet_p76_10 lns hasP fd laid fs sc th po lp a b)
def X7_meets_c92 (lns : Nat) (hasP : Int32) (fd : Nat) (laid : Int32) (fs sc th po lp : Nat → Int32) (a b : Int32) : Nat → Int32 := if (nI (X7_meet_p76_0 lns hasP fd laid fs sc th po lp a b)) = (nI 1) then (X7_meet_c92 lns hasP fd laid fs sc th po lp a b) else (X7_meet_c92 lns hasP fd laid fs sc th po lp a b)
def X7_meets_c93 (lns : Nat) (hasP : Int32) (fd : Nat) (laid : Int32) (fs sc th po lp : Nat → Int32) (a b : Int32) : Nat → Int32 := if (nI (X7_meet_p76_0 lns hasP fd laid fs sc th po lp a b)) = (nI 1) then (X7_meet_c93 lns hasP fd laid fs sc th po lp a b) else (X7_meet_c93 lns hasP fd laid fs sc th po lp a b)
def X7_meets_c94 (lns : Nat) (hasP : Int32) (fd : Nat) (laid : Int32) (fs sc th po lp : Nat → Int32) (a b : Int32) : Nat → Int32 := if (nI (X7_meet_p76_0 lns hasP fd laid fs sc th po lp a b)) = (nI 1) then (X7_meet_c94 lns hasP fd laid fs sc th po lp a b) else (X7_meet_c94 lns hasP fd laid fs sc th po lp a b)
set_option maxRecDepth 100000 in
set_option maxHeartbeats 4000000 in
theorem c_X7_meets (G : zG) (ex : Bool) (g : Nat → va_E) (code : Int32) (tps pts lns wds brs ors : Nat) (stp hasP : Int32) (fd : Nat) (laid told : Int32) (rws : Nat) (cms : Int32) (cmT : Nat) (cmS isN : Int32) (trs : Nat) (fs sc th po lp : Nat → Int32) (a b : Int32) (hf : X7_placesOf_n fd ≤ 183) (hl : lns ≤ 12) (hp : pts ≤ 10) (hw : ∀ l, l < lns → vp_in (lp (5 * l + 0)) pts ∧ vp_in (lp (5 * l + 1)) pts) (hpo : ¬ hasP = 0 → ∀ k, k < pts → vp_in (po k) 183) (h76 : g 76 = (oMod G code (nI tps) (nI pts) (nI lns) (nI wds) (nI brs) (nI ors) stp hasP (nI fd) laid told (nI rws) cms (nI cmT) cmS isN (nI trs))) (h92 : g 92 = (zI G 183 fs)) (h93 : g 93 = (zI G 183 sc)) (h94 : g 94 = (zI G 183 th)) (h89 : g 89 = (zI G 10 po)) (h81 : g 81 = (zI G 60 lp)) : zC G yX7_meets wsX7_meets (zrm 3 69) ex [.ref (zB G + 76), .int a, .int b] (zN, g) (fun r h => r = some (.int (X7_meets_v lns hasP fd laid fs sc th po lp a b)) ∧ h = (zN, zus g [(76, (oMod G (nI (X7_meets_p76_0 lns hasP fd laid fs sc th po lp a b)) (nI tps) (nI pts) (nI lns) (nI wds) (nI brs) (nI ors) stp hasP (nI fd) (X7_meets_p76_10 lns hasP fd laid fs sc th po lp a b) told (nI rws) cms (nI cmT) cmS isN (nI trs))), (92, zI G 183 (X7_meets_c92 lns hasP fd laid fs sc th po lp a b)), (93, zI G 183 (X7_meets_c93 lns hasP fd laid fs sc th po lp a b)), (94, zI G 183 (X7_meets_c94 lns hasP fd laid fs sc th po lp a b))])) := by
  refine zC_of mX7_meets (lv := [some (.ref (zB G + 76)), some (.int a), some (.int b), none, none]) rfl rfl (by decide) (by intro v hv; simp at hv; rcases hv with rfl | rfl | rfl <;> rfl) (Nat.le_of_ble_eq_true rfl) rfl ?_
  refine z_0 ?_
  refine z_heap (g' := zu (zus g []) 76 (oMod G code (nI tps) (nI pts) (nI lns) (nI wds) (nI brs) (nI ors) stp hasP (nI fd) laid told (nI rws) cms (nI cmT) cmS isN (nI trs))) (zu_self (zus g []) 76 _ h76).symm ?_
  refine z_n (L' := [(76, (oMod G code (nI tps) (nI pts) (nI lns) (nI wds) (nI brs) (nI ors) stp hasP (nI fd) laid told (nI rws) cms (nI cmT) cmS isN (nI trs)))]) rfl ?_
  refine z_heap (g' := zu (zus g [(76, (oMod G code (nI tps) (nI pts) (nI lns) (nI wds) (nI brs) (nI ors) stp hasP (nI fd) laid told (nI rws) cms (nI cmT) cmS isN (nI trs)))]) 92 (zI G 183 fs)) (zu_self (zus g [(76, (oMod G code (nI tps) (nI pts) (nI lns) (nI wds) (nI brs) (nI ors) stp hasP (nI fd) laid told (nI rws) cms (nI cmT) cmS isN (nI trs)))]) 92 _ h92).symm ?_
  refine z_n (L' := [(76, (oMod G code (nI tps) (nI pts) (nI lns) (nI wds) (nI brs) (nI ors) stp hasP (nI fd) laid told (nI rws) cms (nI cmT) cmS isN (nI trs))), (92, (zI G 183 fs))]) rfl ?_
  refine z_heap (g' := zu (zus g [(76, (oMod G code (nI tps) (nI pts) (nI lns) (nI wds) (nI brs) (nI ors) stp hasP (nI fd) laid told (nI rws) cms (nI cmT) cmS isN (nI trs))), (92, (zI G 183 fs))]) 93 (zI G 183 sc)) (zu_self (zus g [(76, (oMod G code (nI tps) (nI pts) (nI lns) (nI wds) (nI brs) (nI ors) stp hasP (nI fd) laid told (nI rws) cms (nI cmT) cmS isN (nI trs))), (92, (zI G 183 fs))]) 93 _ h93).symm ?_
  refine z_n (L' := [(76, (oMod G code (nI tps) (nI pts) (nI lns) (nI wds) (nI brs) (nI ors) stp hasP (nI fd) laid told (nI rws) cms (nI cmT) cmS isN (nI trs))), (92, (zI G 183 fs)), (93, (zI G 183 sc))]) rfl ?_
  refine z_heap (g' := zu (zus g [(76, (oMod G code (nI tps) (nI pts) (nI lns) (nI wds) (nI brs) (nI ors) stp hasP (nI fd) laid told (nI rws) cms (nI cmT) cmS isN (nI trs))), (92, (zI G 183 fs)), (93, (zI G 183 sc))]) 94 (zI G 183 th)) (zu_self (zus g [(76, (oMod G code (nI tps) (nI pts) (nI lns) (nI wds) (nI brs) (nI ors) stp hasP (nI fd) laid told (nI rws) cms (nI cmT) cmS isN (nI trs))), (92, (zI G 183 fs)), (93, (zI G 183 sc))]) 94 _ h94).symm ?_
  refine z_n (L' := [(76, (oMod G code (nI tps) (nI pts) (nI lns) (nI wds) (nI brs) (nI ors) stp hasP (nI fd) laid told (nI rws) cms (nI cmT) cmS isN (nI trs))), (92, (zI G 183 fs)), (93, (zI G 183 sc)), (94, (zI G 183 th))]) rfl ?_
  refine z_aload_n dX7_meets_0 rfl rfl ?_
  refine z_iload_n dX7_meets_1 rfl rfl ?_
  refine z_iload_n dX7_meets_2 rfl rfl ?_
  refine z_callVi (c_X7_meet G ex _ code tps pts lns wds brs ors stp hasP fd laid told rws cms cmT cmS isN trs fs sc th po lp a b (by omega) (by omega) (by omega) (by assumption) (by assumption) rfl rfl rfl rfl h89 h81) gX7_meets_X7_meet rfl dX7_meets_3 rfl rfl rfl okk_X7_meet (Nat.le_of_ble_eq_true rfl) rfl rfl ⟨Nat.le_of_ble_eq_true rfl, Nat.le_of_ble_eq_true rfl⟩ ⟨Nat.le_of_ble_eq_true rfl, Nat.le_of_ble_eq_true rfl⟩ (Nat.le_of_ble_eq_true rfl) ?_
  refine z_nn (L' := [(76, (oMod G (nI (X7_meet_p76_0 lns hasP fd laid fs sc th po lp a b)) (nI tps) (nI pts) (nI lns) (nI wds) (nI brs) (nI ors) stp hasP (nI fd) (X7_meet_p76_10 lns hasP fd laid fs sc th po lp a b) told (nI rws) cms (nI cmT) cmS isN (nI trs))), (92, (zI G 183 (X7_meet_c92 lns hasP fd laid fs sc th po lp a b))), (93, (zI G 183 (X7_meet_c93 lns hasP fd laid fs sc th po lp a b))), (94, (zI G 183 (X7_meet_c94 lns hasP fd laid fs sc th po lp a b)))]) rfl ?_
  refine z_istore_3 dX7_meets_6 rfl ?_
  refine z_aload_n dX7_meets_7 rfl rfl ?_
  refine z_get dX7_meets_8 rfl hiX7_meets_X7 0 lkX7_meets_122 (Nat.le_of_ble_eq_true rfl) rfl rfl (by decide) rfl ?_
  refine z_iconst (v := nI 1) dX7_meets_11 rfl (by decide) ?_
  refine z_icmp_ne (tgt := 19) dX7_meets_12 rfl (by decide) (fun c12 => ?_) (fun c12 => ?_)
  · refine z_iconst (v := nI 0) dX7_meets_19 rfl (by decide) ?_
    refine z_istore_4 dX7_meets_20 rfl ?_
    refine z_aload_n dX7_meets_22 rfl rfl ?_
    refine z_iconst (v := nI 0) dX7_meets_23 rfl (by decide) ?_
    refine z_putN (e9 := (oMod G (nI 0) (nI tps) (nI pts) (nI lns) (nI wds) (nI brs) (nI ors) stp hasP (nI fd) (X7_meet_p76_10 lns hasP fd laid fs sc th po lp a b) told (nI rws) cms (nI cmT) cmS isN (nI trs))) tyX7 tyX7_ok nmX7 dX7_meets_24 rfl hiX7_meets_X7 0 lkX7_meets_122 rfl (by decide +kernel) (Nat.le_of_ble_eq_true rfl) rfl rfl (by decide) (Nat.le_of_ble_eq_true rfl) rfl rfl rfl ?_
    refine z_n (L' := [(76, (oMod G (nI 0) (nI tps) (nI pts) (nI lns) (nI wds) (nI brs) (nI ors) stp hasP (nI fd) (X7_meet_p76_10 lns hasP fd laid fs sc th po lp a b) told (nI rws) cms (nI cmT) cmS isN (nI trs))), (92, (zI G 183 (X7_meet_c92 lns hasP fd laid fs sc th po lp a b))), (93, (zI G 183 (X7_meet_c93 lns hasP fd laid fs sc th po lp a b))), (94, (zI G 183 (X7_meet_c94 lns hasP fd laid fs sc th po lp a b)))]) rfl ?_
    refine z_iload dX7_meets_27 rfl rfl ?_
    refine z_if_eq (tgt := 37) dX7_meets_29 rfl (by decide) (fun c29 => ?_) (fun c29 => ?_)
    · refine z_iload_n dX7_meets_37 rfl rfl ?_
      exact z_ireturn dX7_meets_38 rfl rfl (Nat.le_refl _) (Nat.le_refl _) (fun _ => rfl) ⟨by simp only [X7_meets_v, if_neg c12], by simp only [X7_meets_p76_0, X7_meets_p76_10, X7_meets_c92, X7_meets_c93, X7_meets_c94, if_neg c12]⟩
    · exact absurd (by decide) c29
  · refine z_iconst (v := nI 1) dX7_meets_15 rfl (by decide) ?_
    refine z_goto (tgt := 20) dX7_meets_16 (by decide) ?_
    refine z_istore_4 dX7_meets_20 rfl ?_
    refine z_aload_n dX7_meets_22 rfl rfl ?_
    refine z_iconst (v := nI 0) dX7_meets_23 rfl (by decide) ?_
    refine z_putN (e9 := (oMod G (nI 0) (nI tps) (nI pts) (nI lns) (nI wds) (nI brs) (nI ors) stp hasP (nI fd) (X7_meet_p76_10 lns hasP fd laid fs sc th po lp a b) told (nI rws) cms (nI cmT) cmS isN (nI trs))) tyX7 tyX7_ok nmX7 dX7_meets_24 rfl hiX7_meets_X7 0 lkX7_meets_122 rfl (by decide +kernel) (Nat.le_of_ble_eq_true rfl) rfl rfl (by decide) (Nat.le_of_ble_eq_true rfl) rfl rfl rfl ?_
    refine z_n (L' := [(76, (oMod G (nI 0) (nI tps) (nI pts) (nI lns) (nI wds) (nI brs) (nI ors) stp hasP (nI fd) (X7_meet_p76_10 lns hasP fd laid fs sc th po lp a b) told (nI rws) cms (nI cmT) cmS isN (nI trs))), (92, (zI G 183 (X7_meet_c92 lns hasP fd laid fs sc th po lp a b))), (93, (zI G 183 (X7_meet_c93 lns hasP fd laid fs sc th po lp a b))), (94, (zI G 183 (X7_meet_c94 lns hasP fd laid fs sc th po lp a b)))]) rfl ?_
    refine z_iload dX7_meets_27 rfl rfl ?_
    refine z_if_eq (tgt := 37) dX7_meets_29 rfl (by decide) (fun c29 => ?_) (fun c29 => ?_)
    · exact absurd c29 (by decide)
    · refine z_bipush (v := (-4)) dX7_meets_32 rfl (by decide) ?_
      refine z_goto (tgt := 38) dX7_meets_34 (by decide) ?_
      exact z_ireturn dX7_meets_38 rfl rfl (Nat.le_refl _) (Nat.le_refl _) (fun _ => rfl) ⟨by simp only [X7_meets_v, if_pos c12], by simp only [X7_meets_p76_0, X7_meets_p76_10, X7_meets_c92, X7_meets_c93, X7_meets_c94, if_pos c12]⟩
abbrev mX7_pivot : zM := (cX7_pivot, 5, (some .int), RX7, wsX7_pivot, "pivot")
theorem hiX7_pivot_X7 : ∀ w ∈ wsX70, w ∈ wsX7_pivot := fun w h => List.mem_cons_of_mem _ (List.mem_append_right _ h)
theorem lkX7_pivot_122 : Cond.fieldLink RX7 122 "ConfigSearchModel" "code" "I" ∈ wsX7_pivot := by decide +kernel
def X7_pivot_L31_F (p : Int32) (v : Int32) (d : Int32) (r : Nat) (a9 : Unit) : Unit := if (lg_cmp (((((nI r).toInt64) * d.toInt64) - v.toInt64) - ((((nI r).toInt64) * d.toInt64) - v.toInt64) / p.toInt64 * p.toInt64) 0) = 0 then () else ()
def X7_pivot_L31_B (p : Int32) (v : Int32) (d : Int32) (r : Nat) (a9 : Unit) : Option ((Int32) × (Nat)) := if (lg_cmp (((((nI r).toInt64) * d.toInt64) - v.toInt64) - ((((nI r).toInt64) * d.toInt64) - v.toInt64) / p.toInt64 * p.toInt64) 0) = 0 then (some (nI r, 0)) else none
def X7_pivot_v (tps pts lns wds brs ors : Nat) (stp hasP fld laid told : Int32) (rws : Nat) (cms : Int32) (cmT : Nat) (cmS isN : Int32) (trs : Nat) (p v d : Int32) : Int32 := if (X7_isPrime_v p) = 0 then (-9) else (if (d - d / p * p) = 0 then (nI 0) else (zpick (zfoldB (X7_pivot_L31_B p v d) (X7_pivot_L31_F p v d) p.toNatClampNeg 0 ()) (fun b => b.1) (fun am31 => nI 0)))
def X7_pivot_p76_0 (tps pts lns wds brs ors : Nat) (stp hasP fld laid told : Int32) (rws : Nat) (cms : Int32) (cmT : Nat) (cmS isN : Int32) (trs : Nat) (p v d : Int32) : Nat := if (X7_isPrime_v p) = 0 then 0 else (if (d - d / p * p) = 0 then 1 else (zpick (zfoldB (X7_pivot_L31_B p v d) (X7_pivot_L31_F p v d) p.toNatClampNeg 0 ()) (fun b => b.2) (fun am31 => 0)))
set_option maxRecDepth 100000 in
set_option maxHeartbeats 4000000 in
theorem c_X7_pivot (G : zG) (ex : Bool) (g : Nat → va_E) (code : Int32) (tps pts lns wds brs ors : Nat) (stp hasP fld laid told : Int32) (rws : Nat) (cms : Int32) (cmT : Nat) (cmS isN : Int32) (trs : Nat) (p v d : Int32) (hpv : ¬ X7_isPrime_v p = 0 → ¬ d - d / p * p = 0 → ∃ r, r < p.toNatClampNeg ∧ lg_cmp ((((nI r).toInt64 * d.toInt64) - v.toInt64) - (((nI r).toInt64 * d.toInt64) - v.toInt64) / p.toInt64 * p.toInt64) 0 = 0) (h76 : g 76 = (oMod G code (nI tps) (nI pts) (nI lns) (nI wds) (nI brs) (nI ors) stp hasP fld laid told (nI rws) cms (nI cmT) cmS isN (nI trs))) : zC G yX7_pivot wsX7_pivot (zrm 1 20) ex [.ref (zB G + 76), .int p, .int v, .int d] (zN, g) (fun r h => r = some (.int (X7_pivot_v tps pts lns wds brs ors stp hasP fld laid told rws cms cmT cmS isN trs p v d)) ∧ h = (zN, zus g [(76, (oMod G (nI (X7_pivot_p76_0 tps pts lns wds brs ors stp hasP fld laid told rws cms cmT cmS isN trs p v d)) (nI tps) (nI pts) (nI lns) (nI wds) (nI brs) (nI ors) stp hasP fld laid told (nI rws) cms (nI cmT) cmS isN (nI trs)))])) := by
  refine zC_of mX7_pivot (lv := [some (.ref (zB G + 76)), some (.int p), some (.int v), some (.int d), none]) rfl rfl (by decide) (by intro v hv; simp at hv; rcases hv with rfl | rfl | rfl | rfl <;> rfl) (Nat.le_of_ble_eq_true rfl) rfl ?_
  refine z_0 ?_
  refine z_heap (g' := zu (zus g []) 76 (oMod G code (nI tps) (nI pts) (nI lns) (nI wds) (nI brs) (nI ors) stp hasP fld laid told (nI rws) cms (nI cmT) cmS isN (nI trs))) (zu_self (zus g []) 76 _ h76).symm ?_
  refine z_n (L' := [(76, (oMod G code (nI tps) (nI pts) (nI lns) (nI wds) (nI brs) (nI ors) stp hasP fld laid told (nI rws) cms (nI cmT) cmS isN (nI trs)))]) rfl ?_
  refine z_aload_n dX7_pivot_0 rfl rfl ?_
  refine z_iconst (v := nI 0) dX7_pivot_1 rfl (by decide) ?_
  refine z_putN (e9 := (oMod G (nI 0) (nI tps) (nI pts) (nI lns) (nI wds) (nI brs) (nI ors) stp hasP fld laid told (nI rws) cms (nI cmT) cmS isN (nI trs))) tyX7 tyX7_ok nmX7 dX7_pivot_2 rfl hiX7_pivot_X7 0 lkX7_pivot_122 rfl (by decide +kernel) (Nat.le_of_ble_eq_true rfl) rfl rfl (by decide) (Nat.le_of_ble_eq_true rfl) rfl rfl rfl ?_
  refine z_n (L' := [(76, (oMod G (nI 0) (nI tps) (nI pts) (nI lns) (nI wds) (nI brs) (nI ors) stp hasP fld laid told (nI rws) cms (nI cmT) cmS isN (nI trs)))]) rfl ?_
  refine z_iload_n dX7_pivot_5 rfl rfl ?_
  refine z_callSi (c_X7_isPrime G ex _ p) gX7_pivot_X7_isPrime rfl dX7_pivot_6 rfl rfl okk_X7_isPrime ⟨Nat.le_of_ble_eq_true rfl, Nat.le_of_ble_eq_true rfl⟩ ⟨Nat.le_of_ble_eq_true rfl, Nat.le_of_ble_eq_true rfl⟩ (Nat.le_of_ble_eq_true rfl) ?_
  refine z_if_ne (tgt := 15) dX7_pivot_9 rfl (by decide) (fun c9 => ?_) (fun c9 => ?_)
  · refine z_iload_n dX7_pivot_15 rfl rfl ?_
    refine z_iload_n dX7_pivot_16 rfl rfl ?_
    refine z_irem dX7_pivot_17 rfl (rprime_ne c9) ?_
    refine z_if_ne (tgt := 28) dX7_pivot_18 rfl (by decide) (fun c18 => ?_) (fun c18 => ?_)
    · refine z_iconst (v := nI 0) dX7_pivot_28 rfl (by decide) ?_
      refine z_istore_4 dX7_pivot_29 rfl ?_
      refine z_forB (head := fun r (st9 : Unit) => Z G mX7_pivot (zrm 1 20) ex _ 31 [some (.ref (zB G + 76)), some (.int p), some (.int v), some (.int d), some (.int (nI r))] [] (zN, zus g [(76, (oMod G (nI 0) (nI tps) (nI pts) (nI lns) (nI wds) (nI brs) (nI ors) stp hasP fld laid told (nI rws) cms (nI cmT) cmS isN (nI trs)))]) 0 0) (out := fun b _ => (some (Value.int b.1) = some (Value.int (X7_pivot_v tps pts lns wds brs ors stp hasP fld laid told rws cms cmT cmS isN trs p v d))) ∧ ((zN, zus g [(76, (oMod G (nI b.2) (nI tps) (nI pts) (nI lns) (nI wds) (nI brs) (nI ors) stp hasP fld laid told (nI rws) cms (nI cmT) cmS isN (nI trs)))]) : zAH) = (zN, zus g [(76, (oMod G (nI (X7_pivot_p76_0 tps pts lns wds brs ors stp hasP fld laid told rws cms cmT cmS isN trs p v d)) (nI tps) (nI pts) (nI lns) (nI wds) (nI brs) (nI ors) stp hasP fld laid told (nI rws) cms (nI cmT) cmS isN (nI trs)))])) (B := (X7_pivot_L31_B p v d)) (F := (X7_pivot_L31_F p v d)) (n := p.toNatClampNeg) (fun t _ => ∀ j, j < t → ¬ lg_cmp ((((nI j).toInt64 * d.toInt64) - v.toInt64) - (((nI j).toInt64 * d.toInt64) - v.toInt64) / p.toInt64 * p.toInt64) 0 = 0) (fun t a ht h hB j hj => by
            unfold X7_pivot_L31_B at hB
            split at hB
            · cases hB
            · rename_i c
              rcases Nat.lt_succ_iff_lt_or_eq.mp hj with q | q
              · exact h j q
              · rw [q]; exact c) ?_ p.toNatClampNeg 0 () (by omega) (fun j h => absurd h (Nat.not_lt_zero j)) ?_ ?_
      · intro r _ hi hI Ko K
        refine z_iload dX7_pivot_31 rfl rfl ?_
        refine z_i2l dX7_pivot_33 rfl ?_
        refine z_iload_n dX7_pivot_34 rfl rfl ?_
        refine z_i2l dX7_pivot_35 rfl ?_
        refine z_lmul dX7_pivot_36 rfl ?_
        refine z_iload_n dX7_pivot_37 rfl rfl ?_
        refine z_i2l dX7_pivot_38 rfl ?_
        refine z_lsub dX7_pivot_39 rfl ?_
        refine z_iload_n dX7_pivot_40 rfl rfl ?_
        refine z_i2l dX7_pivot_41 rfl ?_
        refine z_lrem dX7_pivot_42 rfl (rprime_ne64 c9) ?_
        refine z_lconst (v := 0) dX7_pivot_43 rfl rfl ?_
        refine z_lcmp dX7_pivot_44 rfl ?_
        refine z_if_eq (tgt := 54) dX7_pivot_45 rfl (by decide) (fun c45 => ?_) (fun c45 => ?_)
        · refine z_iload dX7_pivot_54 rfl rfl ?_
          exact z_ireturn dX7_pivot_56 rfl rfl (Nat.le_refl _) (Nat.le_refl _) (fun _ => rfl) (Ko (nI r, 0) (by simp only [X7_pivot_L31_B, if_pos c45]))
        · refine z_iinc_4 (v := nI (r + 1)) dX7_pivot_48 rfl (zinc _) ?_
          refine z_goto (tgt := 31) dX7_pivot_51 (by decide) ?_
          have K9 := (K (by simp only [X7_pivot_L31_B, if_neg c45]))
          try simp only [X7_pivot_L31_F, if_neg c45] at K9
          exact K9
      · intro b a9 hz31
        exact ⟨by simp only [X7_pivot_v, if_neg c9, if_neg c18, hz31, zpick_s], by simp only [X7_pivot_p76_0, if_neg c9, if_neg c18, hz31, zpick_s]⟩
      · intro _ hz31 hI
        obtain ⟨r9, hr9, hr8⟩ := hpv c9 c18
        exact absurd hr8 (hI r9 hr9)
    · refine z_aload_n dX7_pivot_21 rfl rfl ?_
      refine z_iconst (v := nI 1) dX7_pivot_22 rfl (by decide) ?_
      refine z_putN (e9 := (oMod G (nI 1) (nI tps) (nI pts) (nI lns) (nI wds) (nI brs) (nI ors) stp hasP fld laid told (nI rws) cms (nI cmT) cmS isN (nI trs))) tyX7 tyX7_ok nmX7 dX7_pivot_23 rfl hiX7_pivot_X7 0 lkX7_pivot_122 rfl (by decide +kernel) (Nat.le_of_ble_eq_true rfl) rfl rfl (by decide) (Nat.le_of_ble_eq_true rfl) rfl rfl rfl ?_
      refine z_n (L' := [(76, (oMod G (nI 1) (nI tps) (nI pts) (nI lns) (nI wds) (nI brs) (nI ors) stp hasP fld laid told (nI rws) cms (nI cmT) cmS isN (nI trs)))]) rfl ?_
      refine z_iconst (v := nI 0) dX7_pivot_26 rfl (by decide) ?_
      exact z_ireturn dX7_pivot_27 rfl rfl (Nat.le_refl _) (Nat.le_refl _) (fun _ => rfl) ⟨by simp only [X7_pivot_v, if_neg c9, if_pos c18], by simp only [X7_pivot_p76_0, if_neg c9, if_pos c18]⟩
  · refine z_bipush (v := (-9)) dX7_pivot_12 rfl (by decide) ?_
    exact z_ireturn dX7_pivot_14 rfl rfl (Nat.le_refl _) (Nat.le_refl _) (fun _ => rfl) ⟨by simp only [X7_pivot_v, if_pos c9], by simp only [X7_pivot_p76_0, if_pos c9]⟩
