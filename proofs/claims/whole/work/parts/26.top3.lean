abbrev mX6_placeOfBoth : zM := (cX6_placeOfBoth, 3, (some .int), RX6, wsX6_placeOfBoth, "placeOfBoth")
theorem hiX6_placeOfBoth_X6 : ∀ w ∈ wsX60, w ∈ wsX6_placeOfBoth := fun w h => List.mem_cons_of_mem _ (List.mem_append_left _ (List.mem_append_left _ (List.mem_append_left _ (List.mem_append_right _ h))))
theorem lkX6_placeOfBoth_20 : Cond.fieldLink RX6 20 "ConfigSearch" "text" "LConfigSearch$Text;" ∈ wsX6_placeOfBoth := by decide +kernel
theorem lkX6_placeOfBoth_39 : Cond.fieldLink RX6 39 "ConfigSearch" "search" "LConfigSearch$Search;" ∈ wsX6_placeOfBoth := by decide +kernel
theorem hiX6_placeOfBoth_X3 : ∀ w ∈ wsX30, w ∈ wsX6_placeOfBoth := fun w h => List.mem_cons_of_mem _ (List.mem_append_left _ (List.mem_append_left _ (List.mem_append_right _ h)))
theorem lkX6_placeOfBoth_143 : Cond.fieldLink RX6 143 "ConfigSearch$Search" "found" "Z" ∈ wsX6_placeOfBoth := by decide +kernel
theorem lkX6_placeOfBoth_214 : Cond.fieldLink RX6 214 "ConfigSearch$Search" "plane" "LConfigSearch$Plane;" ∈ wsX6_placeOfBoth := by decide +kernel
theorem hiX6_placeOfBoth_X2 : ∀ w ∈ wsX20, w ∈ wsX6_placeOfBoth := fun w h => List.mem_cons_of_mem _ (List.mem_append_left _ (List.mem_append_right _ h))
theorem lkX6_placeOfBoth_218 : Cond.fieldLink RX6 218 "ConfigSearch$Plane" "field" "I" ∈ wsX6_placeOfBoth := by decide +kernel
theorem hiX6_placeOfBoth_X4 : ∀ w ∈ wsX40, w ∈ wsX6_placeOfBoth := fun w h => List.mem_cons_of_mem _ (List.mem_append_right _ h)
theorem lkX6_placeOfBoth_101 : Cond.fieldLink RX6 101 "ConfigSearch$Text" "word" "[[I" ∈ wsX6_placeOfBoth := by decide +kernel
theorem okk_X3_placeOnBoth : zOk yX3_placeOnBoth 2 := by unfold zOk; decide +kernel
def X6_placeOfBoth_v (lns : Nat) (wd : Nat → Nat → Int32) (fnd : Int32) (fd : Nat) (n0 n1 n2 : Nat → Int32) (plc p1 p2 l1 l2 : Nat → Int32) (a b : Int32) : Int32 := if (X4_hasLine_v lns a) = 0 then (-9) else (if (X4_hasLine_v lns b) = 0 then (-9) else (if a = b then (-9) else (if fnd = 0 then (-2) else (if (nI fd) = 0 then (-2) else (X3_placeOnBoth_v fd n0 n1 n2 plc p1 p2 l1 l2 (wd a.toNatClampNeg) (wd b.toNatClampNeg))))))
def X6_placeOfBoth_c55 (lns : Nat) (wd : Nat → Nat → Int32) (fnd : Int32) (fd : Nat) (n0 n1 n2 : Nat → Int32) (plc p1 p2 l1 l2 : Nat → Int32) (a b : Int32) : Nat → Int32 := if (X4_hasLine_v lns a) = 0 then p1 else (if (X4_hasLine_v lns b) = 0 then p1 else (if a = b then p1 else (if fnd = 0 then p1 else (if (nI fd) = 0 then p1 else (X3_placeOnBoth_c55 fd n0 n1 n2 plc p1 p2 l1 l2 (wd a.toNatClampNeg) (wd b.toNatClampNeg))))))
def X6_placeOfBoth_c56 (lns : Nat) (wd : Nat → Nat → Int32) (fnd : Int32) (fd : Nat) (n0 n1 n2 : Nat → Int32) (plc p2 : Nat → Int32) (a b : Int32) : Nat → Int32 := if (X4_hasLine_v lns a) = 0 then p2 else (if (X4_hasLine_v lns b) = 0 then p2 else (if a = b then p2 else (if fnd = 0 then p2 else (if (nI fd) = 0 then p2 else (X3_placeOnBoth_c56 n0 n1 n2 plc p2 (wd a.toNatClampNeg) (wd b.toNatClampNeg))))))
def X6_placeOfBoth_c57 (lns : Nat) (wd : Nat → Nat → Int32) (fnd : Int32) (fd : Nat) (n0 n1 n2 : Nat → Int32) (plc p1 p2 l1 : Nat → Int32) (a b : Int32) : Nat → Int32 := if (X4_hasLine_v lns a) = 0 then l1 else (if (X4_hasLine_v lns b) = 0 then l1 else (if a = b then l1 else (if fnd = 0 then l1 else (if (nI fd) = 0 then l1 else (X3_placeOnBoth_c57 fd n0 n1 n2 plc p1 p2 l1 (wd a.toNatClampNeg))))))
def X6_placeOfBoth_c58 (lns : Nat) (wd : Nat → Nat → Int32) (fnd : Int32) (fd : Nat) (n0 n1 n2 : Nat → Int32) (plc p1 p2 l2 : Nat → Int32) (a b : Int32) : Nat → Int32 := if (X4_hasLine_v lns a) = 0 then l2 else (if (X4_hasLine_v lns b) = 0 then l2 else (if a = b then l2 else (if fnd = 0 then l2 else (if (nI fd) = 0 then l2 else (X3_placeOnBoth_c58 fd n0 n1 n2 plc p1 p2 l2 (wd a.toNatClampNeg) (wd b.toNatClampNeg))))))
set_option maxRecDepth 100000 in
set_option maxHeartbeats 4000000 in
theorem c_X6_placeOfBoth_2 (G : zG) (ex : Bool) (g : Nat → va_E) (pts lns ltr : Nat) (inw : Int32) (ont : Nat) (wd : Nat → Nat → Int32) (fnd : Int32) (stp : Nat) (fd psz : Nat) (n0 n1 n2 : Nat → Int32) (plc p1 p2 l1 l2 : Nat → Int32) (a b : Int32) (hl : lns ≤ 12) (hw : ∀ l, l < lns → vp_in (wd l 0) pts ∧ vp_in (wd l 1) pts) (hp : pts ≤ 10) (hpc : ¬ fnd = 0 → ∀ k, k < pts → vp_in (plc k) 183) (hpd : ¬ fd = 0 → fd ≤ 13) (h0 : g 0 = (oCfg G 2 19 (nI ont))) (h2 : g 2 = (oTxt G 2 (nI pts) (nI lns) (nI ltr) inw)) (h5 : g 5 = (zR G 12 (zrw G 12 6))) (h6 : ∀ l9, l9 < 12 → g (6 + l9) = zI G 5 (wd l9)) (h40 : g 40 = (oSch G fnd (nI stp))) (h41 : g 41 = (oPln G (nI fd) (nI psz))) (h42 : g 42 = (zR G 3 (zrw G 3 43))) (h43 : g 43 = (zI G 183 n0)) (h44 : g 44 = (zI G 183 n1)) (h45 : g 45 = (zI G 183 n2)) (h46 : g 46 = (zI G 10 plc)) (h55 : g 55 = (zI G 3 p1)) (h56 : g 56 = (zI G 3 p2)) (h57 : g 57 = (zI G 3 l1)) (h58 : g 58 = (zI G 3 l2)) : zC G yX6_placeOfBoth wsX6_placeOfBoth (zrm 5 111) ex [.ref (zB G + 0), .int a, .int b] (zN, g) (fun r h => r = some (.int (X6_placeOfBoth_v lns wd fnd fd n0 n1 n2 plc p1 p2 l1 l2 a b)) ∧ h = (zN, zus g [(55, zI G 3 (X6_placeOfBoth_c55 lns wd fnd fd n0 n1 n2 plc p1 p2 l1 l2 a b)), (56, zI G 3 (X6_placeOfBoth_c56 lns wd fnd fd n0 n1 n2 plc p2 a b)), (57, zI G 3 (X6_placeOfBoth_c57 lns wd fnd fd n0 n1 n2 plc p1 p2 l1 a b)), (58, zI G 3 (X6_placeOfBoth_c58 lns wd fnd fd n0 n1 n2 plc p1 p2 l2 a b))])) := by
  refine zC_of mX6_placeOfBoth (lv := [some (.ref (zB G + 0)), some (.int a), some (.int b)]) rfl rfl (by decide) (by intro v hv; simp at hv; rcases hv with rfl | rfl | rfl <;> rfl) (Nat.le_of_ble_eq_true rfl) rfl ?_
  refine z_0 ?_
  refine z_heap (g' := zu (zus g []) 55 (zI G 3 p1)) (zu_self (zus g []) 55 _ h55).symm ?_
  refine z_n (L' := [(55, (zI G 3 p1))]) rfl ?_
  refine z_heap (g' := zu (zus g [(55, (zI G 3 p1))]) 56 (zI G 3 p2)) (zu_self (zus g [(55, (zI G 3 p1))]) 56 _ h56).symm ?_
  refine z_n (L' := [(55, (zI G 3 p1)), (56, (zI G 3 p2))]) rfl ?_
  refine z_heap (g' := zu (zus g [(55, (zI G 3 p1)), (56, (zI G 3 p2))]) 57 (zI G 3 l1)) (zu_self (zus g [(55, (zI G 3 p1)), (56, (zI G 3 p2))]) 57 _ h57).symm ?_
  refine z_n (L' := [(55, (zI G 3 p1)), (56, (zI G 3 p2)), (57, (zI G 3 l1))]) rfl ?_
  refine z_heap (g' := zu (zus g [(55, (zI G 3 p1)), (56, (zI G 3 p2)), (57, (zI G 3 l1))]) 58 (zI G 3 l2)) (zu_self (zus g [(55, (zI G 3 p1)), (56, (zI G 3 p2)), (57, (zI G 3 l1))]) 58 _ h58).symm ?_
  refine z_n (L' := [(55, (zI G 3 p1)), (56, (zI G 3 p2)), (57, (zI G 3 l1)), (58, (zI G 3 l2))]) rfl ?_
  refine z_aload_n dX6_placeOfBoth_0 rfl rfl ?_
  refine z_get dX6_placeOfBoth_1 rfl hiX6_placeOfBoth_X6 2 lkX6_placeOfBoth_20 (Nat.le_of_ble_eq_true rfl) h0 rfl (by decide) rfl ?_
  refine z_iload_n dX6_placeOfBoth_4 rfl rfl ?_
  refine z_callVi (c_X4_hasLine_2 G ex _ pts lns ltr inw a h2) gX6_placeOfBoth_X4_hasLine rfl dX6_placeOfBoth_5 rfl rfl rfl okk_X4_hasLine (Nat.le_of_ble_eq_true rfl) h2 rfl ⟨Nat.le_of_ble_eq_true rfl, Nat.le_of_ble_eq_true rfl⟩ ⟨Nat.le_of_ble_eq_true rfl, Nat.le_of_ble_eq_true rfl⟩ (Nat.le_of_ble_eq_true rfl) ?_
  refine z_if_eq (tgt := 27) dX6_placeOfBoth_8 rfl (by decide) (fun c8 => ?_) (fun c8 => ?_)
  · refine z_bipush (v := (-9)) dX6_placeOfBoth_27 rfl (by decide) ?_
    exact z_ireturn dX6_placeOfBoth_29 rfl rfl (Nat.le_refl _) (Nat.le_refl _) (fun _ => rfl) ⟨by simp only [X6_placeOfBoth_v, if_pos c8], by simp only [X6_placeOfBoth_c55, X6_placeOfBoth_c56, X6_placeOfBoth_c57, X6_placeOfBoth_c58, if_pos c8]⟩
  · refine z_aload_n dX6_placeOfBoth_11 rfl rfl ?_
    refine z_get dX6_placeOfBoth_12 rfl hiX6_placeOfBoth_X6 2 lkX6_placeOfBoth_20 (Nat.le_of_ble_eq_true rfl) h0 rfl (by decide) rfl ?_
    refine z_iload_n dX6_placeOfBoth_15 rfl rfl ?_
    refine z_callVi (c_X4_hasLine_2 G ex _ pts lns ltr inw b h2) gX6_placeOfBoth_X4_hasLine rfl dX6_placeOfBoth_16 rfl rfl rfl okk_X4_hasLine (Nat.le_of_ble_eq_true rfl) h2 rfl ⟨Nat.le_of_ble_eq_true rfl, Nat.le_of_ble_eq_true rfl⟩ ⟨Nat.le_of_ble_eq_true rfl, Nat.le_of_ble_eq_true rfl⟩ (Nat.le_of_ble_eq_true rfl) ?_
    refine z_if_eq (tgt := 27) dX6_placeOfBoth_19 rfl (by decide) (fun c19 => ?_) (fun c19 => ?_)
    · refine z_bipush (v := (-9)) dX6_placeOfBoth_27 rfl (by decide) ?_
      exact z_ireturn dX6_placeOfBoth_29 rfl rfl (Nat.le_refl _) (Nat.le_refl _) (fun _ => rfl) ⟨by simp only [X6_placeOfBoth_v, if_neg c8, if_pos c19], by simp only [X6_placeOfBoth_c55, X6_placeOfBoth_c56, X6_placeOfBoth_c57, X6_placeOfBoth_c58, if_neg c8, if_pos c19]⟩
    · refine z_iload_n dX6_placeOfBoth_22 rfl rfl ?_
      refine z_iload_n dX6_placeOfBoth_23 rfl rfl ?_
      refine z_icmp_ne (tgt := 30) dX6_placeOfBoth_24 rfl (by decide) (fun c24 => ?_) (fun c24 => ?_)
      · refine z_aload_n dX6_placeOfBoth_30 rfl rfl ?_
        refine z_get dX6_placeOfBoth_31 rfl hiX6_placeOfBoth_X6 5 lkX6_placeOfBoth_39 (Nat.le_of_ble_eq_true rfl) h0 rfl (by decide) rfl ?_
        refine z_get dX6_placeOfBoth_34 rfl hiX6_placeOfBoth_X3 1 lkX6_placeOfBoth_143 (Nat.le_of_ble_eq_true rfl) h40 rfl (by decide) rfl ?_
        refine z_if_eq (tgt := 53) dX6_placeOfBoth_37 rfl (by decide) (fun c37 => ?_) (fun c37 => ?_)
        · refine z_bipush (v := (-2)) dX6_placeOfBoth_53 rfl (by decide) ?_
          exact z_ireturn dX6_placeOfBoth_55 rfl rfl (Nat.le_refl _) (Nat.le_refl _) (fun _ => rfl) ⟨by simp only [X6_placeOfBoth_v, if_neg c8, if_neg c19, if_neg c24, if_pos c37], by simp only [X6_placeOfBoth_c55, X6_placeOfBoth_c56, X6_placeOfBoth_c57, X6_placeOfBoth_c58, if_neg c8, if_neg c19, if_neg c24, if_pos c37]⟩
        · refine z_aload_n dX6_placeOfBoth_40 rfl rfl ?_
          refine z_get dX6_placeOfBoth_41 rfl hiX6_placeOfBoth_X6 5 lkX6_placeOfBoth_39 (Nat.le_of_ble_eq_true rfl) h0 rfl (by decide) rfl ?_
          refine z_get dX6_placeOfBoth_44 rfl hiX6_placeOfBoth_X3 0 lkX6_placeOfBoth_214 (Nat.le_of_ble_eq_true rfl) h40 rfl (by decide) rfl ?_
          refine z_get dX6_placeOfBoth_47 rfl hiX6_placeOfBoth_X2 0 lkX6_placeOfBoth_218 (Nat.le_of_ble_eq_true rfl) h41 rfl (by decide) rfl ?_
          refine z_if_ne (tgt := 56) dX6_placeOfBoth_50 rfl (by decide) (fun c50 => ?_) (fun c50 => ?_)
          · have hva : vp_in a lns := hasLine_in c8 hl
            have hvb : vp_in b lns := hasLine_in c19 hl
            have hla := zvlt hva
            have hlb := zvlt hvb
            have hfd := hpd (fun q => c50 (by rw [q]; rfl))
            refine z_lv (congrArg (fun z9 : Int32 => ([some (.ref (zB G + 0)), some (.int z9), some (.int b)] : List (Option Value))) (show a = (nI a.toNatClampNeg) from zvin hva)) ?_
            refine z_lv (congrArg (fun z9 : Int32 => ([some (.ref (zB G + 0)), some (.int (nI a.toNatClampNeg)), some (.int z9)] : List (Option Value))) (show b = (nI b.toNatClampNeg) from zvin hvb)) ?_
            refine z_aload_n dX6_placeOfBoth_56 rfl rfl ?_
            refine z_get dX6_placeOfBoth_57 rfl hiX6_placeOfBoth_X6 5 lkX6_placeOfBoth_39 (Nat.le_of_ble_eq_true rfl) h0 rfl (by decide) rfl ?_
            refine z_aload_n dX6_placeOfBoth_60 rfl rfl ?_
            refine z_get dX6_placeOfBoth_61 rfl hiX6_placeOfBoth_X6 2 lkX6_placeOfBoth_20 (Nat.le_of_ble_eq_true rfl) h0 rfl (by decide) rfl ?_
            refine z_get dX6_placeOfBoth_64 rfl hiX6_placeOfBoth_X4 5 lkX6_placeOfBoth_101 (Nat.le_of_ble_eq_true rfl) h2 rfl (by decide) rfl ?_
            refine z_iload_n dX6_placeOfBoth_67 rfl rfl ?_
            refine z_aaldN (j := a.toNatClampNeg) (a := zB G + (6 + a.toNatClampNeg)) dX6_placeOfBoth_68 rfl (Nat.le_of_ble_eq_true rfl) h5 (rfl) (by omega) (by decide) (zrw_at (by omega)) ?_
            refine z_aload_n dX6_placeOfBoth_69 rfl rfl ?_
            refine z_get dX6_placeOfBoth_70 rfl hiX6_placeOfBoth_X6 2 lkX6_placeOfBoth_20 (Nat.le_of_ble_eq_true rfl) h0 rfl (by decide) rfl ?_
            refine z_get dX6_placeOfBoth_73 rfl hiX6_placeOfBoth_X4 5 lkX6_placeOfBoth_101 (Nat.le_of_ble_eq_true rfl) h2 rfl (by decide) rfl ?_
            refine z_iload_n dX6_placeOfBoth_76 rfl rfl ?_
            refine z_aaldN (j := b.toNatClampNeg) (a := zB G + (6 + b.toNatClampNeg)) dX6_placeOfBoth_77 rfl (Nat.le_of_ble_eq_true rfl) h5 (rfl) (by omega) (by decide) (zrw_at (by omega)) ?_
            refine z_callVi (c_X3_placeOnBoth G ex _ fnd (nI stp) fd psz n0 n1 n2 plc p1 p2 l1 l2 (wd a.toNatClampNeg) (wd b.toNatClampNeg) (6 + a.toNatClampNeg) (6 + b.toNatClampNeg) (zk12 (by omega) (by decide)) (zk12 (by omega) (by decide)) (by omega) (by omega) (Nat.pos_of_ne_zero (fun q => c50 (by rw [q]; rfl))) hfd (vp_mn (hw _ hla).1 hp) (vp_mn (hw _ hla).2 hp) (vp_mn (hw _ hlb).1 hp) (vp_mn (hw _ hlb).2 hp) (hpc c37 _ (zvlt (hw _ hla).1)) (hpc c37 _ (zvlt (hw _ hla).2)) (hpc c37 _ (zvlt (hw _ hlb).1)) (hpc c37 _ (zvlt (hw _ hlb).2)) h40 h41 h42 h43 h44 h45 h46 rfl rfl rfl rfl (zus_out (by intro q hq; simp at hq; omega) (h6 _ (by omega))) (zus_out (by intro q hq; simp at hq; omega) (h6 _ (by omega)))) gX6_placeOfBoth_X3_placeOnBoth rfl dX6_placeOfBoth_78 rfl rfl rfl okk_X3_placeOnBoth (Nat.le_of_ble_eq_true rfl) h40 rfl ⟨Nat.le_of_ble_eq_true rfl, Nat.le_of_ble_eq_true rfl⟩ ⟨Nat.le_of_ble_eq_true rfl, Nat.le_of_ble_eq_true rfl⟩ (Nat.le_of_ble_eq_true rfl) ?_
            refine z_nn (L' := [(55, (zI G 3 (X3_placeOnBoth_c55 fd n0 n1 n2 plc p1 p2 l1 l2 (wd a.toNatClampNeg) (wd b.toNatClampNeg)))), (56, (zI G 3 (X3_placeOnBoth_c56 n0 n1 n2 plc p2 (wd a.toNatClampNeg) (wd b.toNatClampNeg)))), (57, (zI G 3 (X3_placeOnBoth_c57 fd n0 n1 n2 plc p1 p2 l1 (wd a.toNatClampNeg)))), (58, (zI G 3 (X3_placeOnBoth_c58 fd n0 n1 n2 plc p1 p2 l2 (wd a.toNatClampNeg) (wd b.toNatClampNeg))))]) rfl ?_
            exact z_ireturn dX6_placeOfBoth_81 rfl rfl (Nat.le_refl _) (Nat.le_refl _) (fun _ => rfl) ⟨by simp only [X6_placeOfBoth_v, if_neg c8, if_neg c19, if_neg c24, if_neg c37, if_neg c50], by simp only [X6_placeOfBoth_c55, X6_placeOfBoth_c56, X6_placeOfBoth_c57, X6_placeOfBoth_c58, if_neg c8, if_neg c19, if_neg c24, if_neg c37, if_neg c50]⟩
          · refine z_bipush (v := (-2)) dX6_placeOfBoth_53 rfl (by decide) ?_
            exact z_ireturn dX6_placeOfBoth_55 rfl rfl (Nat.le_refl _) (Nat.le_refl _) (fun _ => rfl) ⟨by simp only [X6_placeOfBoth_v, if_neg c8, if_neg c19, if_neg c24, if_neg c37, if_pos c50], by simp only [X6_placeOfBoth_c55, X6_placeOfBoth_c56, X6_placeOfBoth_c57, X6_placeOfBoth_c58, if_neg c8, if_neg c19, if_neg c24, if_neg c37, if_pos c50]⟩
      · refine z_bipush (v := (-9)) dX6_placeOfBoth_27 rfl (by decide) ?_
        exact z_ireturn dX6_placeOfBoth_29 rfl rfl (Nat.le_refl _) (Nat.le_refl _) (fun _ => rfl) ⟨by simp only [X6_placeOfBoth_v, if_neg c8, if_neg c19, if_pos c24], by simp only [X6_placeOfBoth_c55, X6_placeOfBoth_c56, X6_placeOfBoth_c57, X6_placeOfBoth_c58, if_neg c8, if_neg c19, if_pos c24]⟩
abbrev mX6_meets : zM := (cX6_meets, 3, (some .int), RX6, wsX6_meets, "meets")
theorem okk_X6_placeOfBoth : zOk yX6_placeOfBoth 2 := by unfold zOk; decide +kernel
def X6_meets_v (lns : Nat) (wd : Nat → Nat → Int32) (fnd : Int32) (fd : Nat) (n0 n1 n2 : Nat → Int32) (plc p1 p2 l1 l2 : Nat → Int32) (a b : Int32) : Int32 := X6_placeOfBoth_v lns wd fnd fd n0 n1 n2 plc p1 p2 l1 l2 a b
def X6_meets_c55 (lns : Nat) (wd : Nat → Nat → Int32) (fnd : Int32) (fd : Nat) (n0 n1 n2 : Nat → Int32) (plc p1 p2 l1 l2 : Nat → Int32) (a b : Int32) : Nat → Int32 := X6_placeOfBoth_c55 lns wd fnd fd n0 n1 n2 plc p1 p2 l1 l2 a b
def X6_meets_c56 (lns : Nat) (wd : Nat → Nat → Int32) (fnd : Int32) (fd : Nat) (n0 n1 n2 : Nat → Int32) (plc p2 : Nat → Int32) (a b : Int32) : Nat → Int32 := X6_placeOfBoth_c56 lns wd fnd fd n0 n1 n2 plc p2 a b
def X6_meets_c57 (lns : Nat) (wd : Nat → Nat → Int32) (fnd : Int32) (fd : Nat) (n0 n1 n2 : Nat → Int32) (plc p1 p2 l1 : Nat → Int32) (a b : Int32) : Nat → Int32 := X6_placeOfBoth_c57 lns wd fnd fd n0 n1 n2 plc p1 p2 l1 a b
def X6_meets_c58 (lns : Nat) (wd : Nat → Nat → Int32) (fnd : Int32) (fd : Nat) (n0 n1 n2 : Nat → Int32) (plc p1 p2 l2 : Nat → Int32) (a b : Int32) : Nat → Int32 := X6_placeOfBoth_c58 lns wd fnd fd n0 n1 n2 plc p1 p2 l2 a b
set_option maxRecDepth 100000 in
set_option maxHeartbeats 4000000 in
theorem c_X6_meets_2 (G : zG) (ex : Bool) (g : Nat → va_E) (pts lns ltr : Nat) (inw : Int32) (ont : Nat) (wd : Nat → Nat → Int32) (fnd : Int32) (stp : Nat) (fd psz : Nat) (n0 n1 n2 : Nat → Int32) (plc p1 p2 l1 l2 : Nat → Int32) (a b : Int32) (hl : lns ≤ 12) (hw : ∀ l, l < lns → vp_in (wd l 0) pts ∧ vp_in (wd l 1) pts) (hp : pts ≤ 10) (hpc : ¬ fnd = 0 → ∀ k, k < pts → vp_in (plc k) 183) (hpd : ¬ fd = 0 → fd ≤ 13) (h0 : g 0 = (oCfg G 2 19 (nI ont))) (h2 : g 2 = (oTxt G 2 (nI pts) (nI lns) (nI ltr) inw)) (h5 : g 5 = (zR G 12 (zrw G 12 6))) (h6 : ∀ l9, l9 < 12 → g (6 + l9) = zI G 5 (wd l9)) (h40 : g 40 = (oSch G fnd (nI stp))) (h41 : g 41 = (oPln G (nI fd) (nI psz))) (h42 : g 42 = (zR G 3 (zrw G 3 43))) (h43 : g 43 = (zI G 183 n0)) (h44 : g 44 = (zI G 183 n1)) (h45 : g 45 = (zI G 183 n2)) (h46 : g 46 = (zI G 10 plc)) (h55 : g 55 = (zI G 3 p1)) (h56 : g 56 = (zI G 3 p2)) (h57 : g 57 = (zI G 3 l1)) (h58 : g 58 = (zI G 3 l2)) : zC G yX6_meets wsX6_meets (zrm 6 133) ex [.ref (zB G + 0), .int a, .int b] (zN, g) (fun r h => r = some (.int (X6_meets_v lns wd fnd fd n0 n1 n2 plc p1 p2 l1 l2 a b)) ∧ h = (zN, zus g [(55, zI G 3 (X6_meets_c55 lns wd fnd fd n0 n1 n2 plc p1 p2 l1 l2 a b)), (56, zI G 3 (X6_meets_c56 lns wd fnd fd n0 n1 n2 plc p2 a b)), (57, zI G 3 (X6_meets_c57 lns wd fnd fd n0 n1 n2 plc p1 p2 l1 a b)), (58, zI G 3 (X6_meets_c58 lns wd fnd fd n0 n1 n2 plc p1 p2 l2 a b))])) := by
  refine zC_of mX6_meets (lv := [some (.ref (zB G + 0)), some (.int a), some (.int b)]) rfl rfl (by decide) (by intro v hv; simp at hv; rcases hv with rfl | rfl | rfl <;> rfl) (Nat.le_of_ble_eq_true rfl) rfl ?_
  refine z_0 ?_
  refine z_heap (g' := zu (zus g []) 55 (zI G 3 p1)) (zu_self (zus g []) 55 _ h55).symm ?_
  refine z_n (L' := [(55, (zI G 3 p1))]) rfl ?_
  refine z_heap (g' := zu (zus g [(55, (zI G 3 p1))]) 56 (zI G 3 p2)) (zu_self (zus g [(55, (zI G 3 p1))]) 56 _ h56).symm ?_
  refine z_n (L' := [(55, (zI G 3 p1)), (56, (zI G 3 p2))]) rfl ?_
  refine z_heap (g' := zu (zus g [(55, (zI G 3 p1)), (56, (zI G 3 p2))]) 57 (zI G 3 l1)) (zu_self (zus g [(55, (zI G 3 p1)), (56, (zI G 3 p2))]) 57 _ h57).symm ?_
  refine z_n (L' := [(55, (zI G 3 p1)), (56, (zI G 3 p2)), (57, (zI G 3 l1))]) rfl ?_
  refine z_heap (g' := zu (zus g [(55, (zI G 3 p1)), (56, (zI G 3 p2)), (57, (zI G 3 l1))]) 58 (zI G 3 l2)) (zu_self (zus g [(55, (zI G 3 p1)), (56, (zI G 3 p2)), (57, (zI G 3 l1))]) 58 _ h58).symm ?_
  refine z_n (L' := [(55, (zI G 3 p1)), (56, (zI G 3 p2)), (57, (zI G 3 l1)), (58, (zI G 3 l2))]) rfl ?_
  refine z_aload_n dX6_meets_0 rfl rfl ?_
  refine z_iload_n dX6_meets_1 rfl rfl ?_
  refine z_iload_n dX6_meets_2 rfl rfl ?_
  refine z_callVi (c_X6_placeOfBoth_2 G ex _ pts lns ltr inw ont wd fnd stp fd psz n0 n1 n2 plc p1 p2 l1 l2 a b (by omega) (by assumption) (by omega) (by assumption) (by assumption) h0 h2 h5 (fun l9 hl9 => zus_out (by intro q hq; simp at hq; omega) (h6 l9 hl9)) h40 h41 h42 h43 h44 h45 h46 rfl rfl rfl rfl) gX6_meets_X6_placeOfBoth rfl dX6_meets_3 rfl rfl rfl okk_X6_placeOfBoth (Nat.le_of_ble_eq_true rfl) h0 rfl ⟨Nat.le_of_ble_eq_true rfl, Nat.le_of_ble_eq_true rfl⟩ ⟨Nat.le_of_ble_eq_true rfl, Nat.le_of_ble_eq_true rfl⟩ (Nat.le_of_ble_eq_true rfl) ?_
  refine z_nn (L' := [(55, (zI G 3 (X6_placeOfBoth_c55 lns wd fnd fd n0 n1 n2 plc p1 p2 l1 l2 a b))), (56, (zI G 3 (X6_placeOfBoth_c56 lns wd fnd fd n0 n1 n2 plc p2 a b))), (57, (zI G 3 (X6_placeOfBoth_c57 lns wd fnd fd n0 n1 n2 plc p1 p2 l1 a b))), (58, (zI G 3 (X6_placeOfBoth_c58 lns wd fnd fd n0 n1 n2 plc p1 p2 l2 a b)))]) rfl ?_
  exact z_ireturn dX6_meets_6 rfl rfl (Nat.le_refl _) (Nat.le_refl _) (fun _ => rfl) ⟨by simp only [X6_meets_v], by simp only [X6_meets_c55, X6_meets_c56, X6_meets_c57, X6_meets_c58]⟩
abbrev mX6_deduce : zM := (cX6_deduce, 1, (some .int), RX6, wsX6_deduce, "deduce")
theorem hiX6_deduce_X6 : ∀ w ∈ wsX60, w ∈ wsX6_deduce := fun w h => List.mem_cons_of_mem _ (List.mem_append_left _ (List.mem_append_left _ (List.mem_append_left _ (List.mem_append_right _ h))))
theorem lkX6_deduce_20 : Cond.fieldLink RX6 20 "ConfigSearch" "text" "LConfigSearch$Text;" ∈ wsX6_deduce := by decide +kernel
theorem hiX6_deduce_X4 : ∀ w ∈ wsX40, w ∈ wsX6_deduce := fun w h => List.mem_cons_of_mem _ (List.mem_append_left _ (List.mem_append_left _ (List.mem_append_right _ h)))
theorem lkX6_deduce_76 : Cond.fieldLink RX6 76 "ConfigSearch$Text" "lines" "I" ∈ wsX6_deduce := by decide +kernel
theorem lkX6_deduce_46 : Cond.fieldLink RX6 46 "ConfigSearch" "following" "LConfigSearch$Following;" ∈ wsX6_deduce := by decide +kernel
theorem lkX6_deduce_73 : Cond.fieldLink RX6 73 "ConfigSearch$Text" "points" "I" ∈ wsX6_deduce := by decide +kernel
theorem okk_X0_follow : zOk yX0_follow 1 := by unfold zOk; decide +kernel
def X6_deduce_v (pts lns : Nat) (ts : Int32) (kd sgn rel tri : Nat → Int32) (fl ba ori : Nat → Int32) (now rl tt : Nat → Int32) : Int32 := if (nI lns) = 0 then (-2) else (X0_follow_v ts kd sgn rel tri fl ori now rl ba tt pts)
def X6_deduce_p59_0 (pts lns : Nat) (rw : Nat) (ts : Int32) (kd sgn rel tri : Nat → Int32) (fl ba ori : Nat → Int32) (now rl tt : Nat → Int32) : Nat := if (nI lns) = 0 then rw else (X0_follow_p59_0 ts kd sgn rel tri fl ori now rl ba tt pts)
def X6_deduce_p59_1 (pts lns : Nat) (outc ts : Int32) (kd sgn rel tri : Nat → Int32) (fl ba ori : Nat → Int32) (now rl tt : Nat → Int32) : Int32 := if (nI lns) = 0 then outc else (X0_follow_p59_1 ts kd sgn rel tri fl ori now rl ba tt pts)
def X6_deduce_p59_2 (pts lns : Nat) (ts : Int32) (kd sgn rel tri : Nat → Int32) (fl ba ori : Nat → Int32) (now rl tt : Nat → Int32) : Int32 := if (nI lns) = 0 then ts else (X0_follow_p59_2 ts kd sgn rel tri fl ori now rl ba tt pts)
def X6_deduce_c60 (pts lns : Nat) (ts : Int32) (kd sgn rel tri : Nat → Int32) (fl ba ori : Nat → Int32) (now rl tt : Nat → Int32) : Nat → Int32 := if (nI lns) = 0 then kd else (X0_follow_c60 ts kd sgn rel tri fl ori now rl ba tt pts)
def X6_deduce_c61 (pts lns : Nat) (ts : Int32) (kd sgn rel tri : Nat → Int32) (fl ba ori : Nat → Int32) (now rl tt : Nat → Int32) : Nat → Int32 := if (nI lns) = 0 then sgn else (X0_follow_c61 ts kd sgn rel tri fl ori now rl ba tt pts)
def X6_deduce_c62 (pts lns : Nat) (ts : Int32) (kd sgn rel tri : Nat → Int32) (fl ba ori : Nat → Int32) (now rl tt : Nat → Int32) : Nat → Int32 := if (nI lns) = 0 then rel else (X0_follow_c62 ts kd sgn rel tri fl ori now rl ba tt pts)
def X6_deduce_c63 (pts lns : Nat) (ts : Int32) (kd sgn rel tri : Nat → Int32) (fl ba ori : Nat → Int32) (now rl tt : Nat → Int32) : Nat → Int32 := if (nI lns) = 0 then tri else (X0_follow_c63 ts kd sgn rel tri fl ori now rl ba tt pts)
def X6_deduce_c64 (pts lns : Nat) (ts : Int32) (kd sgn rel tri : Nat → Int32) (fl ba ori : Nat → Int32) (now rl tt : Nat → Int32) : Nat → Int32 := if (nI lns) = 0 then now else (X0_follow_c64 ts kd sgn rel tri fl ori now rl ba tt pts)
def X6_deduce_c65 (pts lns : Nat) (ts : Int32) (kd sgn rel tri : Nat → Int32) (fl ba ori : Nat → Int32) (now rl tt : Nat → Int32) : Nat → Int32 := if (nI lns) = 0 then rl else (X0_follow_c65 ts kd sgn rel tri fl ori now rl ba tt pts)
def X6_deduce_c66 (pts lns : Nat) (ts : Int32) (kd sgn rel tri : Nat → Int32) (fl ba ori : Nat → Int32) (now rl tt : Nat → Int32) : Nat → Int32 := if (nI lns) = 0 then tt else (X0_follow_c66 ts kd sgn rel tri fl ori now rl ba tt pts)
set_option maxRecDepth 100000 in
set_option maxHeartbeats 4000000 in
theorem c_X6_deduce_2 (G : zG) (ex : Bool) (g : Nat → va_E) (pts lns ltr : Nat) (inw : Int32) (ont : Nat) (rw : Nat) (outc ts : Int32) (kd sgn rel tri : Nat → Int32) (bo oo : Int32) (fl ba ori : Nat → Int32) (now rl tt : Nat → Int32)  (hp : pts ≤ 10) (hpl : 1 ≤ lns → 1 ≤ pts) (h0 : g 0 = (oCfg G 2 19 (nI ont))) (h2 : g 2 = (oTxt G 2 (nI pts) (nI lns) (nI ltr) inw)) (h59 : g 59 = (oFol G (nI rw) outc ts)) (h60 : g 60 = (zI G 60 kd)) (h61 : g 61 = (zI G 60 sgn)) (h62 : g 62 = (zI G 300 rel)) (h63 : g 63 = (zI G 180 tri)) (h36 : g 36 = (oTld G bo oo)) (h37 : g 37 = (zZ G 120 fl)) (h38 : g 38 = (zZ G 120 ba)) (h39 : g 39 = (zI G 120 ori)) (h64 : g 64 = (zI G 1000 now)) (h65 : g 65 = (zI G 5 rl)) (h66 : g 66 = (zI G 3 tt)) : zC G yX6_deduce wsX6_deduce (zrm 6 152) ex [.ref (zB G + 0)] (zN, g) (fun r h => r = some (.int (X6_deduce_v pts lns ts kd sgn rel tri fl ba ori now rl tt)) ∧ h = (zN, zus g [(59, (oFol G (nI (X6_deduce_p59_0 pts lns rw ts kd sgn rel tri fl ba ori now rl tt)) (X6_deduce_p59_1 pts lns outc ts kd sgn rel tri fl ba ori now rl tt) (X6_deduce_p59_2 pts lns ts kd sgn rel tri fl ba ori now rl tt))), (60, zI G 60 (X6_deduce_c60 pts lns ts kd sgn rel tri fl ba ori now rl tt)), (61, zI G 60 (X6_deduce_c61 pts lns ts kd sgn rel tri fl ba ori now rl tt)), (62, zI G 300 (X6_deduce_c62 pts lns ts kd sgn rel tri fl ba ori now rl tt)), (63, zI G 180 (X6_deduce_c63 pts lns ts kd sgn rel tri fl ba ori now rl tt)), (64, zI G 1000 (X6_deduce_c64 pts lns ts kd sgn rel tri fl ba ori now rl tt)), (65, zI G 5 (X6_deduce_c65 pts lns ts kd sgn rel tri fl ba ori now rl tt)), (66, zI G 3 (X6_deduce_c66 pts lns ts kd sgn rel tri fl ba ori now rl tt))])) := by
  refine zC_of mX6_deduce (lv := [some (.ref (zB G + 0))]) rfl rfl (by decide) (by intro v hv; simp at hv; subst hv; rfl) (Nat.le_of_ble_eq_true rfl) rfl ?_
  refine z_0 ?_
  refine z_heap (g' := zu (zus g []) 59 (oFol G (nI rw) outc ts)) (zu_self (zus g []) 59 _ h59).symm ?_
  refine z_n (L' := [(59, (oFol G (nI rw) outc ts))]) rfl ?_
  refine z_heap (g' := zu (zus g [(59, (oFol G (nI rw) outc ts))]) 60 (zI G 60 kd)) (zu_self (zus g [(59, (oFol G (nI rw) outc ts))]) 60 _ h60).symm ?_
  refine z_n (L' := [(59, (oFol G (nI rw) outc ts)), (60, (zI G 60 kd))]) rfl ?_
  refine z_heap (g' := zu (zus g [(59, (oFol G (nI rw) outc ts)), (60, (zI G 60 kd))]) 61 (zI G 60 sgn)) (zu_self (zus g [(59, (oFol G (nI rw) outc ts)), (60, (zI G 60 kd))]) 61 _ h61).symm ?_
  refine z_n (L' := [(59, (oFol G (nI rw) outc ts)), (60, (zI G 60 kd)), (61, (zI G 60 sgn))]) rfl ?_
  refine z_heap (g' := zu (zus g [(59, (oFol G (nI rw) outc ts)), (60, (zI G 60 kd)), (61, (zI G 60 sgn))]) 62 (zI G 300 rel)) (zu_self (zus g [(59, (oFol G (nI rw) outc ts)), (60, (zI G 60 kd)), (61, (zI G 60 sgn))]) 62 _ h62).symm ?_
  refine z_n (L' := [(59, (oFol G (nI rw) outc ts)), (60, (zI G 60 kd)), (61, (zI G 60 sgn)), (62, (zI G 300 rel))]) rfl ?_
  refine z_heap (g' := zu (zus g [(59, (oFol G (nI rw) outc ts)), (60, (zI G 60 kd)), (61, (zI G 60 sgn)), (62, (zI G 300 rel))]) 63 (zI G 180 tri)) (zu_self (zus g [(59, (oFol G (nI rw) outc ts)), (60, (zI G 60 kd)), (61, (zI G 60 sgn)), (62, (zI G 300 rel))]) 63 _ h63).symm ?_
  refine z_n (L' := [(59, (oFol G (nI rw) outc ts)), (60, (zI G 60 kd)), (61, (zI G 60 sgn)), (62, (zI G 300 rel)), (63, (zI G 180 tri))]) rfl ?_
  refine z_heap (g' := zu (zus g [(59, (oFol G (nI rw) outc ts)), (60, (zI G 60 kd)), (61, (zI G 60 sgn)), (62, (zI G 300 rel)), (63, (zI G 180 tri))]) 64 (zI G 1000 now)) (zu_self (zus g [(59, (oFol G (nI rw) outc ts)), (60, (zI G 60 kd)), (61, (zI G 60 sgn)), (62, (zI G 300 rel)), (63, (zI G 180 tri))]) 64 _ h64).symm ?_
  refine z_n (L' := [(59, (oFol G (nI rw) outc ts)), (60, (zI G 60 kd)), (61, (zI G 60 sgn)), (62, (zI G 300 rel)), (63, (zI G 180 tri)), (64, (zI G 1000 now))]) rfl ?_
  refine z_heap (g' := zu (zus g [(59, (oFol G (nI rw) outc ts)), (60, (zI G 60 kd)), (61, (zI G 60 sgn)), (62, (zI G 300 rel)), (63, (zI G 180 tri)), (64, (zI G 1000 now))]) 65 (zI G 5 rl)) (zu_self (zus g [(59, (oFol G (nI rw) outc ts)), (60, (zI G 60 kd)), (61, (zI G 60 sgn)), (62, (zI G 300 rel)), (63, (zI G 180 tri)), (64, (zI G 1000 now))]) 65 _ h65).symm ?_
  refine z_n (L' := [(59, (oFol G (nI rw) outc ts)), (60, (zI G 60 kd)), (61, (zI G 60 sgn)), (62, (zI G 300 rel)), (63, (zI G 180 tri)), (64, (zI G 1000 now)), (65, (zI G 5 rl))]) rfl ?_
  refine z_heap (g' := zu (zus g [(59, (oFol G (nI rw) outc ts)), (60, (zI G 60 kd)), (61, (zI G 60 sgn)), (62, (zI G 300 rel)), (63, (zI G 180 tri)), (64, (zI G 1000 now)), (65, (zI G 5 rl))]) 66 (zI G 3 tt)) (zu_self (zus g [(59, (oFol G (nI rw) outc ts)), (60, (zI G 60 kd)), (61, (zI G 60 sgn)), (62, (zI G 300 rel)), (63, (zI G 180 tri)), (64, (zI G 1000 now)), (65, (zI G 5 rl))]) 66 _ h66).symm ?_
  refine z_n (L' := [(59, (oFol G (nI rw) outc ts)), (60, (zI G 60 kd)), (61, (zI G 60 sgn)), (62, (zI G 300 rel)), (63, (zI G 180 tri)), (64, (zI G 1000 now)), (65, (zI G 5 rl)), (66, (zI G 3 tt))]) rfl ?_
  refine z_aload_n dX6_deduce_0 rfl rfl ?_
  refine z_get dX6_deduce_1 rfl hiX6_deduce_X6 2 lkX6_deduce_20 (Nat.le_of_ble_eq_true rfl) h0 rfl (by decide) rfl ?_
  refine z_get dX6_deduce_4 rfl hiX6_deduce_X4 1 lkX6_deduce_76 (Nat.le_of_ble_eq_true rfl) h2 rfl (by decide) rfl ?_
  refine z_if_ne (tgt := 13) dX6_deduce_7 rfl (by decide) (fun c7 => ?_) (fun c7 => ?_)
  · have hpt1 : 1 ≤ pts := hpl (Nat.pos_of_ne_zero (fun q => c7 (by rw [q]; rfl)))
    refine z_aload_n dX6_deduce_13 rfl rfl ?_
    refine z_get dX6_deduce_14 rfl hiX6_deduce_X6 6 lkX6_deduce_46 (Nat.le_of_ble_eq_true rfl) h0 rfl (by decide) rfl ?_
    refine z_aload_n dX6_deduce_17 rfl rfl ?_
    refine z_get dX6_deduce_18 rfl hiX6_deduce_X6 2 lkX6_deduce_20 (Nat.le_of_ble_eq_true rfl) h0 rfl (by decide) rfl ?_
    refine z_get dX6_deduce_21 rfl hiX6_deduce_X4 0 lkX6_deduce_73 (Nat.le_of_ble_eq_true rfl) h2 rfl (by decide) rfl ?_
    refine z_callVi (c_X0_follow G ex _ rw outc ts kd sgn rel tri bo oo fl ori now rl ba tt pts (by omega) (by omega) rfl rfl rfl rfl rfl h36 h37 h39 rfl rfl h38 rfl) gX6_deduce_X0_follow rfl dX6_deduce_24 rfl rfl rfl okk_X0_follow (Nat.le_of_ble_eq_true rfl) rfl rfl ⟨Nat.le_of_ble_eq_true rfl, Nat.le_of_ble_eq_true rfl⟩ ⟨Nat.le_of_ble_eq_true rfl, Nat.le_of_ble_eq_true rfl⟩ (Nat.le_of_ble_eq_true rfl) ?_
    refine z_nn (L' := [(59, (oFol G (nI (X0_follow_p59_0 ts kd sgn rel tri fl ori now rl ba tt pts)) (X0_follow_p59_1 ts kd sgn rel tri fl ori now rl ba tt pts) (X0_follow_p59_2 ts kd sgn rel tri fl ori now rl ba tt pts))), (60, (zI G 60 (X0_follow_c60 ts kd sgn rel tri fl ori now rl ba tt pts))), (61, (zI G 60 (X0_follow_c61 ts kd sgn rel tri fl ori now rl ba tt pts))), (62, (zI G 300 (X0_follow_c62 ts kd sgn rel tri fl ori now rl ba tt pts))), (63, (zI G 180 (X0_follow_c63 ts kd sgn rel tri fl ori now rl ba tt pts))), (64, (zI G 1000 (X0_follow_c64 ts kd sgn rel tri fl ori now rl ba tt pts))), (65, (zI G 5 (X0_follow_c65 ts kd sgn rel tri fl ori now rl ba tt pts))), (66, (zI G 3 (X0_follow_c66 ts kd sgn rel tri fl ori now rl ba tt pts)))]) rfl ?_
    exact z_ireturn dX6_deduce_27 rfl rfl (Nat.le_refl _) (Nat.le_refl _) (fun _ => rfl) ⟨by simp only [X6_deduce_v, if_neg c7], by simp only [X6_deduce_p59_0, X6_deduce_p59_1, X6_deduce_p59_2, X6_deduce_c60, X6_deduce_c61, X6_deduce_c62, X6_deduce_c63, X6_deduce_c64, X6_deduce_c65, X6_deduce_c66, if_neg c7]⟩
  · refine z_bipush (v := (-2)) dX6_deduce_10 rfl (by decide) ?_
    exact z_ireturn dX6_deduce_12 rfl rfl (Nat.le_refl _) (Nat.le_refl _) (fun _ => rfl) ⟨by simp only [X6_deduce_v, if_pos c7], by simp only [X6_deduce_p59_0, X6_deduce_p59_1, X6_deduce_p59_2, X6_deduce_c60, X6_deduce_c61, X6_deduce_c62, X6_deduce_c63, X6_deduce_c64, X6_deduce_c65, X6_deduce_c66, if_pos c7]⟩
abbrev mX6_row : zM := (cX6_row, 3, (some .int), RX6, wsX6_row, "row")
theorem hiX6_row_X6 : ∀ w ∈ wsX60, w ∈ wsX6_row := fun w h => List.mem_cons_of_mem _ (List.mem_append_left _ (List.mem_append_right _ h))
theorem lkX6_row_46 : Cond.fieldLink RX6 46 "ConfigSearch" "following" "LConfigSearch$Following;" ∈ wsX6_row := by decide +kernel
theorem okk_X0_hasRow : zOk yX0_hasRow 1 := by unfold zOk; decide +kernel
theorem okk_X0_entry : zOk yX0_entry 2 := by unfold zOk; decide +kernel
def X6_row_v (rw : Nat) (kd sgn rel tri : Nat → Int32) (i w : Int32) : Int32 := if w < 0 then (-9) else (if w ≤ (nI 9) then (if (X0_hasRow_v (nI rw) i) = 0 then (-4) else (X0_entry_v kd sgn rel tri i.toNatClampNeg w.toNatClampNeg)) else (-9))
set_option maxRecDepth 100000 in
set_option maxHeartbeats 4000000 in
theorem c_X6_row_2 (G : zG) (ex : Bool) (g : Nat → va_E) (ont : Nat) (rw : Nat) (outc ts : Int32) (kd sgn rel tri : Nat → Int32) (i w : Int32) (hrw : rw ≤ 60) (h0 : g 0 = (oCfg G 2 19 (nI ont))) (h59 : g 59 = (oFol G (nI rw) outc ts)) (h60 : g 60 = (zI G 60 kd)) (h61 : g 61 = (zI G 60 sgn)) (h62 : g 62 = (zI G 300 rel)) (h63 : g 63 = (zI G 180 tri)) : zC G yX6_row wsX6_row (zrm 1 22) ex [.ref (zB G + 0), .int i, .int w] (zN, g) (fun r h => r = some (.int (X6_row_v rw kd sgn rel tri i w)) ∧ h = (zN, g)) := by
  refine zC_of mX6_row (lv := [some (.ref (zB G + 0)), some (.int i), some (.int w)]) rfl rfl (by decide) (by intro v hv; simp at hv; rcases hv with rfl | rfl | rfl <;> rfl) (Nat.le_of_ble_eq_true rfl) rfl ?_
  refine z_0 ?_
  refine z_iload_n dX6_row_0 rfl rfl ?_
  refine z_if_lt (tgt := 10) dX6_row_1 rfl (by decide) (fun c1 => ?_) (fun c1 => ?_)
  · refine z_bipush (v := (-9)) dX6_row_10 rfl (by decide) ?_
    exact z_ireturn dX6_row_12 rfl rfl (Nat.le_refl _) (Nat.le_refl _) (fun _ => rfl) ⟨by simp only [X6_row_v, if_pos c1], rfl⟩
  · refine z_iload_n dX6_row_4 rfl rfl ?_
    refine z_bipush (v := nI 9) dX6_row_5 rfl (by decide) ?_
    refine z_icmp_le (tgt := 13) dX6_row_7 rfl (by decide) (fun c7 => ?_) (fun c7 => ?_)
    · refine z_aload_n dX6_row_13 rfl rfl ?_
      refine z_get dX6_row_14 rfl hiX6_row_X6 6 lkX6_row_46 (Nat.le_of_ble_eq_true rfl) h0 rfl (by decide) rfl ?_
      refine z_iload_n dX6_row_17 rfl rfl ?_
      refine z_callVi (c_X0_hasRow G ex _ (nI rw) outc ts i h59) gX6_row_X0_hasRow rfl dX6_row_18 rfl rfl rfl okk_X0_hasRow (Nat.le_of_ble_eq_true rfl) h59 rfl ⟨Nat.le_of_ble_eq_true rfl, Nat.le_of_ble_eq_true rfl⟩ ⟨Nat.le_of_ble_eq_true rfl, Nat.le_of_ble_eq_true rfl⟩ (Nat.le_of_ble_eq_true rfl) ?_
      refine z_if_ne (tgt := 27) dX6_row_21 rfl (by decide) (fun c21 => ?_) (fun c21 => ?_)
      · have hvi : vp_in i rw := hasRow_in c21 hrw
        have hvw : vp_in w 10 := zle_in c1 c7 (by decide)
        have hli := zvlt hvi
        have hlw := zvlt hvw
        refine z_lv (congrArg (fun z9 : Int32 => ([some (.ref (zB G + 0)), some (.int z9), some (.int w)] : List (Option Value))) (show i = (nI i.toNatClampNeg) from zvin hvi)) ?_
        refine z_lv (congrArg (fun z9 : Int32 => ([some (.ref (zB G + 0)), some (.int (nI i.toNatClampNeg)), some (.int z9)] : List (Option Value))) (show w = (nI w.toNatClampNeg) from zvin hvw)) ?_
        refine z_aload_n dX6_row_27 rfl rfl ?_
        refine z_get dX6_row_28 rfl hiX6_row_X6 6 lkX6_row_46 (Nat.le_of_ble_eq_true rfl) h0 rfl (by decide) rfl ?_
        refine z_iload_n dX6_row_31 rfl rfl ?_
        refine z_iload_n dX6_row_32 rfl rfl ?_
        refine z_callVi (c_X0_entry G ex _ rw outc ts kd sgn rel tri i.toNatClampNeg w.toNatClampNeg (by omega) (by omega) h59 h60 h61 h62 h63) gX6_row_X0_entry rfl dX6_row_33 rfl rfl rfl okk_X0_entry (Nat.le_of_ble_eq_true rfl) h59 rfl ⟨Nat.le_of_ble_eq_true rfl, Nat.le_of_ble_eq_true rfl⟩ ⟨Nat.le_of_ble_eq_true rfl, Nat.le_of_ble_eq_true rfl⟩ (Nat.le_of_ble_eq_true rfl) ?_
        exact z_ireturn dX6_row_36 rfl rfl (Nat.le_refl _) (Nat.le_refl _) (fun _ => rfl) ⟨by simp only [X6_row_v, if_neg c1, if_pos c7, if_neg c21], rfl⟩
      · refine z_bipush (v := (-4)) dX6_row_24 rfl (by decide) ?_
        exact z_ireturn dX6_row_26 rfl rfl (Nat.le_refl _) (Nat.le_refl _) (fun _ => rfl) ⟨by simp only [X6_row_v, if_neg c1, if_pos c7, if_pos c21], rfl⟩
    · refine z_bipush (v := (-9)) dX6_row_10 rfl (by decide) ?_
      exact z_ireturn dX6_row_12 rfl rfl (Nat.le_refl _) (Nat.le_refl _) (fun _ => rfl) ⟨by simp only [X6_row_v, if_neg c1, if_neg c7], rfl⟩
abbrev mX6_plant : zM := (cX6_plant, 4, (some .int), RX6, wsX6_plant, "plant")
theorem hiX6_plant_X6 : ∀ w ∈ wsX60, w ∈ wsX6_plant := fun w h => List.mem_cons_of_mem _ (List.mem_append_left _ (List.mem_append_right _ h))
theorem lkX6_plant_46 : Cond.fieldLink RX6 46 "ConfigSearch" "following" "LConfigSearch$Following;" ∈ wsX6_plant := by decide +kernel
theorem hiX6_plant_X0 : ∀ w ∈ wsX00, w ∈ wsX6_plant := fun w h => List.mem_cons_of_mem _ (List.mem_append_right _ h)
theorem lkX6_plant_179 : Cond.fieldLink RX6 179 "ConfigSearch$Following" "kind" "[I" ∈ wsX6_plant := by decide +kernel
theorem lkX6_plant_182 : Cond.fieldLink RX6 182 "ConfigSearch$Following" "signs" "[I" ∈ wsX6_plant := by decide +kernel
def X6_plant_v (rw : Nat) (kd sgn : Nat → Int32) (i v : Int32) : Int32 := if v < (-1) then (-9) else (if v ≤ (nI 1) then (if (X0_hasRow_v (nI rw) i) = 0 then (-4) else (if (kd i.toNatClampNeg) = (nI 1) then (-4) else (sgn i.toNatClampNeg))) else (-9))
def X6_plant_c61 (rw : Nat) (kd sgn : Nat → Int32) (i v : Int32) : Nat → Int32 := if v < (-1) then sgn else (if v ≤ (nI 1) then (if (X0_hasRow_v (nI rw) i) = 0 then sgn else (if (kd i.toNatClampNeg) = (nI 1) then sgn else (upd sgn i.toNatClampNeg v))) else sgn)
set_option maxRecDepth 100000 in
set_option maxHeartbeats 4000000 in
theorem c_X6_plant_2 (G : zG) (ex : Bool) (g : Nat → va_E) (ont : Nat) (rw : Nat) (outc ts : Int32) (kd sgn rel tri : Nat → Int32) (i v : Int32) (hrw : rw ≤ 60) (h0 : g 0 = (oCfg G 2 19 (nI ont))) (h59 : g 59 = (oFol G (nI rw) outc ts)) (h60 : g 60 = (zI G 60 kd)) (h61 : g 61 = (zI G 60 sgn)) (h62 : g 62 = (zI G 300 rel)) (h63 : g 63 = (zI G 180 tri)) : zC G yX6_plant wsX6_plant (zrm 1 21) ex [.ref (zB G + 0), .int i, .int v] (zN, g) (fun r h => r = some (.int (X6_plant_v rw kd sgn i v)) ∧ h = (zN, zus g [(61, zI G 60 (X6_plant_c61 rw kd sgn i v))])) := by
  refine zC_of mX6_plant (lv := [some (.ref (zB G + 0)), some (.int i), some (.int v), none]) rfl rfl (by decide) (by intro v hv; simp at hv; rcases hv with rfl | rfl | rfl <;> rfl) (Nat.le_of_ble_eq_true rfl) rfl ?_
  refine z_0 ?_
  refine z_heap (g' := zu (zus g []) 61 (zI G 60 sgn)) (zu_self (zus g []) 61 _ h61).symm ?_
  refine z_n (L' := [(61, (zI G 60 sgn))]) rfl ?_
  refine z_iload_n dX6_plant_0 rfl rfl ?_
  refine z_iconst (v := (-1)) dX6_plant_1 rfl (by decide) ?_
  refine z_icmp_lt (tgt := 10) dX6_plant_2 rfl (by decide) (fun c2 => ?_) (fun c2 => ?_)
  · refine z_bipush (v := (-9)) dX6_plant_10 rfl (by decide) ?_
    exact z_ireturn dX6_plant_12 rfl rfl (Nat.le_refl _) (Nat.le_refl _) (fun _ => rfl) ⟨by simp only [X6_plant_v, if_pos c2], by simp only [X6_plant_c61, if_pos c2]⟩
  · refine z_iload_n dX6_plant_5 rfl rfl ?_
    refine z_iconst (v := nI 1) dX6_plant_6 rfl (by decide) ?_
    refine z_icmp_le (tgt := 13) dX6_plant_7 rfl (by decide) (fun c7 => ?_) (fun c7 => ?_)
    · refine z_aload_n dX6_plant_13 rfl rfl ?_
      refine z_get dX6_plant_14 rfl hiX6_plant_X6 6 lkX6_plant_46 (Nat.le_of_ble_eq_true rfl) h0 rfl (by decide) rfl ?_
      refine z_iload_n dX6_plant_17 rfl rfl ?_
      refine z_callVi (c_X0_hasRow G ex _ (nI rw) outc ts i h59) gX6_plant_X0_hasRow rfl dX6_plant_18 rfl rfl rfl okk_X0_hasRow (Nat.le_of_ble_eq_true rfl) h59 rfl ⟨Nat.le_of_ble_eq_true rfl, Nat.le_of_ble_eq_true rfl⟩ ⟨Nat.le_of_ble_eq_true rfl, Nat.le_of_ble_eq_true rfl⟩ (Nat.le_of_ble_eq_true rfl) ?_
      refine z_if_eq (tgt := 37) dX6_plant_21 rfl (by decide) (fun c21 => ?_) (fun c21 => ?_)
      · refine z_bipush (v := (-4)) dX6_plant_37 rfl (by decide) ?_
        exact z_ireturn dX6_plant_39 rfl rfl (Nat.le_refl _) (Nat.le_refl _) (fun _ => rfl) ⟨by simp only [X6_plant_v, if_neg c2, if_pos c7, if_pos c21], by simp only [X6_plant_c61, if_neg c2, if_pos c7, if_pos c21]⟩
      · have hvi : vp_in i rw := hasRow_in c21 hrw
        have hli := zvlt hvi
        refine z_lv (congrArg (fun z9 : Int32 => ([some (.ref (zB G + 0)), some (.int z9), some (.int v), none] : List (Option Value))) (show i = (nI i.toNatClampNeg) from zvin hvi)) ?_
        refine z_aload_n dX6_plant_24 rfl rfl ?_
        refine z_get dX6_plant_25 rfl hiX6_plant_X6 6 lkX6_plant_46 (Nat.le_of_ble_eq_true rfl) h0 rfl (by decide) rfl ?_
        refine z_get dX6_plant_28 rfl hiX6_plant_X0 2 lkX6_plant_179 (Nat.le_of_ble_eq_true rfl) h59 rfl (by decide) rfl ?_
        refine z_iload_n dX6_plant_31 rfl rfl ?_
        refine z_ialdN (j := i.toNatClampNeg) dX6_plant_32 rfl (Nat.le_of_ble_eq_true rfl) h60 (rfl) (by omega) (by decide) ?_
        refine z_iconst (v := nI 1) dX6_plant_33 rfl (by decide) ?_
        refine z_icmp_ne (tgt := 40) dX6_plant_34 rfl (by decide) (fun c34 => ?_) (fun c34 => ?_)
        · refine z_aload_n dX6_plant_40 rfl rfl ?_
          refine z_get dX6_plant_41 rfl hiX6_plant_X6 6 lkX6_plant_46 (Nat.le_of_ble_eq_true rfl) h0 rfl (by decide) rfl ?_
          refine z_get dX6_plant_44 rfl hiX6_plant_X0 3 lkX6_plant_182 (Nat.le_of_ble_eq_true rfl) h59 rfl (by decide) rfl ?_
          refine z_iload_n dX6_plant_47 rfl rfl ?_
          refine z_ialdN (j := i.toNatClampNeg) dX6_plant_48 rfl (Nat.le_of_ble_eq_true rfl) rfl (rfl) (by omega) (by decide) ?_
          refine z_istore_3 dX6_plant_49 rfl ?_
          refine z_aload_n dX6_plant_50 rfl rfl ?_
          refine z_get dX6_plant_51 rfl hiX6_plant_X6 6 lkX6_plant_46 (Nat.le_of_ble_eq_true rfl) h0 rfl (by decide) rfl ?_
          refine z_get dX6_plant_54 rfl hiX6_plant_X0 3 lkX6_plant_182 (Nat.le_of_ble_eq_true rfl) h59 rfl (by decide) rfl ?_
          refine z_iload_n dX6_plant_57 rfl rfl ?_
          refine z_iload_n dX6_plant_58 rfl rfl ?_
          refine z_iastN (j := i.toNatClampNeg) dX6_plant_59 rfl (Nat.le_of_ble_eq_true rfl) rfl (rfl) (by omega) (by decide) ?_
          refine z_n (L' := [(61, (zI G 60 (upd sgn i.toNatClampNeg v)))]) rfl ?_
          refine z_iload_n dX6_plant_60 rfl rfl ?_
          exact z_ireturn dX6_plant_61 rfl rfl (Nat.le_refl _) (Nat.le_refl _) (fun _ => rfl) ⟨by simp only [X6_plant_v, if_neg c2, if_pos c7, if_neg c21, if_neg c34], by simp only [X6_plant_c61, if_neg c2, if_pos c7, if_neg c21, if_neg c34]⟩
        · refine z_bipush (v := (-4)) dX6_plant_37 rfl (by decide) ?_
          exact z_ireturn dX6_plant_39 rfl rfl (Nat.le_refl _) (Nat.le_refl _) (fun _ => rfl) ⟨by simp only [X6_plant_v, if_neg c2, if_pos c7, if_neg c21, if_pos c34], by simp only [X6_plant_c61, if_neg c2, if_pos c7, if_neg c21, if_pos c34]⟩
    · refine z_bipush (v := (-9)) dX6_plant_10 rfl (by decide) ?_
      exact z_ireturn dX6_plant_12 rfl rfl (Nat.le_refl _) (Nat.le_refl _) (fun _ => rfl) ⟨by simp only [X6_plant_v, if_neg c2, if_neg c7], by simp only [X6_plant_c61, if_neg c2, if_neg c7]⟩
abbrev mX6_proof : zM := (cX6_proof, 1, (some .int), RX6, wsX6_proof, "proof")
theorem hiX6_proof_X6 : ∀ w ∈ wsX60, w ∈ wsX6_proof := fun w h => List.mem_cons_of_mem _ (List.mem_append_left _ (List.mem_append_left _ (List.mem_append_right _ h)))
theorem lkX6_proof_46 : Cond.fieldLink RX6 46 "ConfigSearch" "following" "LConfigSearch$Following;" ∈ wsX6_proof := by decide +kernel
theorem okk_X0_allFollow : zOk yX0_allFollow 0 := by unfold zOk; decide +kernel
def X6_proof_n (rw : Nat) (outc ts : Int32) (kd sgn rel tri : Nat → Int32) (fl ba ori : Nat → Int32) (now rl tt : Nat → Int32) : Nat := if (X0_allFollow_v rw outc ts kd sgn rel tri fl ori now rl ba tt) = 0 then 0 else 1
def X6_proof_p59_2 (rw : Nat) (outc ts : Int32) (kd sgn rel tri : Nat → Int32) (fl ba ori : Nat → Int32) (now rl tt : Nat → Int32) : Int32 := if (X0_allFollow_v rw outc ts kd sgn rel tri fl ori now rl ba tt) = 0 then (X0_allFollow_p59_2 rw outc ts kd sgn rel tri fl ori now rl ba tt) else (X0_allFollow_p59_2 rw outc ts kd sgn rel tri fl ori now rl ba tt)
def X6_proof_c64 (rw : Nat) (outc ts : Int32) (kd sgn rel tri : Nat → Int32) (fl ba ori : Nat → Int32) (now rl tt : Nat → Int32) : Nat → Int32 := if (X0_allFollow_v rw outc ts kd sgn rel tri fl ori now rl ba tt) = 0 then (X0_allFollow_c64 rw outc ts kd sgn rel tri fl ori now rl ba tt) else (X0_allFollow_c64 rw outc ts kd sgn rel tri fl ori now rl ba tt)
def X6_proof_c65 (rw : Nat) (outc ts : Int32) (kd sgn rel tri : Nat → Int32) (fl ba ori : Nat → Int32) (now rl tt : Nat → Int32) : Nat → Int32 := if (X0_allFollow_v rw outc ts kd sgn rel tri fl ori now rl ba tt) = 0 then (X0_allFollow_c65 rw outc ts kd sgn rel tri fl ori now rl ba tt) else (X0_allFollow_c65 rw outc ts kd sgn rel tri fl ori now rl ba tt)
def X6_proof_c66 (rw : Nat) (outc ts : Int32) (kd sgn rel tri : Nat → Int32) (fl ba ori : Nat → Int32) (now rl tt : Nat → Int32) : Nat → Int32 := if (X0_allFollow_v rw outc ts kd sgn rel tri fl ori now rl ba tt) = 0 then (X0_allFollow_c66 rw outc ts kd sgn rel tri fl ori now rl ba tt) else (X0_allFollow_c66 rw outc ts kd sgn rel tri fl ori now rl ba tt)
set_option maxRecDepth 100000 in
set_option maxHeartbeats 4000000 in
theorem c_X6_proof_2 (G : zG) (ex : Bool) (g : Nat → va_E) (ont : Nat) (rw : Nat) (outc ts : Int32) (kd sgn rel tri : Nat → Int32) (bo oo : Int32) (fl ba ori : Nat → Int32) (now rl tt : Nat → Int32)  (hrw : rw ≤ 60) (h3 : ∀ i, i < rw → ¬ kd i = nI 1 → ∀ j, j < 3 → vp_in (tri (3 * i + j)) 10) (hre : ∀ i, i < rw → ∀ j, j < 5 → vp_in (rel (5 * i + j)) 10) (hrx : ∀ i, i < rw → ∀ k l, k < 5 → l < 5 → k ≠ l → (rel (5 * i + k)).toNatClampNeg ≠ (rel (5 * i + l)).toNatClampNeg) (h0 : g 0 = (oCfg G 2 19 (nI ont))) (h59 : g 59 = (oFol G (nI rw) outc ts)) (h60 : g 60 = (zI G 60 kd)) (h61 : g 61 = (zI G 60 sgn)) (h62 : g 62 = (zI G 300 rel)) (h63 : g 63 = (zI G 180 tri)) (h36 : g 36 = (oTld G bo oo)) (h37 : g 37 = (zZ G 120 fl)) (h38 : g 38 = (zZ G 120 ba)) (h39 : g 39 = (zI G 120 ori)) (h64 : g 64 = (zI G 1000 now)) (h65 : g 65 = (zI G 5 rl)) (h66 : g 66 = (zI G 3 tt)) : zC G yX6_proof wsX6_proof (zrm 5 122) ex [.ref (zB G + 0)] (zN, g) (fun r h => r = some (.int (nI (X6_proof_n rw outc ts kd sgn rel tri fl ba ori now rl tt))) ∧ h = (zN, zus g [(59, (oFol G (nI rw) outc (X6_proof_p59_2 rw outc ts kd sgn rel tri fl ba ori now rl tt))), (64, zI G 1000 (X6_proof_c64 rw outc ts kd sgn rel tri fl ba ori now rl tt)), (65, zI G 5 (X6_proof_c65 rw outc ts kd sgn rel tri fl ba ori now rl tt)), (66, zI G 3 (X6_proof_c66 rw outc ts kd sgn rel tri fl ba ori now rl tt))])) := by
  refine zC_of mX6_proof (lv := [some (.ref (zB G + 0))]) rfl rfl (by decide) (by intro v hv; simp at hv; subst hv; rfl) (Nat.le_of_ble_eq_true rfl) rfl ?_
  refine z_0 ?_
  refine z_heap (g' := zu (zus g []) 59 (oFol G (nI rw) outc ts)) (zu_self (zus g []) 59 _ h59).symm ?_
  refine z_n (L' := [(59, (oFol G (nI rw) outc ts))]) rfl ?_
  refine z_heap (g' := zu (zus g [(59, (oFol G (nI rw) outc ts))]) 64 (zI G 1000 now)) (zu_self (zus g [(59, (oFol G (nI rw) outc ts))]) 64 _ h64).symm ?_
  refine z_n (L' := [(59, (oFol G (nI rw) outc ts)), (64, (zI G 1000 now))]) rfl ?_
  refine z_heap (g' := zu (zus g [(59, (oFol G (nI rw) outc ts)), (64, (zI G 1000 now))]) 65 (zI G 5 rl)) (zu_self (zus g [(59, (oFol G (nI rw) outc ts)), (64, (zI G 1000 now))]) 65 _ h65).symm ?_
  refine z_n (L' := [(59, (oFol G (nI rw) outc ts)), (64, (zI G 1000 now)), (65, (zI G 5 rl))]) rfl ?_
  refine z_heap (g' := zu (zus g [(59, (oFol G (nI rw) outc ts)), (64, (zI G 1000 now)), (65, (zI G 5 rl))]) 66 (zI G 3 tt)) (zu_self (zus g [(59, (oFol G (nI rw) outc ts)), (64, (zI G 1000 now)), (65, (zI G 5 rl))]) 66 _ h66).symm ?_
  refine z_n (L' := [(59, (oFol G (nI rw) outc ts)), (64, (zI G 1000 now)), (65, (zI G 5 rl)), (66, (zI G 3 tt))]) rfl ?_
  refine z_aload_n dX6_proof_0 rfl rfl ?_
  refine z_get dX6_proof_1 rfl hiX6_proof_X6 6 lkX6_proof_46 (Nat.le_of_ble_eq_true rfl) h0 rfl (by decide) rfl ?_
  refine z_callVi (c_X0_allFollow G ex _ rw outc ts kd sgn rel tri bo oo fl ori now rl ba tt (by omega) (by assumption) (by assumption) (by assumption) rfl h60 h61 h62 h63 h36 h37 h39 rfl rfl h38 rfl) gX6_proof_X0_allFollow rfl dX6_proof_4 rfl rfl rfl okk_X0_allFollow (Nat.le_of_ble_eq_true rfl) rfl rfl ⟨Nat.le_of_ble_eq_true rfl, Nat.le_of_ble_eq_true rfl⟩ ⟨Nat.le_of_ble_eq_true rfl, Nat.le_of_ble_eq_true rfl⟩ (Nat.le_of_ble_eq_true rfl) ?_
  refine z_nn (L' := [(59, (oFol G (nI rw) outc (X0_allFollow_p59_2 rw outc ts kd sgn rel tri fl ori now rl ba tt))), (64, (zI G 1000 (X0_allFollow_c64 rw outc ts kd sgn rel tri fl ori now rl ba tt))), (65, (zI G 5 (X0_allFollow_c65 rw outc ts kd sgn rel tri fl ori now rl ba tt))), (66, (zI G 3 (X0_allFollow_c66 rw outc ts kd sgn rel tri fl ori now rl ba tt)))]) rfl ?_
  refine z_if_eq (tgt := 14) dX6_proof_7 rfl (by decide) (fun c7 => ?_) (fun c7 => ?_)
  · refine z_iconst (v := nI 0) dX6_proof_14 rfl (by decide) ?_
    exact z_ireturn dX6_proof_15 rfl rfl (Nat.le_refl _) (Nat.le_refl _) (fun _ => rfl) ⟨by simp only [X6_proof_n, if_pos c7], by simp only [X6_proof_p59_2, X6_proof_c64, X6_proof_c65, X6_proof_c66, if_pos c7]⟩
  · refine z_iconst (v := nI 1) dX6_proof_10 rfl (by decide) ?_
    refine z_goto (tgt := 15) dX6_proof_11 (by decide) ?_
    exact z_ireturn dX6_proof_15 rfl rfl (Nat.le_refl _) (Nat.le_refl _) (fun _ => rfl) ⟨by simp only [X6_proof_n, if_neg c7], by simp only [X6_proof_p59_2, X6_proof_c64, X6_proof_c65, X6_proof_c66, if_neg c7]⟩
abbrev mX6_known : zM := (cX6_known, 4, (some .int), RX6, wsX6_known, "known")
theorem hiX6_known_X6 : ∀ w ∈ wsX60, w ∈ wsX6_known := fun w h => List.mem_cons_of_mem _ (List.mem_append_left _ (List.mem_append_left _ (List.mem_append_left _ (List.mem_append_right _ h))))
theorem lkX6_known_20 : Cond.fieldLink RX6 20 "ConfigSearch" "text" "LConfigSearch$Text;" ∈ wsX6_known := by decide +kernel
theorem lkX6_known_46 : Cond.fieldLink RX6 46 "ConfigSearch" "following" "LConfigSearch$Following;" ∈ wsX6_known := by decide +kernel
theorem hiX6_known_X0 : ∀ w ∈ wsX00, w ∈ wsX6_known := fun w h => List.mem_cons_of_mem _ (List.mem_append_left _ (List.mem_append_left _ (List.mem_append_right _ h)))
theorem lkX6_known_85 : Cond.fieldLink RX6 85 "ConfigSearch$Following" "rows" "I" ∈ wsX6_known := by decide +kernel
theorem okk_X0_signNow : zOk yX0_signNow 3 := by unfold zOk; decide +kernel
def X6_known_v (pts : Nat) (rw : Nat) (kd sgn tri : Nat → Int32) (fl ori : Nat → Int32) (now : Nat → Int32) (a b c : Int32) : Int32 := if (X4_isTriple_v pts a b c) = 0 then (-9) else (X0_signNow_v (X0_gather_c64 now kd sgn tri fl ori rw) a.toNatClampNeg b.toNatClampNeg c.toNatClampNeg)
def X6_known_c64 (pts : Nat) (rw : Nat) (kd sgn tri : Nat → Int32) (fl ori : Nat → Int32) (now : Nat → Int32) (a b c : Int32) : Nat → Int32 := if (X4_isTriple_v pts a b c) = 0 then now else (X0_gather_c64 now kd sgn tri fl ori rw)
set_option maxRecDepth 100000 in
set_option maxHeartbeats 4000000 in
theorem c_X6_known_2 (G : zG) (ex : Bool) (g : Nat → va_E) (pts lns ltr : Nat) (inw : Int32) (ont : Nat) (rw : Nat) (outc ts : Int32) (kd sgn rel tri : Nat → Int32) (bo oo : Int32) (fl ba ori : Nat → Int32) (now rl tt : Nat → Int32) (a b c : Int32) (hp : pts ≤ 10) (hrw : rw ≤ 60) (h3 : ∀ i, i < rw → ¬ kd i = nI 1 → ∀ j, j < 3 → vp_in (tri (3 * i + j)) 10) (h0 : g 0 = (oCfg G 2 19 (nI ont))) (h2 : g 2 = (oTxt G 2 (nI pts) (nI lns) (nI ltr) inw)) (h59 : g 59 = (oFol G (nI rw) outc ts)) (h60 : g 60 = (zI G 60 kd)) (h61 : g 61 = (zI G 60 sgn)) (h62 : g 62 = (zI G 300 rel)) (h63 : g 63 = (zI G 180 tri)) (h36 : g 36 = (oTld G bo oo)) (h37 : g 37 = (zZ G 120 fl)) (h38 : g 38 = (zZ G 120 ba)) (h39 : g 39 = (zI G 120 ori)) (h64 : g 64 = (zI G 1000 now)) (h65 : g 65 = (zI G 5 rl)) (h66 : g 66 = (zI G 3 tt)) : zC G yX6_known wsX6_known (zrm 4 92) ex [.ref (zB G + 0), .int a, .int b, .int c] (zN, g) (fun r h => r = some (.int (X6_known_v pts rw kd sgn tri fl ori now a b c)) ∧ h = (zN, zus g [(64, zI G 1000 (X6_known_c64 pts rw kd sgn tri fl ori now a b c))])) := by
  refine zC_of mX6_known (lv := [some (.ref (zB G + 0)), some (.int a), some (.int b), some (.int c)]) rfl rfl (by decide) (by intro v hv; simp at hv; rcases hv with rfl | rfl | rfl | rfl <;> rfl) (Nat.le_of_ble_eq_true rfl) rfl ?_
  refine z_0 ?_
  refine z_heap (g' := zu (zus g []) 64 (zI G 1000 now)) (zu_self (zus g []) 64 _ h64).symm ?_
  refine z_n (L' := [(64, (zI G 1000 now))]) rfl ?_
  refine z_aload_n dX6_known_0 rfl rfl ?_
  refine z_get dX6_known_1 rfl hiX6_known_X6 2 lkX6_known_20 (Nat.le_of_ble_eq_true rfl) h0 rfl (by decide) rfl ?_
  refine z_iload_n dX6_known_4 rfl rfl ?_
  refine z_iload_n dX6_known_5 rfl rfl ?_
  refine z_iload_n dX6_known_6 rfl rfl ?_
  refine z_callVi (c_X4_isTriple_2 G ex _ pts lns ltr inw a b c h2) gX6_known_X4_isTriple rfl dX6_known_7 rfl rfl rfl okk_X4_isTriple (Nat.le_of_ble_eq_true rfl) h2 rfl ⟨Nat.le_of_ble_eq_true rfl, Nat.le_of_ble_eq_true rfl⟩ ⟨Nat.le_of_ble_eq_true rfl, Nat.le_of_ble_eq_true rfl⟩ (Nat.le_of_ble_eq_true rfl) ?_
  refine z_if_ne (tgt := 16) dX6_known_10 rfl (by decide) (fun c10 => ?_) (fun c10 => ?_)
  · obtain ⟨hva, hvb, hvc, hab, hac, hbc⟩ := isTriple_in c10 hp
    have hla := zvlt hva
    have hlb := zvlt hvb
    have hlc := zvlt hvc
    refine z_lv (congrArg (fun z9 : Int32 => ([some (.ref (zB G + 0)), some (.int z9), some (.int b), some (.int c)] : List (Option Value))) (show a = (nI a.toNatClampNeg) from zvin hva)) ?_
    refine z_lv (congrArg (fun z9 : Int32 => ([some (.ref (zB G + 0)), some (.int (nI a.toNatClampNeg)), some (.int z9), some (.int c)] : List (Option Value))) (show b = (nI b.toNatClampNeg) from zvin hvb)) ?_
    refine z_lv (congrArg (fun z9 : Int32 => ([some (.ref (zB G + 0)), some (.int (nI a.toNatClampNeg)), some (.int (nI b.toNatClampNeg)), some (.int z9)] : List (Option Value))) (show c = (nI c.toNatClampNeg) from zvin hvc)) ?_
    refine z_aload_n dX6_known_16 rfl rfl ?_
    refine z_get dX6_known_17 rfl hiX6_known_X6 6 lkX6_known_46 (Nat.le_of_ble_eq_true rfl) h0 rfl (by decide) rfl ?_
    refine z_aload_n dX6_known_20 rfl rfl ?_
    refine z_get dX6_known_21 rfl hiX6_known_X6 6 lkX6_known_46 (Nat.le_of_ble_eq_true rfl) h0 rfl (by decide) rfl ?_
    refine z_get dX6_known_24 rfl hiX6_known_X0 0 lkX6_known_85 (Nat.le_of_ble_eq_true rfl) h59 rfl (by decide) rfl ?_
    refine z_callVv (c_X0_gather G ex _ (nI rw) outc ts bo oo now kd sgn tri fl ori rw (by omega) (by assumption) h59 rfl h60 h61 h63 h36 h37 h39) gX6_known_X0_gather rfl dX6_known_27 rfl rfl rfl okk_X0_gather (Nat.le_of_ble_eq_true rfl) h59 rfl ⟨Nat.le_of_ble_eq_true rfl, Nat.le_of_ble_eq_true rfl⟩ ⟨Nat.le_of_ble_eq_true rfl, Nat.le_of_ble_eq_true rfl⟩ (Nat.le_of_ble_eq_true rfl) ?_
    refine z_nn (L' := [(64, (zI G 1000 (X0_gather_c64 now kd sgn tri fl ori rw)))]) rfl ?_
    refine z_aload_n dX6_known_30 rfl rfl ?_
    refine z_get dX6_known_31 rfl hiX6_known_X6 6 lkX6_known_46 (Nat.le_of_ble_eq_true rfl) h0 rfl (by decide) rfl ?_
    refine z_iload_n dX6_known_34 rfl rfl ?_
    refine z_iload_n dX6_known_35 rfl rfl ?_
    refine z_iload_n dX6_known_36 rfl rfl ?_
    refine z_callVi (c_X0_signNow G ex _ (nI rw) outc ts (X0_gather_c64 now kd sgn tri fl ori rw) a.toNatClampNeg b.toNatClampNeg c.toNatClampNeg (by omega) (by omega) (by omega) h59 rfl) gX6_known_X0_signNow rfl dX6_known_37 rfl rfl rfl okk_X0_signNow (Nat.le_of_ble_eq_true rfl) h59 rfl ⟨Nat.le_of_ble_eq_true rfl, Nat.le_of_ble_eq_true rfl⟩ ⟨Nat.le_of_ble_eq_true rfl, Nat.le_of_ble_eq_true rfl⟩ (Nat.le_of_ble_eq_true rfl) ?_
    exact z_ireturn dX6_known_40 rfl rfl (Nat.le_refl _) (Nat.le_refl _) (fun _ => rfl) ⟨by simp only [X6_known_v, if_neg c10], by simp only [X6_known_c64, if_neg c10]⟩
  · refine z_bipush (v := (-9)) dX6_known_13 rfl (by decide) ?_
    exact z_ireturn dX6_known_15 rfl rfl (Nat.le_refl _) (Nat.le_refl _) (fun _ => rfl) ⟨by simp only [X6_known_v, if_pos c10], by simp only [X6_known_c64, if_pos c10]⟩
abbrev mX6_certificate : zM := (cX6_certificate, 3, (some .int), RX6, wsX6_certificate, "certificate")
theorem hiX6_certificate_X6 : ∀ w ∈ wsX60, w ∈ wsX6_certificate := fun w h => List.mem_cons_of_mem _ (List.mem_append_left _ (List.mem_append_left _ (List.mem_append_right _ h)))
theorem lkX6_certificate_46 : Cond.fieldLink RX6 46 "ConfigSearch" "following" "LConfigSearch$Following;" ∈ wsX6_certificate := by decide +kernel
theorem hiX6_certificate_X0 : ∀ w ∈ wsX00, w ∈ wsX6_certificate := fun w h => List.mem_cons_of_mem _ (List.mem_append_left _ (List.mem_append_right _ h))
theorem lkX6_certificate_85 : Cond.fieldLink RX6 85 "ConfigSearch$Following" "rows" "I" ∈ wsX6_certificate := by decide +kernel
theorem okk_X0_lastTerm : zOk yX0_lastTerm 2 := by unfold zOk; decide +kernel
def X6_certificate_v (rw : Nat) (kd sgn rel tri : Nat → Int32) (fl ori : Nat → Int32) (now rl : Nat → Int32) (i w : Int32) : Int32 := if i < 0 then (-9) else (if (nI 2) < i then (-9) else (if w < 0 then (-9) else (if w ≤ (nI 2) then (if (nI rw) = 0 then (-2) else (X0_lastTerm_v rw kd sgn rel tri fl ori now rl i.toNatClampNeg w.toNatClampNeg)) else (-9))))
def X6_certificate_c64 (rw : Nat) (kd sgn rel tri : Nat → Int32) (fl ori : Nat → Int32) (now rl : Nat → Int32) (i w : Int32) : Nat → Int32 := if i < 0 then now else (if (nI 2) < i then now else (if w < 0 then now else (if w ≤ (nI 2) then (if (nI rw) = 0 then now else (X0_lastTerm_c64 rw kd sgn rel tri fl ori now rl i.toNatClampNeg w.toNatClampNeg)) else now)))
def X6_certificate_c65 (rw : Nat) (kd sgn rel tri : Nat → Int32) (fl ori : Nat → Int32) (now rl : Nat → Int32) (i w : Int32) : Nat → Int32 := if i < 0 then rl else (if (nI 2) < i then rl else (if w < 0 then rl else (if w ≤ (nI 2) then (if (nI rw) = 0 then rl else (X0_lastTerm_c65 rw kd sgn rel tri fl ori now rl i.toNatClampNeg w.toNatClampNeg)) else rl)))
set_option maxRecDepth 100000 in
set_option maxHeartbeats 4000000 in
theorem c_X6_certificate_2 (G : zG) (ex : Bool) (g : Nat → va_E) (ont : Nat) (rw : Nat) (outc ts : Int32) (kd sgn rel tri : Nat → Int32) (bo oo : Int32) (fl ba ori : Nat → Int32) (now rl tt : Nat → Int32) (i w : Int32) (hrw : rw ≤ 60) (h3 : ∀ i, i < rw → ¬ kd i = nI 1 → ∀ j, j < 3 → vp_in (tri (3 * i + j)) 10) (hre : ∀ i, i < rw → ∀ j, j < 5 → vp_in (rel (5 * i + j)) 10) (h0 : g 0 = (oCfg G 2 19 (nI ont))) (h59 : g 59 = (oFol G (nI rw) outc ts)) (h60 : g 60 = (zI G 60 kd)) (h61 : g 61 = (zI G 60 sgn)) (h62 : g 62 = (zI G 300 rel)) (h63 : g 63 = (zI G 180 tri)) (h36 : g 36 = (oTld G bo oo)) (h37 : g 37 = (zZ G 120 fl)) (h38 : g 38 = (zZ G 120 ba)) (h39 : g 39 = (zI G 120 ori)) (h64 : g 64 = (zI G 1000 now)) (h65 : g 65 = (zI G 5 rl)) (h66 : g 66 = (zI G 3 tt)) : zC G yX6_certificate wsX6_certificate (zrm 5 116) ex [.ref (zB G + 0), .int i, .int w] (zN, g) (fun r h => r = some (.int (X6_certificate_v rw kd sgn rel tri fl ori now rl i w)) ∧ h = (zN, zus g [(64, zI G 1000 (X6_certificate_c64 rw kd sgn rel tri fl ori now rl i w)), (65, zI G 5 (X6_certificate_c65 rw kd sgn rel tri fl ori now rl i w))])) := by
  refine zC_of mX6_certificate (lv := [some (.ref (zB G + 0)), some (.int i), some (.int w)]) rfl rfl (by decide) (by intro v hv; simp at hv; rcases hv with rfl | rfl | rfl <;> rfl) (Nat.le_of_ble_eq_true rfl) rfl ?_
  refine z_0 ?_
  refine z_heap (g' := zu (zus g []) 64 (zI G 1000 now)) (zu_self (zus g []) 64 _ h64).symm ?_
  refine z_n (L' := [(64, (zI G 1000 now))]) rfl ?_
  refine z_heap (g' := zu (zus g [(64, (zI G 1000 now))]) 65 (zI G 5 rl)) (zu_self (zus g [(64, (zI G 1000 now))]) 65 _ h65).symm ?_
  refine z_n (L' := [(64, (zI G 1000 now)), (65, (zI G 5 rl))]) rfl ?_
  refine z_iload_n dX6_certificate_0 rfl rfl ?_
  refine z_if_lt (tgt := 18) dX6_certificate_1 rfl (by decide) (fun c1 => ?_) (fun c1 => ?_)
  · refine z_bipush (v := (-9)) dX6_certificate_18 rfl (by decide) ?_
    exact z_ireturn dX6_certificate_20 rfl rfl (Nat.le_refl _) (Nat.le_refl _) (fun _ => rfl) ⟨by simp only [X6_certificate_v, if_pos c1], by simp only [X6_certificate_c64, X6_certificate_c65, if_pos c1]⟩
  · refine z_iload_n dX6_certificate_4 rfl rfl ?_
    refine z_iconst (v := nI 2) dX6_certificate_5 rfl (by decide) ?_
    refine z_icmp_gt (tgt := 18) dX6_certificate_6 rfl (by decide) (fun c6 => ?_) (fun c6 => ?_)
    · refine z_bipush (v := (-9)) dX6_certificate_18 rfl (by decide) ?_
      exact z_ireturn dX6_certificate_20 rfl rfl (Nat.le_refl _) (Nat.le_refl _) (fun _ => rfl) ⟨by simp only [X6_certificate_v, if_neg c1, if_pos c6], by simp only [X6_certificate_c64, X6_certificate_c65, if_neg c1, if_pos c6]⟩
    · refine z_iload_n dX6_certificate_9 rfl rfl ?_
      refine z_if_lt (tgt := 18) dX6_certificate_10 rfl (by decide) (fun c10 => ?_) (fun c10 => ?_)
      · refine z_bipush (v := (-9)) dX6_certificate_18 rfl (by decide) ?_
        exact z_ireturn dX6_certificate_20 rfl rfl (Nat.le_refl _) (Nat.le_refl _) (fun _ => rfl) ⟨by simp only [X6_certificate_v, if_neg c1, if_neg c6, if_pos c10], by simp only [X6_certificate_c64, X6_certificate_c65, if_neg c1, if_neg c6, if_pos c10]⟩
      · refine z_iload_n dX6_certificate_13 rfl rfl ?_
        refine z_iconst (v := nI 2) dX6_certificate_14 rfl (by decide) ?_
        refine z_icmp_le (tgt := 21) dX6_certificate_15 rfl (by decide) (fun c15 => ?_) (fun c15 => ?_)
        · refine z_aload_n dX6_certificate_21 rfl rfl ?_
          refine z_get dX6_certificate_22 rfl hiX6_certificate_X6 6 lkX6_certificate_46 (Nat.le_of_ble_eq_true rfl) h0 rfl (by decide) rfl ?_
          refine z_get dX6_certificate_25 rfl hiX6_certificate_X0 0 lkX6_certificate_85 (Nat.le_of_ble_eq_true rfl) h59 rfl (by decide) rfl ?_
          refine z_if_ne (tgt := 34) dX6_certificate_28 rfl (by decide) (fun c28 => ?_) (fun c28 => ?_)
          · have hvi : vp_in i 3 := zle_in c1 (Int32.not_lt.mp c6) (by decide)
            have hvw : vp_in w 3 := zle_in c10 c15 (by decide)
            have hli := zvlt hvi
            have hlw := zvlt hvw
            have hrw1 : 1 ≤ rw := Nat.pos_of_ne_zero (fun q => c28 (by rw [q]; rfl))
            refine z_lv (congrArg (fun z9 : Int32 => ([some (.ref (zB G + 0)), some (.int z9), some (.int w)] : List (Option Value))) (show i = (nI i.toNatClampNeg) from zvin hvi)) ?_
            refine z_lv (congrArg (fun z9 : Int32 => ([some (.ref (zB G + 0)), some (.int (nI i.toNatClampNeg)), some (.int z9)] : List (Option Value))) (show w = (nI w.toNatClampNeg) from zvin hvw)) ?_
            refine z_aload_n dX6_certificate_34 rfl rfl ?_
            refine z_get dX6_certificate_35 rfl hiX6_certificate_X6 6 lkX6_certificate_46 (Nat.le_of_ble_eq_true rfl) h0 rfl (by decide) rfl ?_
            refine z_iload_n dX6_certificate_38 rfl rfl ?_
            refine z_iload_n dX6_certificate_39 rfl rfl ?_
            refine z_callVi (c_X0_lastTerm G ex _ rw outc ts kd sgn rel tri bo oo fl ori now rl i.toNatClampNeg w.toNatClampNeg (by omega) (by omega) (by omega) (by omega) (by assumption) (by assumption) h59 h60 h61 h62 h63 h36 h37 h39 rfl rfl) gX6_certificate_X0_lastTerm rfl dX6_certificate_40 rfl rfl rfl okk_X0_lastTerm (Nat.le_of_ble_eq_true rfl) h59 rfl ⟨Nat.le_of_ble_eq_true rfl, Nat.le_of_ble_eq_true rfl⟩ ⟨Nat.le_of_ble_eq_true rfl, Nat.le_of_ble_eq_true rfl⟩ (Nat.le_of_ble_eq_true rfl) ?_
            refine z_nn (L' := [(64, (zI G 1000 (X0_lastTerm_c64 rw kd sgn rel tri fl ori now rl i.toNatClampNeg w.toNatClampNeg))), (65, (zI G 5 (X0_lastTerm_c65 rw kd sgn rel tri fl ori now rl i.toNatClampNeg w.toNatClampNeg)))]) rfl ?_
            exact z_ireturn dX6_certificate_43 rfl rfl (Nat.le_refl _) (Nat.le_refl _) (fun _ => rfl) ⟨by simp only [X6_certificate_v, if_neg c1, if_neg c6, if_neg c10, if_pos c15, if_neg c28], by simp only [X6_certificate_c64, X6_certificate_c65, if_neg c1, if_neg c6, if_neg c10, if_pos c15, if_neg c28]⟩
          · refine z_bipush (v := (-2)) dX6_certificate_31 rfl (by decide) ?_
            exact z_ireturn dX6_certificate_33 rfl rfl (Nat.le_refl _) (Nat.le_refl _) (fun _ => rfl) ⟨by simp only [X6_certificate_v, if_neg c1, if_neg c6, if_neg c10, if_pos c15, if_pos c28], by simp only [X6_certificate_c64, X6_certificate_c65, if_neg c1, if_neg c6, if_neg c10, if_pos c15, if_pos c28]⟩
        · refine z_bipush (v := (-9)) dX6_certificate_18 rfl (by decide) ?_
          exact z_ireturn dX6_certificate_20 rfl rfl (Nat.le_refl _) (Nat.le_refl _) (fun _ => rfl) ⟨by simp only [X6_certificate_v, if_neg c1, if_neg c6, if_neg c10, if_neg c15], by simp only [X6_certificate_c64, X6_certificate_c65, if_neg c1, if_neg c6, if_neg c10, if_neg c15]⟩
abbrev mX6_kinds : zM := (cX6_kinds, 3, (some .int), RX6, wsX6_kinds, "kinds")
theorem hiX6_kinds_X6 : ∀ w ∈ wsX60, w ∈ wsX6_kinds := fun w h => List.mem_cons_of_mem _ (List.mem_append_left _ (List.mem_append_right _ h))
theorem lkX6_kinds_53 : Cond.fieldLink RX6 53 "ConfigSearch" "forms" "LConfigSearch$Forms;" ∈ wsX6_kinds := by decide +kernel
theorem okk_X1_kindsOf : zOk yX1_kindsOf 2 := by unfold zOk; decide +kernel
def X6_kinds_v (im ren ch cnt : Nat → Int32) (n m : Int32) : Int32 := if n < (nI 3) then (-9) else (if (nI 6) < n then (-9) else (if m < 0 then (-9) else (if m ≤ (nI 4) then (X1_kindsOf_v ren im ch cnt n.toNatClampNeg m.toNatClampNeg) else (-9))))
def X6_kinds_c71 (im ren ch cnt : Nat → Int32) (n m : Int32) : Nat → Int32 := if n < (nI 3) then im else (if (nI 6) < n then im else (if m < 0 then im else (if m ≤ (nI 4) then (X1_kindsOf_c71 ren im ch cnt n.toNatClampNeg m.toNatClampNeg) else im)))
def X6_kinds_c72 (im ren ch cnt : Nat → Int32) (n m : Int32) : Nat → Int32 := if n < (nI 3) then ren else (if (nI 6) < n then ren else (if m < 0 then ren else (if m ≤ (nI 4) then (X1_kindsOf_c72 ren im ch cnt n.toNatClampNeg m.toNatClampNeg) else ren)))
def X6_kinds_c74 (im ren ch cnt : Nat → Int32) (n m : Int32) : Nat → Int32 := if n < (nI 3) then ch else (if (nI 6) < n then ch else (if m < 0 then ch else (if m ≤ (nI 4) then (X1_kindsOf_c74 ren im ch cnt n.toNatClampNeg m.toNatClampNeg) else ch)))
def X6_kinds_c75 (im ren ch cnt : Nat → Int32) (n m : Int32) : Nat → Int32 := if n < (nI 3) then cnt else (if (nI 6) < n then cnt else (if m < 0 then cnt else (if m ≤ (nI 4) then (X1_kindsOf_c75 ren im ch cnt n.toNatClampNeg m.toNatClampNeg) else cnt)))
set_option maxRecDepth 100000 in
set_option maxHeartbeats 4000000 in
theorem c_X6_kinds_2 (G : zG) (ex : Bool) (g : Nat → va_E) (ont : Nat) (sd : Int32) (lea kee own im ren mv ch cnt : Nat → Int32) (n m : Int32)  (h0 : g 0 = (oCfg G 2 19 (nI ont))) (h67 : g 67 = (oFrm G sd)) (h68 : g 68 = (zI G 12 lea)) (h69 : g 69 = (zI G 13 kee)) (h70 : g 70 = (zI G 12 own)) (h71 : g 71 = (zI G 12 im)) (h72 : g 72 = (zI G 7 ren)) (h73 : g 73 = (zI G 7 mv)) (h74 : g 74 = (zI G 4 ch)) (h75 : g 75 = (zI G 35 cnt)) : zC G yX6_kinds wsX6_kinds (zrm 9 226) ex [.ref (zB G + 0), .int n, .int m] (zN, g) (fun r h => r = some (.int (X6_kinds_v im ren ch cnt n m)) ∧ h = (zN, zus g [(71, zI G 12 (X6_kinds_c71 im ren ch cnt n m)), (72, zI G 7 (X6_kinds_c72 im ren ch cnt n m)), (74, zI G 4 (X6_kinds_c74 im ren ch cnt n m)), (75, zI G 35 (X6_kinds_c75 im ren ch cnt n m))])) := by
  refine zC_of mX6_kinds (lv := [some (.ref (zB G + 0)), some (.int n), some (.int m)]) rfl rfl (by decide) (by intro v hv; simp at hv; rcases hv with rfl | rfl | rfl <;> rfl) (Nat.le_of_ble_eq_true rfl) rfl ?_
  refine z_0 ?_
  refine z_heap (g' := zu (zus g []) 71 (zI G 12 im)) (zu_self (zus g []) 71 _ h71).symm ?_
  refine z_n (L' := [(71, (zI G 12 im))]) rfl ?_
  refine z_heap (g' := zu (zus g [(71, (zI G 12 im))]) 72 (zI G 7 ren)) (zu_self (zus g [(71, (zI G 12 im))]) 72 _ h72).symm ?_
  refine z_n (L' := [(71, (zI G 12 im)), (72, (zI G 7 ren))]) rfl ?_
  refine z_heap (g' := zu (zus g [(71, (zI G 12 im)), (72, (zI G 7 ren))]) 74 (zI G 4 ch)) (zu_self (zus g [(71, (zI G 12 im)), (72, (zI G 7 ren))]) 74 _ h74).symm ?_
  refine z_n (L' := [(71, (zI G 12 im)), (72, (zI G 7 ren)), (74, (zI G 4 ch))]) rfl ?_
  refine z_heap (g' := zu (zus g [(71, (zI G 12 im)), (72, (zI G 7 ren)), (74, (zI G 4 ch))]) 75 (zI G 35 cnt)) (zu_self (zus g [(71, (zI G 12 im)), (72, (zI G 7 ren)), (74, (zI G 4 ch))]) 75 _ h75).symm ?_
  refine z_n (L' := [(71, (zI G 12 im)), (72, (zI G 7 ren)), (74, (zI G 4 ch)), (75, (zI G 35 cnt))]) rfl ?_
  refine z_iload_n dX6_kinds_0 rfl rfl ?_
  refine z_iconst (v := nI 3) dX6_kinds_1 rfl (by decide) ?_
  refine z_icmp_lt (tgt := 20) dX6_kinds_2 rfl (by decide) (fun c2 => ?_) (fun c2 => ?_)
  · refine z_bipush (v := (-9)) dX6_kinds_20 rfl (by decide) ?_
    exact z_ireturn dX6_kinds_22 rfl rfl (Nat.le_refl _) (Nat.le_refl _) (fun _ => rfl) ⟨by simp only [X6_kinds_v, if_pos c2], by simp only [X6_kinds_c71, X6_kinds_c72, X6_kinds_c74, X6_kinds_c75, if_pos c2]⟩
  · refine z_iload_n dX6_kinds_5 rfl rfl ?_
    refine z_bipush (v := nI 6) dX6_kinds_6 rfl (by decide) ?_
    refine z_icmp_gt (tgt := 20) dX6_kinds_8 rfl (by decide) (fun c8 => ?_) (fun c8 => ?_)
    · refine z_bipush (v := (-9)) dX6_kinds_20 rfl (by decide) ?_
      exact z_ireturn dX6_kinds_22 rfl rfl (Nat.le_refl _) (Nat.le_refl _) (fun _ => rfl) ⟨by simp only [X6_kinds_v, if_neg c2, if_pos c8], by simp only [X6_kinds_c71, X6_kinds_c72, X6_kinds_c74, X6_kinds_c75, if_neg c2, if_pos c8]⟩
    · refine z_iload_n dX6_kinds_11 rfl rfl ?_
      refine z_if_lt (tgt := 20) dX6_kinds_12 rfl (by decide) (fun c12 => ?_) (fun c12 => ?_)
      · refine z_bipush (v := (-9)) dX6_kinds_20 rfl (by decide) ?_
        exact z_ireturn dX6_kinds_22 rfl rfl (Nat.le_refl _) (Nat.le_refl _) (fun _ => rfl) ⟨by simp only [X6_kinds_v, if_neg c2, if_neg c8, if_pos c12], by simp only [X6_kinds_c71, X6_kinds_c72, X6_kinds_c74, X6_kinds_c75, if_neg c2, if_neg c8, if_pos c12]⟩
      · refine z_iload_n dX6_kinds_15 rfl rfl ?_
        refine z_iconst (v := nI 4) dX6_kinds_16 rfl (by decide) ?_
        refine z_icmp_le (tgt := 23) dX6_kinds_17 rfl (by decide) (fun c17 => ?_) (fun c17 => ?_)
        · have hn0 : ¬ n < 0 := fun q => c2 (Int32.lt_trans q (by decide))
          have hvn : vp_in n 7 := zle_in hn0 (Int32.not_lt.mp c8) (by decide)
          have hvm : vp_in m 5 := zle_in c12 c17 (by decide)
          have hln := zvlt hvn
          have hlm := zvlt hvm
          have hn3 : 3 ≤ n.toNatClampNeg := Nat.not_lt.mp (fun q => c2 (by rw [zvin hvn]; exact nI_lt q (by decide)))
          refine z_lv (congrArg (fun z9 : Int32 => ([some (.ref (zB G + 0)), some (.int z9), some (.int m)] : List (Option Value))) (show n = (nI n.toNatClampNeg) from zvin hvn)) ?_
          refine z_lv (congrArg (fun z9 : Int32 => ([some (.ref (zB G + 0)), some (.int (nI n.toNatClampNeg)), some (.int z9)] : List (Option Value))) (show m = (nI m.toNatClampNeg) from zvin hvm)) ?_
          refine z_aload_n dX6_kinds_23 rfl rfl ?_
          refine z_get dX6_kinds_24 rfl hiX6_kinds_X6 7 lkX6_kinds_53 (Nat.le_of_ble_eq_true rfl) h0 rfl (by decide) rfl ?_
          refine z_iload_n dX6_kinds_27 rfl rfl ?_
          refine z_iload_n dX6_kinds_28 rfl rfl ?_
          refine z_callVi (c_X1_kindsOf G ex _ sd ren im ch cnt n.toNatClampNeg m.toNatClampNeg (by omega) (by omega) (by omega) h67 rfl rfl rfl rfl) gX6_kinds_X1_kindsOf rfl dX6_kinds_29 rfl rfl rfl okk_X1_kindsOf (Nat.le_of_ble_eq_true rfl) h67 rfl ⟨Nat.le_of_ble_eq_true rfl, Nat.le_of_ble_eq_true rfl⟩ ⟨Nat.le_of_ble_eq_true rfl, Nat.le_of_ble_eq_true rfl⟩ (Nat.le_of_ble_eq_true rfl) ?_
          refine z_nn (L' := [(71, (zI G 12 (X1_kindsOf_c71 ren im ch cnt n.toNatClampNeg m.toNatClampNeg))), (72, (zI G 7 (X1_kindsOf_c72 ren im ch cnt n.toNatClampNeg m.toNatClampNeg))), (74, (zI G 4 (X1_kindsOf_c74 ren im ch cnt n.toNatClampNeg m.toNatClampNeg))), (75, (zI G 35 (X1_kindsOf_c75 ren im ch cnt n.toNatClampNeg m.toNatClampNeg)))]) rfl ?_
          exact z_ireturn dX6_kinds_32 rfl rfl (Nat.le_refl _) (Nat.le_refl _) (fun _ => rfl) ⟨by simp only [X6_kinds_v, if_neg c2, if_neg c8, if_neg c12, if_pos c17], by simp only [X6_kinds_c71, X6_kinds_c72, X6_kinds_c74, X6_kinds_c75, if_neg c2, if_neg c8, if_neg c12, if_pos c17]⟩
        · refine z_bipush (v := (-9)) dX6_kinds_20 rfl (by decide) ?_
          exact z_ireturn dX6_kinds_22 rfl rfl (Nat.le_refl _) (Nat.le_refl _) (fun _ => rfl) ⟨by simp only [X6_kinds_v, if_neg c2, if_neg c8, if_neg c12, if_neg c17], by simp only [X6_kinds_c71, X6_kinds_c72, X6_kinds_c74, X6_kinds_c75, if_neg c2, if_neg c8, if_neg c12, if_neg c17]⟩
abbrev mX6_renamable : zM := (cX6_renamable, 1, (some .boolean), RX6, wsX6_renamable, "renamable")
theorem hiX6_renamable_X6 : ∀ w ∈ wsX60, w ∈ wsX6_renamable := fun w h => List.mem_cons_of_mem _ (List.mem_append_left _ (List.mem_append_right _ h))
theorem lkX6_renamable_20 : Cond.fieldLink RX6 20 "ConfigSearch" "text" "LConfigSearch$Text;" ∈ wsX6_renamable := by decide +kernel
theorem hiX6_renamable_X4 : ∀ w ∈ wsX40, w ∈ wsX6_renamable := fun w h => List.mem_cons_of_mem _ (List.mem_append_right _ h)
theorem lkX6_renamable_76 : Cond.fieldLink RX6 76 "ConfigSearch$Text" "lines" "I" ∈ wsX6_renamable := by decide +kernel
theorem lkX6_renamable_73 : Cond.fieldLink RX6 73 "ConfigSearch$Text" "points" "I" ∈ wsX6_renamable := by decide +kernel
def X6_renamable_v (pts lns : Nat) : Int32 := if (nI lns) ≤ 0 then (nI 0) else (if (nI 7) < (nI pts) then (nI 0) else (nI 1))
set_option maxRecDepth 100000 in
set_option maxHeartbeats 4000000 in
theorem c_X6_renamable_2 (G : zG) (ex : Bool) (g : Nat → va_E) (pts lns ltr : Nat) (inw : Int32) (ont : Nat)   (h0 : g 0 = (oCfg G 2 19 (nI ont))) (h2 : g 2 = (oTxt G 2 (nI pts) (nI lns) (nI ltr) inw)) : zC G yX6_renamable wsX6_renamable (zrm 0 0) ex [.ref (zB G + 0)] (zN, g) (fun r h => r = some (.int (X6_renamable_v pts lns)) ∧ h = (zN, g)) := by
  refine zC_of mX6_renamable (lv := [some (.ref (zB G + 0))]) rfl rfl (by decide) (by intro v hv; simp at hv; subst hv; rfl) (Nat.le_of_ble_eq_true rfl) rfl ?_
  refine z_0 ?_
  refine z_aload_n dX6_renamable_0 rfl rfl ?_
  refine z_get dX6_renamable_1 rfl hiX6_renamable_X6 2 lkX6_renamable_20 (Nat.le_of_ble_eq_true rfl) h0 rfl (by decide) rfl ?_
  refine z_get dX6_renamable_4 rfl hiX6_renamable_X4 1 lkX6_renamable_76 (Nat.le_of_ble_eq_true rfl) h2 rfl (by decide) rfl ?_
  refine z_if_le (tgt := 26) dX6_renamable_7 rfl (by decide) (fun c7 => ?_) (fun c7 => ?_)
  · refine z_iconst (v := nI 0) dX6_renamable_26 rfl (by decide) ?_
    exact z_ireturn dX6_renamable_27 rfl rfl (Nat.le_refl _) (Nat.le_refl _) (fun _ => rfl) ⟨by simp only [X6_renamable_v, if_pos c7], rfl⟩
  · refine z_aload_n dX6_renamable_10 rfl rfl ?_
    refine z_get dX6_renamable_11 rfl hiX6_renamable_X6 2 lkX6_renamable_20 (Nat.le_of_ble_eq_true rfl) h0 rfl (by decide) rfl ?_
    refine z_get dX6_renamable_14 rfl hiX6_renamable_X4 0 lkX6_renamable_73 (Nat.le_of_ble_eq_true rfl) h2 rfl (by decide) rfl ?_
    refine z_bipush (v := nI 7) dX6_renamable_17 rfl (by decide) ?_
    refine z_icmp_gt (tgt := 26) dX6_renamable_19 rfl (by decide) (fun c19 => ?_) (fun c19 => ?_)
    · refine z_iconst (v := nI 0) dX6_renamable_26 rfl (by decide) ?_
      exact z_ireturn dX6_renamable_27 rfl rfl (Nat.le_refl _) (Nat.le_refl _) (fun _ => rfl) ⟨by simp only [X6_renamable_v, if_neg c7, if_pos c19], rfl⟩
    · refine z_iconst (v := nI 1) dX6_renamable_22 rfl (by decide) ?_
      refine z_goto (tgt := 27) dX6_renamable_23 (by decide) ?_
      exact z_ireturn dX6_renamable_27 rfl rfl (Nat.le_refl _) (Nat.le_refl _) (fun _ => rfl) ⟨by simp only [X6_renamable_v, if_neg c7, if_neg c19], rfl⟩
theorem renamable_in {pts lns : Nat} (h : ¬ X6_renamable_v pts lns = 0) (hp : pts ≤ 10) (hl : lns ≤ 12) : pts ≤ 7 ∧ 1 ≤ lns := by
  unfold X6_renamable_v at h
  repeat' split at h
  all_goals first | exact absurd rfl h | skip
  rename_i c1 c2
  exact ⟨Nat.not_lt.mp (fun q => c2 (nI_lt q (by omega))), Nat.pos_of_ne_zero (fun q => c1 (by rw [q]; decide))⟩
abbrev mX6_canonical : zM := (cX6_canonical, 2, (some .int), RX6, wsX6_canonical, "canonical")
theorem okk_X6_renamable : zOk yX6_renamable 0 := by unfold zOk; decide +kernel
theorem hiX6_canonical_X6 : ∀ w ∈ wsX60, w ∈ wsX6_canonical := fun w h => List.mem_cons_of_mem _ (List.mem_append_left _ (List.mem_append_left _ (List.mem_append_right _ h)))
theorem lkX6_canonical_20 : Cond.fieldLink RX6 20 "ConfigSearch" "text" "LConfigSearch$Text;" ∈ wsX6_canonical := by decide +kernel
theorem hiX6_canonical_X4 : ∀ w ∈ wsX40, w ∈ wsX6_canonical := fun w h => List.mem_cons_of_mem _ (List.mem_append_left _ (List.mem_append_right _ h))
theorem lkX6_canonical_76 : Cond.fieldLink RX6 76 "ConfigSearch$Text" "lines" "I" ∈ wsX6_canonical := by decide +kernel
theorem lkX6_canonical_53 : Cond.fieldLink RX6 53 "ConfigSearch" "forms" "LConfigSearch$Forms;" ∈ wsX6_canonical := by decide +kernel
theorem okk_X1_study : zOk yX1_study 1 := by unfold zOk; decide +kernel
theorem hiX6_canonical_X1 : ∀ w ∈ wsX10, w ∈ wsX6_canonical := fun w h => List.mem_cons_of_mem _ (List.mem_append_right _ h)
theorem lkX6_canonical_208 : Cond.fieldLink RX6 208 "ConfigSearch$Forms" "least" "[I" ∈ wsX6_canonical := by decide +kernel
def X6_canonical_v (pts lns : Nat) (msk : Nat → Int32) (sd : Int32) (lea kee own im ren mv : Nat → Int32) (i : Int32) : Int32 := if (X6_renamable_v pts lns) = 0 then (-2) else (if i < 0 then (-4) else (if i < (nI lns) then ((X1_study_c68 sd pts lns msk lea kee own im ren mv) i.toNatClampNeg) else (-4)))
def X6_canonical_p67_0 (pts lns : Nat) (sd : Int32) (i : Int32) : Int32 := if (X6_renamable_v pts lns) = 0 then sd else (if i < 0 then sd else (if i < (nI lns) then (X1_study_p67_0 sd) else sd))
def X6_canonical_c68 (pts lns : Nat) (msk : Nat → Int32) (sd : Int32) (lea kee own im ren mv : Nat → Int32) (i : Int32) : Nat → Int32 := if (X6_renamable_v pts lns) = 0 then lea else (if i < 0 then lea else (if i < (nI lns) then (X1_study_c68 sd pts lns msk lea kee own im ren mv) else lea))
def X6_canonical_c69 (pts lns : Nat) (msk : Nat → Int32) (sd : Int32) (lea kee own im ren mv : Nat → Int32) (i : Int32) : Nat → Int32 := if (X6_renamable_v pts lns) = 0 then kee else (if i < 0 then kee else (if i < (nI lns) then (X1_study_c69 sd pts lns msk lea kee own im ren mv) else kee))
def X6_canonical_c70 (pts lns : Nat) (msk : Nat → Int32) (sd : Int32) (own : Nat → Int32) (i : Int32) : Nat → Int32 := if (X6_renamable_v pts lns) = 0 then own else (if i < 0 then own else (if i < (nI lns) then (X1_study_c70 sd lns msk own) else own))
def X6_canonical_c71 (pts lns : Nat) (msk : Nat → Int32) (sd : Int32) (lea kee own im ren mv : Nat → Int32) (i : Int32) : Nat → Int32 := if (X6_renamable_v pts lns) = 0 then im else (if i < 0 then im else (if i < (nI lns) then (X1_study_c71 sd pts lns msk lea kee own im ren mv) else im))
def X6_canonical_c72 (pts lns : Nat) (msk : Nat → Int32) (sd : Int32) (lea kee own im ren mv : Nat → Int32) (i : Int32) : Nat → Int32 := if (X6_renamable_v pts lns) = 0 then ren else (if i < 0 then ren else (if i < (nI lns) then (X1_study_c72 sd pts lns msk lea kee own im ren mv) else ren))
def X6_canonical_c73 (pts lns : Nat) (msk : Nat → Int32) (sd : Int32) (lea kee own im ren mv : Nat → Int32) (i : Int32) : Nat → Int32 := if (X6_renamable_v pts lns) = 0 then mv else (if i < 0 then mv else (if i < (nI lns) then (X1_study_c73 sd pts lns msk lea kee own im ren mv) else mv))
set_option maxRecDepth 100000 in
set_option maxHeartbeats 4000000 in
theorem c_X6_canonical_2 (G : zG) (ex : Bool) (g : Nat → va_E) (pts lns ltr : Nat) (inw : Int32) (ont : Nat) (msk : Nat → Int32) (sd : Int32) (lea kee own im ren mv ch cnt : Nat → Int32) (i : Int32) (hp : pts ≤ 10) (hl : lns ≤ 12) (hpl : 1 ≤ lns → 2 ≤ pts) (h0 : g 0 = (oCfg G 2 19 (nI ont))) (h2 : g 2 = (oTxt G 2 (nI pts) (nI lns) (nI ltr) inw)) (h18 : g 18 = (zI G 12 msk)) (h67 : g 67 = (oFrm G sd)) (h68 : g 68 = (zI G 12 lea)) (h69 : g 69 = (zI G 13 kee)) (h70 : g 70 = (zI G 12 own)) (h71 : g 71 = (zI G 12 im)) (h72 : g 72 = (zI G 7 ren)) (h73 : g 73 = (zI G 7 mv)) (h74 : g 74 = (zI G 4 ch)) (h75 : g 75 = (zI G 35 cnt)) : zC G yX6_canonical wsX6_canonical (zrm 3 88) ex [.ref (zB G + 0), .int i] (zN, g) (fun r h => r = some (.int (X6_canonical_v pts lns msk sd lea kee own im ren mv i)) ∧ h = (zN, zus g [(67, (oFrm G (X6_canonical_p67_0 pts lns sd i))), (68, zI G 12 (X6_canonical_c68 pts lns msk sd lea kee own im ren mv i)), (69, zI G 13 (X6_canonical_c69 pts lns msk sd lea kee own im ren mv i)), (70, zI G 12 (X6_canonical_c70 pts lns msk sd own i)), (71, zI G 12 (X6_canonical_c71 pts lns msk sd lea kee own im ren mv i)), (72, zI G 7 (X6_canonical_c72 pts lns msk sd lea kee own im ren mv i)), (73, zI G 7 (X6_canonical_c73 pts lns msk sd lea kee own im ren mv i))])) := by
  refine zC_of mX6_canonical (lv := [some (.ref (zB G + 0)), some (.int i)]) rfl rfl (by decide) (by intro v hv; simp at hv; rcases hv with rfl | rfl <;> rfl) (Nat.le_of_ble_eq_true rfl) rfl ?_
  refine z_0 ?_
  refine z_heap (g' := zu (zus g []) 67 (oFrm G sd)) (zu_self (zus g []) 67 _ h67).symm ?_
  refine z_n (L' := [(67, (oFrm G sd))]) rfl ?_
  refine z_heap (g' := zu (zus g [(67, (oFrm G sd))]) 68 (zI G 12 lea)) (zu_self (zus g [(67, (oFrm G sd))]) 68 _ h68).symm ?_
  refine z_n (L' := [(67, (oFrm G sd)), (68, (zI G 12 lea))]) rfl ?_
  refine z_heap (g' := zu (zus g [(67, (oFrm G sd)), (68, (zI G 12 lea))]) 69 (zI G 13 kee)) (zu_self (zus g [(67, (oFrm G sd)), (68, (zI G 12 lea))]) 69 _ h69).symm ?_
  refine z_n (L' := [(67, (oFrm G sd)), (68, (zI G 12 lea)), (69, (zI G 13 kee))]) rfl ?_
  refine z_heap (g' := zu (zus g [(67, (oFrm G sd)), (68, (zI G 12 lea)), (69, (zI G 13 kee))]) 70 (zI G 12 own)) (zu_self (zus g [(67, (oFrm G sd)), (68, (zI G 12 lea)), (69, (zI G 13 kee))]) 70 _ h70).symm ?_
  refine z_n (L' := [(67, (oFrm G sd)), (68, (zI G 12 lea)), (69, (zI G 13 kee)), (70, (zI G 12 own))]) rfl ?_
  refine z_heap (g' := zu (zus g [(67, (oFrm G sd)), (68, (zI G 12 lea)), (69, (zI G 13 kee)), (70, (zI G 12 own))]) 71 (zI G 12 im)) (zu_self (zus g [(67, (oFrm G sd)), (68, (zI G 12 lea)), (69, (zI G 13 kee)), (70, (zI G 12 own))]) 71 _ h71).symm ?_
  refine z_n (L' := [(67, (oFrm G sd)), (68, (zI G 12 lea)), (69, (zI G 13 kee)), (70, (zI G 12 own)), (71, (zI G 12 im))]) rfl ?_
  refine z_heap (g' := zu (zus g [(67, (oFrm G sd)), (68, (zI G 12 lea)), (69, (zI G 13 kee)), (70, (zI G 12 own)), (71, (zI G 12 im))]) 72 (zI G 7 ren)) (zu_self (zus g [(67, (oFrm G sd)), (68, (zI G 12 lea)), (69, (zI G 13 kee)), (70, (zI G 12 own)), (71, (zI G 12 im))]) 72 _ h72).symm ?_
  refine z_n (L' := [(67, (oFrm G sd)), (68, (zI G 12 lea)), (69, (zI G 13 kee)), (70, (zI G 12 own)), (71, (zI G 12 im)), (72, (zI G 7 ren))]) rfl ?_
  refine z_heap (g' := zu (zus g [(67, (oFrm G sd)), (68, (zI G 12 lea)), (69, (zI G 13 kee)), (70, (zI G 12 own)), (71, (zI G 12 im)), (72, (zI G 7 ren))]) 73 (zI G 7 mv)) (zu_self (zus g [(67, (oFrm G sd)), (68, (zI G 12 lea)), (69, (zI G 13 kee)), (70, (zI G 12 own)), (71, (zI G 12 im)), (72, (zI G 7 ren))]) 73 _ h73).symm ?_
  refine z_n (L' := [(67, (oFrm G sd)), (68, (zI G 12 lea)), (69, (zI G 13 kee)), (70, (zI G 12 own)), (71, (zI G 12 im)), (72, (zI G 7 ren)), (73, (zI G 7 mv))]) rfl ?_
  refine z_aload_n dX6_canonical_0 rfl rfl ?_
  refine z_callVi (c_X6_renamable_2 G ex _ pts lns ltr inw ont h0 h2) gX6_canonical_X6_renamable rfl dX6_canonical_1 rfl rfl rfl okk_X6_renamable (Nat.le_of_ble_eq_true rfl) h0 rfl ⟨Nat.le_of_ble_eq_true rfl, Nat.le_of_ble_eq_true rfl⟩ ⟨Nat.le_of_ble_eq_true rfl, Nat.le_of_ble_eq_true rfl⟩ (Nat.le_of_ble_eq_true rfl) ?_
  refine z_if_ne (tgt := 10) dX6_canonical_4 rfl (by decide) (fun c4 => ?_) (fun c4 => ?_)
  · refine z_iload_n dX6_canonical_10 rfl rfl ?_
    refine z_if_lt (tgt := 25) dX6_canonical_11 rfl (by decide) (fun c11 => ?_) (fun c11 => ?_)
    · refine z_bipush (v := (-4)) dX6_canonical_25 rfl (by decide) ?_
      exact z_ireturn dX6_canonical_27 rfl rfl (Nat.le_refl _) (Nat.le_refl _) (fun _ => rfl) ⟨by simp only [X6_canonical_v, if_neg c4, if_pos c11], by simp only [X6_canonical_p67_0, X6_canonical_c68, X6_canonical_c69, X6_canonical_c70, X6_canonical_c71, X6_canonical_c72, X6_canonical_c73, if_neg c4, if_pos c11]⟩
    · refine z_iload_n dX6_canonical_14 rfl rfl ?_
      refine z_aload_n dX6_canonical_15 rfl rfl ?_
      refine z_get dX6_canonical_16 rfl hiX6_canonical_X6 2 lkX6_canonical_20 (Nat.le_of_ble_eq_true rfl) h0 rfl (by decide) rfl ?_
      refine z_get dX6_canonical_19 rfl hiX6_canonical_X4 1 lkX6_canonical_76 (Nat.le_of_ble_eq_true rfl) h2 rfl (by decide) rfl ?_
      refine z_icmp_lt (tgt := 28) dX6_canonical_22 rfl (by decide) (fun c22 => ?_) (fun c22 => ?_)
      · obtain ⟨hp7, hl1⟩ := renamable_in c4 hp hl
        have hvi : vp_in i lns := zlt_in c11 (Int32.not_le.mpr c22) (by omega)
        have hli := zvlt hvi
        have hp2 := hpl hl1
        refine z_lv (congrArg (fun z9 : Int32 => ([some (.ref (zB G + 0)), some (.int z9)] : List (Option Value))) (show i = (nI i.toNatClampNeg) from zvin hvi)) ?_
        refine z_aload_n dX6_canonical_28 rfl rfl ?_
        refine z_get dX6_canonical_29 rfl hiX6_canonical_X6 7 lkX6_canonical_53 (Nat.le_of_ble_eq_true rfl) h0 rfl (by decide) rfl ?_
        refine z_aload_n dX6_canonical_32 rfl rfl ?_
        refine z_get dX6_canonical_33 rfl hiX6_canonical_X6 2 lkX6_canonical_20 (Nat.le_of_ble_eq_true rfl) h0 rfl (by decide) rfl ?_
        refine z_callVv (c_X1_study_2 G ex _ sd pts lns (nI ltr) inw msk lea kee own im ren mv (by omega) (by omega) (by omega) rfl h2 h18 rfl rfl rfl rfl rfl rfl) gX6_canonical_X1_study rfl dX6_canonical_36 rfl rfl rfl okk_X1_study (Nat.le_of_ble_eq_true rfl) rfl rfl ⟨Nat.le_of_ble_eq_true rfl, Nat.le_of_ble_eq_true rfl⟩ ⟨Nat.le_of_ble_eq_true rfl, Nat.le_of_ble_eq_true rfl⟩ (Nat.le_of_ble_eq_true rfl) ?_
        refine z_nn (L' := [(67, (oFrm G (X1_study_p67_0 sd))), (68, (zI G 12 (X1_study_c68 sd pts lns msk lea kee own im ren mv))), (69, (zI G 13 (X1_study_c69 sd pts lns msk lea kee own im ren mv))), (70, (zI G 12 (X1_study_c70 sd lns msk own))), (71, (zI G 12 (X1_study_c71 sd pts lns msk lea kee own im ren mv))), (72, (zI G 7 (X1_study_c72 sd pts lns msk lea kee own im ren mv))), (73, (zI G 7 (X1_study_c73 sd pts lns msk lea kee own im ren mv)))]) rfl ?_
        refine z_aload_n dX6_canonical_39 rfl rfl ?_
        refine z_get dX6_canonical_40 rfl hiX6_canonical_X6 7 lkX6_canonical_53 (Nat.le_of_ble_eq_true rfl) h0 rfl (by decide) rfl ?_
        refine z_get dX6_canonical_43 rfl hiX6_canonical_X1 0 lkX6_canonical_208 (Nat.le_of_ble_eq_true rfl) rfl rfl (by decide) rfl ?_
        refine z_iload_n dX6_canonical_46 rfl rfl ?_
        refine z_ialdN (j := i.toNatClampNeg) dX6_canonical_47 rfl (Nat.le_of_ble_eq_true rfl) rfl (rfl) (by omega) (by decide) ?_
        exact z_ireturn dX6_canonical_48 rfl rfl (Nat.le_refl _) (Nat.le_refl _) (fun _ => rfl) ⟨by simp only [X6_canonical_v, if_neg c4, if_neg c11, if_pos c22], by simp only [X6_canonical_p67_0, X6_canonical_c68, X6_canonical_c69, X6_canonical_c70, X6_canonical_c71, X6_canonical_c72, X6_canonical_c73, if_neg c4, if_neg c11, if_pos c22]⟩
      · refine z_bipush (v := (-4)) dX6_canonical_25 rfl (by decide) ?_
        exact z_ireturn dX6_canonical_27 rfl rfl (Nat.le_refl _) (Nat.le_refl _) (fun _ => rfl) ⟨by simp only [X6_canonical_v, if_neg c4, if_neg c11, if_neg c22], by simp only [X6_canonical_p67_0, X6_canonical_c68, X6_canonical_c69, X6_canonical_c70, X6_canonical_c71, X6_canonical_c72, X6_canonical_c73, if_neg c4, if_neg c11, if_neg c22]⟩
  · refine z_bipush (v := (-2)) dX6_canonical_7 rfl (by decide) ?_
    exact z_ireturn dX6_canonical_9 rfl rfl (Nat.le_refl _) (Nat.le_refl _) (fun _ => rfl) ⟨by simp only [X6_canonical_v, if_pos c4], by simp only [X6_canonical_p67_0, X6_canonical_c68, X6_canonical_c69, X6_canonical_c70, X6_canonical_c71, X6_canonical_c72, X6_canonical_c73, if_pos c4]⟩
abbrev mX6_orbit : zM := (cX6_orbit, 2, (some .int), RX6, wsX6_orbit, "orbit")
theorem hiX6_orbit_X6 : ∀ w ∈ wsX60, w ∈ wsX6_orbit := fun w h => List.mem_cons_of_mem _ (List.mem_append_left _ (List.mem_append_left _ (List.mem_append_right _ h)))
theorem lkX6_orbit_53 : Cond.fieldLink RX6 53 "ConfigSearch" "forms" "LConfigSearch$Forms;" ∈ wsX6_orbit := by decide +kernel
theorem lkX6_orbit_20 : Cond.fieldLink RX6 20 "ConfigSearch" "text" "LConfigSearch$Text;" ∈ wsX6_orbit := by decide +kernel
theorem hiX6_orbit_X1 : ∀ w ∈ wsX10, w ∈ wsX6_orbit := fun w h => List.mem_cons_of_mem _ (List.mem_append_left _ (List.mem_append_right _ h))
theorem lkX6_orbit_211 : Cond.fieldLink RX6 211 "ConfigSearch$Forms" "keeping" "[I" ∈ wsX6_orbit := by decide +kernel
def X6_orbit_v (pts lns : Nat) (msk : Nat → Int32) (sd : Int32) (lea kee own im ren mv : Nat → Int32) (i : Int32) : Int32 := if 0 ≤ i then (if (X6_renamable_v pts lns) = 0 then (-2) else (if i ≤ (nI 12) then ((X1_study_c69 sd pts lns msk lea kee own im ren mv) i.toNatClampNeg) else (nI 0))) else (-9)
def X6_orbit_p67_0 (pts lns : Nat) (sd : Int32) (i : Int32) : Int32 := if 0 ≤ i then (if (X6_renamable_v pts lns) = 0 then sd else (if i ≤ (nI 12) then (X1_study_p67_0 sd) else sd)) else sd
def X6_orbit_c68 (pts lns : Nat) (msk : Nat → Int32) (sd : Int32) (lea kee own im ren mv : Nat → Int32) (i : Int32) : Nat → Int32 := if 0 ≤ i then (if (X6_renamable_v pts lns) = 0 then lea else (if i ≤ (nI 12) then (X1_study_c68 sd pts lns msk lea kee own im ren mv) else lea)) else lea
def X6_orbit_c69 (pts lns : Nat) (msk : Nat → Int32) (sd : Int32) (lea kee own im ren mv : Nat → Int32) (i : Int32) : Nat → Int32 := if 0 ≤ i then (if (X6_renamable_v pts lns) = 0 then kee else (if i ≤ (nI 12) then (X1_study_c69 sd pts lns msk lea kee own im ren mv) else kee)) else kee
def X6_orbit_c70 (pts lns : Nat) (msk : Nat → Int32) (sd : Int32) (own : Nat → Int32) (i : Int32) : Nat → Int32 := if 0 ≤ i then (if (X6_renamable_v pts lns) = 0 then own else (if i ≤ (nI 12) then (X1_study_c70 sd lns msk own) else own)) else own
def X6_orbit_c71 (pts lns : Nat) (msk : Nat → Int32) (sd : Int32) (lea kee own im ren mv : Nat → Int32) (i : Int32) : Nat → Int32 := if 0 ≤ i then (if (X6_renamable_v pts lns) = 0 then im else (if i ≤ (nI 12) then (X1_study_c71 sd pts lns msk lea kee own im ren mv) else im)) else im
def X6_orbit_c72 (pts lns : Nat) (msk : Nat → Int32) (sd : Int32) (lea kee own im ren mv : Nat → Int32) (i : Int32) : Nat → Int32 := if 0 ≤ i then (if (X6_renamable_v pts lns) = 0 then ren else (if i ≤ (nI 12) then (X1_study_c72 sd pts lns msk lea kee own im ren mv) else ren)) else ren
def X6_orbit_c73 (pts lns : Nat) (msk : Nat → Int32) (sd : Int32) (lea kee own im ren mv : Nat → Int32) (i : Int32) : Nat → Int32 := if 0 ≤ i then (if (X6_renamable_v pts lns) = 0 then mv else (if i ≤ (nI 12) then (X1_study_c73 sd pts lns msk lea kee own im ren mv) else mv)) else mv
set_option maxRecDepth 100000 in
set_option maxHeartbeats 4000000 in
theorem c_X6_orbit_2 (G : zG) (ex : Bool) (g : Nat → va_E) (pts lns ltr : Nat) (inw : Int32) (ont : Nat) (msk : Nat → Int32) (sd : Int32) (lea kee own im ren mv ch cnt : Nat → Int32) (i : Int32) (hp : pts ≤ 10) (hl : lns ≤ 12) (hpl : 1 ≤ lns → 2 ≤ pts) (h0 : g 0 = (oCfg G 2 19 (nI ont))) (h2 : g 2 = (oTxt G 2 (nI pts) (nI lns) (nI ltr) inw)) (h18 : g 18 = (zI G 12 msk)) (h67 : g 67 = (oFrm G sd)) (h68 : g 68 = (zI G 12 lea)) (h69 : g 69 = (zI G 13 kee)) (h70 : g 70 = (zI G 12 own)) (h71 : g 71 = (zI G 12 im)) (h72 : g 72 = (zI G 7 ren)) (h73 : g 73 = (zI G 7 mv)) (h74 : g 74 = (zI G 4 ch)) (h75 : g 75 = (zI G 35 cnt)) : zC G yX6_orbit wsX6_orbit (zrm 3 88) ex [.ref (zB G + 0), .int i] (zN, g) (fun r h => r = some (.int (X6_orbit_v pts lns msk sd lea kee own im ren mv i)) ∧ h = (zN, zus g [(67, (oFrm G (X6_orbit_p67_0 pts lns sd i))), (68, zI G 12 (X6_orbit_c68 pts lns msk sd lea kee own im ren mv i)), (69, zI G 13 (X6_orbit_c69 pts lns msk sd lea kee own im ren mv i)), (70, zI G 12 (X6_orbit_c70 pts lns msk sd own i)), (71, zI G 12 (X6_orbit_c71 pts lns msk sd lea kee own im ren mv i)), (72, zI G 7 (X6_orbit_c72 pts lns msk sd lea kee own im ren mv i)), (73, zI G 7 (X6_orbit_c73 pts lns msk sd lea kee own im ren mv i))])) := by
  refine zC_of mX6_orbit (lv := [some (.ref (zB G + 0)), some (.int i)]) rfl rfl (by decide) (by intro v hv; simp at hv; rcases hv with rfl | rfl <;> rfl) (Nat.le_of_ble_eq_true rfl) rfl ?_
  refine z_0 ?_
  refine z_heap (g' := zu (zus g []) 67 (oFrm G sd)) (zu_self (zus g []) 67 _ h67).symm ?_
  refine z_n (L' := [(67, (oFrm G sd))]) rfl ?_
  refine z_heap (g' := zu (zus g [(67, (oFrm G sd))]) 68 (zI G 12 lea)) (zu_self (zus g [(67, (oFrm G sd))]) 68 _ h68).symm ?_
  refine z_n (L' := [(67, (oFrm G sd)), (68, (zI G 12 lea))]) rfl ?_
  refine z_heap (g' := zu (zus g [(67, (oFrm G sd)), (68, (zI G 12 lea))]) 69 (zI G 13 kee)) (zu_self (zus g [(67, (oFrm G sd)), (68, (zI G 12 lea))]) 69 _ h69).symm ?_
  refine z_n (L' := [(67, (oFrm G sd)), (68, (zI G 12 lea)), (69, (zI G 13 kee))]) rfl ?_
  refine z_heap (g' := zu (zus g [(67, (oFrm G sd)), (68, (zI G 12 lea)), (69, (zI G 13 kee))]) 70 (zI G 12 own)) (zu_self (zus g [(67, (oFrm G sd)), (68, (zI G 12 lea)), (69, (zI G 13 kee))]) 70 _ h70).symm ?_
  refine z_n (L' := [(67, (oFrm G sd)), (68, (zI G 12 lea)), (69, (zI G 13 kee)), (70, (zI G 12 own))]) rfl ?_
  refine z_heap (g' := zu (zus g [(67, (oFrm G sd)), (68, (zI G 12 lea)), (69, (zI G 13 kee)), (70, (zI G 12 own))]) 71 (zI G 12 im)) (zu_self (zus g [(67, (oFrm G sd)), (68, (zI G 12 lea)), (69, (zI G 13 kee)), (70, (zI G 12 own))]) 71 _ h71).symm ?_
  refine z_n (L' := [(67, (oFrm G sd)), (68, (zI G 12 lea)), (69, (zI G 13 kee)), (70, (zI G 12 own)), (71, (zI G 12 im))]) rfl ?_
  refine z_heap (g' := zu (zus g [(67, (oFrm G sd)), (68, (zI G 12 lea)), (69, (zI G 13 kee)), (70, (zI G 12 own)), (71, (zI G 12 im))]) 72 (zI G 7 ren)) (zu_self (zus g [(67, (oFrm G sd)), (68, (zI G 12 lea)), (69, (zI G 13 kee)), (70, (zI G 12 own)), (71, (zI G 12 im))]) 72 _ h72).symm ?_
  refine z_n (L' := [(67, (oFrm G sd)), (68, (zI G 12 lea)), (69, (zI G 13 kee)), (70, (zI G 12 own)), (71, (zI G 12 im)), (72, (zI G 7 ren))]) rfl ?_
  refine z_heap (g' := zu (zus g [(67, (oFrm G sd)), (68, (zI G 12 lea)), (69, (zI G 13 kee)), (70, (zI G 12 own)), (71, (zI G 12 im)), (72, (zI G 7 ren))]) 73 (zI G 7 mv)) (zu_self (zus g [(67, (oFrm G sd)), (68, (zI G 12 lea)), (69, (zI G 13 kee)), (70, (zI G 12 own)), (71, (zI G 12 im)), (72, (zI G 7 ren))]) 73 _ h73).symm ?_
  refine z_n (L' := [(67, (oFrm G sd)), (68, (zI G 12 lea)), (69, (zI G 13 kee)), (70, (zI G 12 own)), (71, (zI G 12 im)), (72, (zI G 7 ren)), (73, (zI G 7 mv))]) rfl ?_
  refine z_iload_n dX6_orbit_0 rfl rfl ?_
  refine z_if_ge (tgt := 7) dX6_orbit_1 rfl (by decide) (fun c1 => ?_) (fun c1 => ?_)
  · refine z_aload_n dX6_orbit_7 rfl rfl ?_
    refine z_callVi (c_X6_renamable_2 G ex _ pts lns ltr inw ont h0 h2) gX6_orbit_X6_renamable rfl dX6_orbit_8 rfl rfl rfl okk_X6_renamable (Nat.le_of_ble_eq_true rfl) h0 rfl ⟨Nat.le_of_ble_eq_true rfl, Nat.le_of_ble_eq_true rfl⟩ ⟨Nat.le_of_ble_eq_true rfl, Nat.le_of_ble_eq_true rfl⟩ (Nat.le_of_ble_eq_true rfl) ?_
    refine z_if_ne (tgt := 17) dX6_orbit_11 rfl (by decide) (fun c11 => ?_) (fun c11 => ?_)
    · refine z_iload_n dX6_orbit_17 rfl rfl ?_
      refine z_bipush (v := nI 12) dX6_orbit_18 rfl (by decide) ?_
      refine z_icmp_le (tgt := 25) dX6_orbit_20 rfl (by decide) (fun c20 => ?_) (fun c20 => ?_)
      · obtain ⟨hp7, hl1⟩ := renamable_in c11 hp hl
        have hvi : vp_in i 13 := zle_in (Int32.not_lt.mpr c1) c20 (by decide)
        have hli := zvlt hvi
        have hp2 := hpl hl1
        refine z_lv (congrArg (fun z9 : Int32 => ([some (.ref (zB G + 0)), some (.int z9)] : List (Option Value))) (show i = (nI i.toNatClampNeg) from zvin hvi)) ?_
        refine z_aload_n dX6_orbit_25 rfl rfl ?_
        refine z_get dX6_orbit_26 rfl hiX6_orbit_X6 7 lkX6_orbit_53 (Nat.le_of_ble_eq_true rfl) h0 rfl (by decide) rfl ?_
        refine z_aload_n dX6_orbit_29 rfl rfl ?_
        refine z_get dX6_orbit_30 rfl hiX6_orbit_X6 2 lkX6_orbit_20 (Nat.le_of_ble_eq_true rfl) h0 rfl (by decide) rfl ?_
        refine z_callVv (c_X1_study_2 G ex _ sd pts lns (nI ltr) inw msk lea kee own im ren mv (by omega) (by omega) (by omega) rfl h2 h18 rfl rfl rfl rfl rfl rfl) gX6_orbit_X1_study rfl dX6_orbit_33 rfl rfl rfl okk_X1_study (Nat.le_of_ble_eq_true rfl) rfl rfl ⟨Nat.le_of_ble_eq_true rfl, Nat.le_of_ble_eq_true rfl⟩ ⟨Nat.le_of_ble_eq_true rfl, Nat.le_of_ble_eq_true rfl⟩ (Nat.le_of_ble_eq_true rfl) ?_
        refine z_nn (L' := [(67, (oFrm G (X1_study_p67_0 sd))), (68, (zI G 12 (X1_study_c68 sd pts lns msk lea kee own im ren mv))), (69, (zI G 13 (X1_study_c69 sd pts lns msk lea kee own im ren mv))), (70, (zI G 12 (X1_study_c70 sd lns msk own))), (71, (zI G 12 (X1_study_c71 sd pts lns msk lea kee own im ren mv))), (72, (zI G 7 (X1_study_c72 sd pts lns msk lea kee own im ren mv))), (73, (zI G 7 (X1_study_c73 sd pts lns msk lea kee own im ren mv)))]) rfl ?_
        refine z_aload_n dX6_orbit_36 rfl rfl ?_
        refine z_get dX6_orbit_37 rfl hiX6_orbit_X6 7 lkX6_orbit_53 (Nat.le_of_ble_eq_true rfl) h0 rfl (by decide) rfl ?_
        refine z_get dX6_orbit_40 rfl hiX6_orbit_X1 1 lkX6_orbit_211 (Nat.le_of_ble_eq_true rfl) rfl rfl (by decide) rfl ?_
        refine z_iload_n dX6_orbit_43 rfl rfl ?_
        refine z_ialdN (j := i.toNatClampNeg) dX6_orbit_44 rfl (Nat.le_of_ble_eq_true rfl) rfl (rfl) (by omega) (by decide) ?_
        exact z_ireturn dX6_orbit_45 rfl rfl (Nat.le_refl _) (Nat.le_refl _) (fun _ => rfl) ⟨by simp only [X6_orbit_v, if_pos c1, if_neg c11, if_pos c20], by simp only [X6_orbit_p67_0, X6_orbit_c68, X6_orbit_c69, X6_orbit_c70, X6_orbit_c71, X6_orbit_c72, X6_orbit_c73, if_pos c1, if_neg c11, if_pos c20]⟩
      · refine z_iconst (v := nI 0) dX6_orbit_23 rfl (by decide) ?_
        exact z_ireturn dX6_orbit_24 rfl rfl (Nat.le_refl _) (Nat.le_refl _) (fun _ => rfl) ⟨by simp only [X6_orbit_v, if_pos c1, if_neg c11, if_neg c20], by simp only [X6_orbit_p67_0, X6_orbit_c68, X6_orbit_c69, X6_orbit_c70, X6_orbit_c71, X6_orbit_c72, X6_orbit_c73, if_pos c1, if_neg c11, if_neg c20]⟩
    · refine z_bipush (v := (-2)) dX6_orbit_14 rfl (by decide) ?_
      exact z_ireturn dX6_orbit_16 rfl rfl (Nat.le_refl _) (Nat.le_refl _) (fun _ => rfl) ⟨by simp only [X6_orbit_v, if_pos c1, if_pos c11], by simp only [X6_orbit_p67_0, X6_orbit_c68, X6_orbit_c69, X6_orbit_c70, X6_orbit_c71, X6_orbit_c72, X6_orbit_c73, if_pos c1, if_pos c11]⟩
  · refine z_bipush (v := (-9)) dX6_orbit_4 rfl (by decide) ?_
    exact z_ireturn dX6_orbit_6 rfl rfl (Nat.le_refl _) (Nat.le_refl _) (fun _ => rfl) ⟨by simp only [X6_orbit_v, if_neg c1], by simp only [X6_orbit_p67_0, X6_orbit_c68, X6_orbit_c69, X6_orbit_c70, X6_orbit_c71, X6_orbit_c72, X6_orbit_c73, if_neg c1]⟩
set_option maxRecDepth 100000 in
set_option maxHeartbeats 4000000 in
theorem c_X6_placeOfBoth_19 (G : zG) (ex : Bool) (g : Nat → va_E) (pts lns ltr : Nat) (inw : Int32) (ont : Nat) (wd : Nat → Nat → Int32) (fnd : Int32) (stp : Nat) (fd psz : Nat) (n0 n1 n2 : Nat → Int32) (plc p1 p2 l1 l2 : Nat → Int32) (a b : Int32) (hl : lns ≤ 12) (hw : ∀ l, l < lns → vp_in (wd l 0) pts ∧ vp_in (wd l 1) pts) (hp : pts ≤ 10) (hpc : ¬ fnd = 0 → ∀ k, k < pts → vp_in (plc k) 183) (hpd : ¬ fd = 0 → fd ≤ 13) (h0 : g 0 = (oCfg G 19 2 (nI ont))) (h19 : g 19 = (oTxt G 19 (nI pts) (nI lns) (nI ltr) inw)) (h22 : g 22 = (zR G 12 (zrw G 12 23))) (h23 : ∀ l9, l9 < 12 → g (23 + l9) = zI G 5 (wd l9)) (h40 : g 40 = (oSch G fnd (nI stp))) (h41 : g 41 = (oPln G (nI fd) (nI psz))) (h42 : g 42 = (zR G 3 (zrw G 3 43))) (h43 : g 43 = (zI G 183 n0)) (h44 : g 44 = (zI G 183 n1)) (h45 : g 45 = (zI G 183 n2)) (h46 : g 46 = (zI G 10 plc)) (h55 : g 55 = (zI G 3 p1)) (h56 : g 56 = (zI G 3 p2)) (h57 : g 57 = (zI G 3 l1)) (h58 : g 58 = (zI G 3 l2)) : zC G yX6_placeOfBoth wsX6_placeOfBoth (zrm 5 111) ex [.ref (zB G + 0), .int a, .int b] (zN, g) (fun r h => r = some (.int (X6_placeOfBoth_v lns wd fnd fd n0 n1 n2 plc p1 p2 l1 l2 a b)) ∧ h = (zN, zus g [(55, zI G 3 (X6_placeOfBoth_c55 lns wd fnd fd n0 n1 n2 plc p1 p2 l1 l2 a b)), (56, zI G 3 (X6_placeOfBoth_c56 lns wd fnd fd n0 n1 n2 plc p2 a b)), (57, zI G 3 (X6_placeOfBoth_c57 lns wd fnd fd n0 n1 n2 plc p1 p2 l1 a b)), (58, zI G 3 (X6_placeOfBoth_c58 lns wd fnd fd n0 n1 n2 plc p1 p2 l2 a b))])) := by
  refine zC_of mX6_placeOfBoth (lv := [some (.ref (zB G + 0)), some (.int a), some (.int b)]) rfl rfl (by decide) (by intro v hv; simp at hv; rcases hv with rfl | rfl | rfl <;> rfl) (Nat.le_of_ble_eq_true rfl) rfl ?_
  refine z_0 ?_
  refine z_heap (g' := zu (zus g []) 55 (zI G 3 p1)) (zu_self (zus g []) 55 _ h55).symm ?_
  refine z_n (L' := [(55, (zI G 3 p1))]) rfl ?_
  refine z_heap (g' := zu (zus g [(55, (zI G 3 p1))]) 56 (zI G 3 p2)) (zu_self (zus g [(55, (zI G 3 p1))]) 56 _ h56).symm ?_
  refine z_n (L' := [(55, (zI G 3 p1)), (56, (zI G 3 p2))]) rfl ?_
  refine z_heap (g' := zu (zus g [(55, (zI G 3 p1)), (56, (zI G 3 p2))]) 57 (zI G 3 l1)) (zu_self (zus g [(55, (zI G 3 p1)), (56, (zI G 3 p2))]) 57 _ h57).symm ?_
  refine z_n (L' := [(55, (zI G 3 p1)), (56, (zI G 3 p2)), (57, (zI G 3 l1))]) rfl ?_
  refine z_heap (g' := zu (zus g [(55, (zI G 3 p1)), (56, (zI G 3 p2)), (57, (zI G 3 l1))]) 58 (zI G 3 l2)) (zu_self (zus g [(55, (zI G 3 p1)), (56, (zI G 3 p2)), (57, (zI G 3 l1))]) 58 _ h58).symm ?_
  refine z_n (L' := [(55, (zI G 3 p1)), (56, (zI G 3 p2)), (57, (zI G 3 l1)), (58, (zI G 3 l2))]) rfl ?_
  refine z_aload_n dX6_placeOfBoth_0 rfl rfl ?_
  refine z_get dX6_placeOfBoth_1 rfl hiX6_placeOfBoth_X6 2 lkX6_placeOfBoth_20 (Nat.le_of_ble_eq_true rfl) h0 rfl (by decide) rfl ?_
  refine z_iload_n dX6_placeOfBoth_4 rfl rfl ?_
  refine z_callVi (c_X4_hasLine_19 G ex _ pts lns ltr inw a h19) gX6_placeOfBoth_X4_hasLine rfl dX6_placeOfBoth_5 rfl rfl rfl okk_X4_hasLine (Nat.le_of_ble_eq_true rfl) h19 rfl ⟨Nat.le_of_ble_eq_true rfl, Nat.le_of_ble_eq_true rfl⟩ ⟨Nat.le_of_ble_eq_true rfl, Nat.le_of_ble_eq_true rfl⟩ (Nat.le_of_ble_eq_true rfl) ?_
  refine z_if_eq (tgt := 27) dX6_placeOfBoth_8 rfl (by decide) (fun c8 => ?_) (fun c8 => ?_)
  · refine z_bipush (v := (-9)) dX6_placeOfBoth_27 rfl (by decide) ?_
    exact z_ireturn dX6_placeOfBoth_29 rfl rfl (Nat.le_refl _) (Nat.le_refl _) (fun _ => rfl) ⟨by simp only [X6_placeOfBoth_v, if_pos c8], by simp only [X6_placeOfBoth_c55, X6_placeOfBoth_c56, X6_placeOfBoth_c57, X6_placeOfBoth_c58, if_pos c8]⟩
  · refine z_aload_n dX6_placeOfBoth_11 rfl rfl ?_
    refine z_get dX6_placeOfBoth_12 rfl hiX6_placeOfBoth_X6 2 lkX6_placeOfBoth_20 (Nat.le_of_ble_eq_true rfl) h0 rfl (by decide) rfl ?_
    refine z_iload_n dX6_placeOfBoth_15 rfl rfl ?_
    refine z_callVi (c_X4_hasLine_19 G ex _ pts lns ltr inw b h19) gX6_placeOfBoth_X4_hasLine rfl dX6_placeOfBoth_16 rfl rfl rfl okk_X4_hasLine (Nat.le_of_ble_eq_true rfl) h19 rfl ⟨Nat.le_of_ble_eq_true rfl, Nat.le_of_ble_eq_true rfl⟩ ⟨Nat.le_of_ble_eq_true rfl, Nat.le_of_ble_eq_true rfl⟩ (Nat.le_of_ble_eq_true rfl) ?_
    refine z_if_eq (tgt := 27) dX6_placeOfBoth_19 rfl (by decide) (fun c19 => ?_) (fun c19 => ?_)
    · refine z_bipush (v := (-9)) dX6_placeOfBoth_27 rfl (by decide) ?_
      exact z_ireturn dX6_placeOfBoth_29 rfl rfl (Nat.le_refl _) (Nat.le_refl _) (fun _ => rfl) ⟨by simp only [X6_placeOfBoth_v, if_neg c8, if_pos c19], by simp only [X6_placeOfBoth_c55, X6_placeOfBoth_c56, X6_placeOfBoth_c57, X6_placeOfBoth_c58, if_neg c8, if_pos c19]⟩
    · refine z_iload_n dX6_placeOfBoth_22 rfl rfl ?_
      refine z_iload_n dX6_placeOfBoth_23 rfl rfl ?_
      refine z_icmp_ne (tgt := 30) dX6_placeOfBoth_24 rfl (by decide) (fun c24 => ?_) (fun c24 => ?_)
      · refine z_aload_n dX6_placeOfBoth_30 rfl rfl ?_
        refine z_get dX6_placeOfBoth_31 rfl hiX6_placeOfBoth_X6 5 lkX6_placeOfBoth_39 (Nat.le_of_ble_eq_true rfl) h0 rfl (by decide) rfl ?_
        refine z_get dX6_placeOfBoth_34 rfl hiX6_placeOfBoth_X3 1 lkX6_placeOfBoth_143 (Nat.le_of_ble_eq_true rfl) h40 rfl (by decide) rfl ?_
        refine z_if_eq (tgt := 53) dX6_placeOfBoth_37 rfl (by decide) (fun c37 => ?_) (fun c37 => ?_)
        · refine z_bipush (v := (-2)) dX6_placeOfBoth_53 rfl (by decide) ?_
          exact z_ireturn dX6_placeOfBoth_55 rfl rfl (Nat.le_refl _) (Nat.le_refl _) (fun _ => rfl) ⟨by simp only [X6_placeOfBoth_v, if_neg c8, if_neg c19, if_neg c24, if_pos c37], by simp only [X6_placeOfBoth_c55, X6_placeOfBoth_c56, X6_placeOfBoth_c57, X6_placeOfBoth_c58, if_neg c8, if_neg c19, if_neg c24, if_pos c37]⟩
        · refine z_aload_n dX6_placeOfBoth_40 rfl rfl ?_
          refine z_get dX6_placeOfBoth_41 rfl hiX6_placeOfBoth_X6 5 lkX6_placeOfBoth_39 (Nat.le_of_ble_eq_true rfl) h0 rfl (by decide) rfl ?_
          refine z_get dX6_placeOfBoth_44 rfl hiX6_placeOfBoth_X3 0 lkX6_placeOfBoth_214 (Nat.le_of_ble_eq_true rfl) h40 rfl (by decide) rfl ?_
          refine z_get dX6_placeOfBoth_47 rfl hiX6_placeOfBoth_X2 0 lkX6_placeOfBoth_218 (Nat.le_of_ble_eq_true rfl) h41 rfl (by decide) rfl ?_
          refine z_if_ne (tgt := 56) dX6_placeOfBoth_50 rfl (by decide) (fun c50 => ?_) (fun c50 => ?_)
          · have hva : vp_in a lns := hasLine_in c8 hl
            have hvb : vp_in b lns := hasLine_in c19 hl
            have hla := zvlt hva
            have hlb := zvlt hvb
            have hfd := hpd (fun q => c50 (by rw [q]; rfl))
            refine z_lv (congrArg (fun z9 : Int32 => ([some (.ref (zB G + 0)), some (.int z9), some (.int b)] : List (Option Value))) (show a = (nI a.toNatClampNeg) from zvin hva)) ?_
            refine z_lv (congrArg (fun z9 : Int32 => ([some (.ref (zB G + 0)), some (.int (nI a.toNatClampNeg)), some (.int z9)] : List (Option Value))) (show b = (nI b.toNatClampNeg) from zvin hvb)) ?_
            refine z_aload_n dX6_placeOfBoth_56 rfl rfl ?_
            refine z_get dX6_placeOfBoth_57 rfl hiX6_placeOfBoth_X6 5 lkX6_placeOfBoth_39 (Nat.le_of_ble_eq_true rfl) h0 rfl (by decide) rfl ?_
            refine z_aload_n dX6_placeOfBoth_60 rfl rfl ?_
            refine z_get dX6_placeOfBoth_61 rfl hiX6_placeOfBoth_X6 2 lkX6_placeOfBoth_20 (Nat.le_of_ble_eq_true rfl) h0 rfl (by decide) rfl ?_
            refine z_get dX6_placeOfBoth_64 rfl hiX6_placeOfBoth_X4 5 lkX6_placeOfBoth_101 (Nat.le_of_ble_eq_true rfl) h19 rfl (by decide) rfl ?_
            refine z_iload_n dX6_placeOfBoth_67 rfl rfl ?_
            refine z_aaldN (j := a.toNatClampNeg) (a := zB G + (23 + a.toNatClampNeg)) dX6_placeOfBoth_68 rfl (Nat.le_of_ble_eq_true rfl) h22 (rfl) (by omega) (by decide) (zrw_at (by omega)) ?_
            refine z_aload_n dX6_placeOfBoth_69 rfl rfl ?_
            refine z_get dX6_placeOfBoth_70 rfl hiX6_placeOfBoth_X6 2 lkX6_placeOfBoth_20 (Nat.le_of_ble_eq_true rfl) h0 rfl (by decide) rfl ?_
            refine z_get dX6_placeOfBoth_73 rfl hiX6_placeOfBoth_X4 5 lkX6_placeOfBoth_101 (Nat.le_of_ble_eq_true rfl) h19 rfl (by decide) rfl ?_
            refine z_iload_n dX6_placeOfBoth_76 rfl rfl ?_
            refine z_aaldN (j := b.toNatClampNeg) (a := zB G + (23 + b.toNatClampNeg)) dX6_placeOfBoth_77 rfl (Nat.le_of_ble_eq_true rfl) h22 (rfl) (by omega) (by decide) (zrw_at (by omega)) ?_
            refine z_callVi (c_X3_placeOnBoth G ex _ fnd (nI stp) fd psz n0 n1 n2 plc p1 p2 l1 l2 (wd a.toNatClampNeg) (wd b.toNatClampNeg) (23 + a.toNatClampNeg) (23 + b.toNatClampNeg) (zk12 (by omega) (by decide)) (zk12 (by omega) (by decide)) (by omega) (by omega) (Nat.pos_of_ne_zero (fun q => c50 (by rw [q]; rfl))) hfd (vp_mn (hw _ hla).1 hp) (vp_mn (hw _ hla).2 hp) (vp_mn (hw _ hlb).1 hp) (vp_mn (hw _ hlb).2 hp) (hpc c37 _ (zvlt (hw _ hla).1)) (hpc c37 _ (zvlt (hw _ hla).2)) (hpc c37 _ (zvlt (hw _ hlb).1)) (hpc c37 _ (zvlt (hw _ hlb).2)) h40 h41 h42 h43 h44 h45 h46 rfl rfl rfl rfl (zus_out (by intro q hq; simp at hq; omega) (h23 _ (by omega))) (zus_out (by intro q hq; simp at hq; omega) (h23 _ (by omega)))) gX6_placeOfBoth_X3_placeOnBoth rfl dX6_placeOfBoth_78 rfl rfl rfl okk_X3_placeOnBoth (Nat.le_of_ble_eq_true rfl) h40 rfl ⟨Nat.le_of_ble_eq_true rfl, Nat.le_of_ble_eq_true rfl⟩ ⟨Nat.le_of_ble_eq_true rfl, Nat.le_of_ble_eq_true rfl⟩ (Nat.le_of_ble_eq_true rfl) ?_
            refine z_nn (L' := [(55, (zI G 3 (X3_placeOnBoth_c55 fd n0 n1 n2 plc p1 p2 l1 l2 (wd a.toNatClampNeg) (wd b.toNatClampNeg)))), (56, (zI G 3 (X3_placeOnBoth_c56 n0 n1 n2 plc p2 (wd a.toNatClampNeg) (wd b.toNatClampNeg)))), (57, (zI G 3 (X3_placeOnBoth_c57 fd n0 n1 n2 plc p1 p2 l1 (wd a.toNatClampNeg)))), (58, (zI G 3 (X3_placeOnBoth_c58 fd n0 n1 n2 plc p1 p2 l2 (wd a.toNatClampNeg) (wd b.toNatClampNeg))))]) rfl ?_
            exact z_ireturn dX6_placeOfBoth_81 rfl rfl (Nat.le_refl _) (Nat.le_refl _) (fun _ => rfl) ⟨by simp only [X6_placeOfBoth_v, if_neg c8, if_neg c19, if_neg c24, if_neg c37, if_neg c50], by simp only [X6_placeOfBoth_c55, X6_placeOfBoth_c56, X6_placeOfBoth_c57, X6_placeOfBoth_c58, if_neg c8, if_neg c19, if_neg c24, if_neg c37, if_neg c50]⟩
          · refine z_bipush (v := (-2)) dX6_placeOfBoth_53 rfl (by decide) ?_
            exact z_ireturn dX6_placeOfBoth_55 rfl rfl (Nat.le_refl _) (Nat.le_refl _) (fun _ => rfl) ⟨by simp only [X6_placeOfBoth_v, if_neg c8, if_neg c19, if_neg c24, if_neg c37, if_pos c50], by simp only [X6_placeOfBoth_c55, X6_placeOfBoth_c56, X6_placeOfBoth_c57, X6_placeOfBoth_c58, if_neg c8, if_neg c19, if_neg c24, if_neg c37, if_pos c50]⟩
      · refine z_bipush (v := (-9)) dX6_placeOfBoth_27 rfl (by decide) ?_
        exact z_ireturn dX6_placeOfBoth_29 rfl rfl (Nat.le_refl _) (Nat.le_refl _) (fun _ => rfl) ⟨by simp only [X6_placeOfBoth_v, if_neg c8, if_neg c19, if_pos c24], by simp only [X6_placeOfBoth_c55, X6_placeOfBoth_c56, X6_placeOfBoth_c57, X6_placeOfBoth_c58, if_neg c8, if_neg c19, if_pos c24]⟩
set_option maxRecDepth 100000 in
set_option maxHeartbeats 4000000 in
theorem c_X6_meets_19 (G : zG) (ex : Bool) (g : Nat → va_E) (pts lns ltr : Nat) (inw : Int32) (ont : Nat) (wd : Nat → Nat → Int32) (fnd : Int32) (stp : Nat) (fd psz : Nat) (n0 n1 n2 : Nat → Int32) (plc p1 p2 l1 l2 : Nat → Int32) (a b : Int32) (hl : lns ≤ 12) (hw : ∀ l, l < lns → vp_in (wd l 0) pts ∧ vp_in (wd l 1) pts) (hp : pts ≤ 10) (hpc : ¬ fnd = 0 → ∀ k, k < pts → vp_in (plc k) 183) (hpd : ¬ fd = 0 → fd ≤ 13) (h0 : g 0 = (oCfg G 19 2 (nI ont))) (h19 : g 19 = (oTxt G 19 (nI pts) (nI lns) (nI ltr) inw)) (h22 : g 22 = (zR G 12 (zrw G 12 23))) (h23 : ∀ l9, l9 < 12 → g (23 + l9) = zI G 5 (wd l9)) (h40 : g 40 = (oSch G fnd (nI stp))) (h41 : g 41 = (oPln G (nI fd) (nI psz))) (h42 : g 42 = (zR G 3 (zrw G 3 43))) (h43 : g 43 = (zI G 183 n0)) (h44 : g 44 = (zI G 183 n1)) (h45 : g 45 = (zI G 183 n2)) (h46 : g 46 = (zI G 10 plc)) (h55 : g 55 = (zI G 3 p1)) (h56 : g 56 = (zI G 3 p2)) (h57 : g 57 = (zI G 3 l1)) (h58 : g 58 = (zI G 3 l2)) : zC G yX6_meets wsX6_meets (zrm 6 133) ex [.ref (zB G + 0), .int a, .int b] (zN, g) (fun r h => r = some (.int (X6_meets_v lns wd fnd fd n0 n1 n2 plc p1 p2 l1 l2 a b)) ∧ h = (zN, zus g [(55, zI G 3 (X6_meets_c55 lns wd fnd fd n0 n1 n2 plc p1 p2 l1 l2 a b)), (56, zI G 3 (X6_meets_c56 lns wd fnd fd n0 n1 n2 plc p2 a b)), (57, zI G 3 (X6_meets_c57 lns wd fnd fd n0 n1 n2 plc p1 p2 l1 a b)), (58, zI G 3 (X6_meets_c58 lns wd fnd fd n0 n1 n2 plc p1 p2 l2 a b))])) := by
  refine zC_of mX6_meets (lv := [some (.ref (zB G + 0)), some (.int a), some (.int b)]) rfl rfl (by decide) (by intro v hv; simp at hv; rcases hv with rfl | rfl | rfl <;> rfl) (Nat.le_of_ble_eq_true rfl) rfl ?_
  refine z_0 ?_
  refine z_heap (g' := zu (zus g []) 55 (zI G 3 p1)) (zu_self (zus g []) 55 _ h55).symm ?_
  refine z_n (L' := [(55, (zI G 3 p1))]) rfl ?_
  refine z_heap (g' := zu (zus g [(55, (zI G 3 p1))]) 56 (zI G 3 p2)) (zu_self (zus g [(55, (zI G 3 p1))]) 56 _ h56).symm ?_
  refine z_n (L' := [(55, (zI G 3 p1)), (56, (zI G 3 p2))]) rfl ?_
  refine z_heap (g' := zu (zus g [(55, (zI G 3 p1)), (56, (zI G 3 p2))]) 57 (zI G 3 l1)) (zu_self (zus g [(55, (zI G 3 p1)), (56, (zI G 3 p2))]) 57 _ h57).symm ?_
  refine z_n (L' := [(55, (zI G 3 p1)), (56, (zI G 3 p2)), (57, (zI G 3 l1))]) rfl ?_
  refine z_heap (g' := zu (zus g [(55, (zI G 3 p1)), (56, (zI G 3 p2)), (57, (zI G 3 l1))]) 58 (zI G 3 l2)) (zu_self (zus g [(55, (zI G 3 p1)), (56, (zI G 3 p2)), (57, (zI G 3 l1))]) 58 _ h58).symm ?_
  refine z_n (L' := [(55, (zI G 3 p1)), (56, (zI G 3 p2)), (57, (zI G 3 l1)), (58, (zI G 3 l2))]) rfl ?_
  refine z_aload_n dX6_meets_0 rfl rfl ?_
  refine z_iload_n dX6_meets_1 rfl rfl ?_
  refine z_iload_n dX6_meets_2 rfl rfl ?_
  refine z_callVi (c_X6_placeOfBoth_19 G ex _ pts lns ltr inw ont wd fnd stp fd psz n0 n1 n2 plc p1 p2 l1 l2 a b (by omega) (by assumption) (by omega) (by assumption) (by assumption) h0 h19 h22 (fun l9 hl9 => zus_out (by intro q hq; simp at hq; omega) (h23 l9 hl9)) h40 h41 h42 h43 h44 h45 h46 rfl rfl rfl rfl) gX6_meets_X6_placeOfBoth rfl dX6_meets_3 rfl rfl rfl okk_X6_placeOfBoth (Nat.le_of_ble_eq_true rfl) h0 rfl ⟨Nat.le_of_ble_eq_true rfl, Nat.le_of_ble_eq_true rfl⟩ ⟨Nat.le_of_ble_eq_true rfl, Nat.le_of_ble_eq_true rfl⟩ (Nat.le_of_ble_eq_true rfl) ?_
  refine z_nn (L' := [(55, (zI G 3 (X6_placeOfBoth_c55 lns wd fnd fd n0 n1 n2 plc p1 p2 l1 l2 a b))), (56, (zI G 3 (X6_placeOfBoth_c56 lns wd fnd fd n0 n1 n2 plc p2 a b))), (57, (zI G 3 (X6_placeOfBoth_c57 lns wd fnd fd n0 n1 n2 plc p1 p2 l1 a b))), (58, (zI G 3 (X6_placeOfBoth_c58 lns wd fnd fd n0 n1 n2 plc p1 p2 l2 a b)))]) rfl ?_
  exact z_ireturn dX6_meets_6 rfl rfl (Nat.le_refl _) (Nat.le_refl _) (fun _ => rfl) ⟨by simp only [X6_meets_v], by simp only [X6_meets_c55, X6_meets_c56, X6_meets_c57, X6_meets_c58]⟩
set_option maxRecDepth 100000 in
set_option maxHeartbeats 4000000 in
theorem c_X6_deduce_19 (G : zG) (ex : Bool) (g : Nat → va_E) (pts lns ltr : Nat) (inw : Int32) (ont : Nat) (rw : Nat) (outc ts : Int32) (kd sgn rel tri : Nat → Int32) (bo oo : Int32) (fl ba ori : Nat → Int32) (now rl tt : Nat → Int32)  (hp : pts ≤ 10) (hpl : 1 ≤ lns → 1 ≤ pts) (h0 : g 0 = (oCfg G 19 2 (nI ont))) (h19 : g 19 = (oTxt G 19 (nI pts) (nI lns) (nI ltr) inw)) (h59 : g 59 = (oFol G (nI rw) outc ts)) (h60 : g 60 = (zI G 60 kd)) (h61 : g 61 = (zI G 60 sgn)) (h62 : g 62 = (zI G 300 rel)) (h63 : g 63 = (zI G 180 tri)) (h36 : g 36 = (oTld G bo oo)) (h37 : g 37 = (zZ G 120 fl)) (h38 : g 38 = (zZ G 120 ba)) (h39 : g 39 = (zI G 120 ori)) (h64 : g 64 = (zI G 1000 now)) (h65 : g 65 = (zI G 5 rl)) (h66 : g 66 = (zI G 3 tt)) : zC G yX6_deduce wsX6_deduce (zrm 6 152) ex [.ref (zB G + 0)] (zN, g) (fun r h => r = some (.int (X6_deduce_v pts lns ts kd sgn rel tri fl ba ori now rl tt)) ∧ h = (zN, zus g [(59, (oFol G (nI (X6_deduce_p59_0 pts lns rw ts kd sgn rel tri fl ba ori now rl tt)) (X6_deduce_p59_1 pts lns outc ts kd sgn rel tri fl ba ori now rl tt) (X6_deduce_p59_2 pts lns ts kd sgn rel tri fl ba ori now rl tt))), (60, zI G 60 (X6_deduce_c60 pts lns ts kd sgn rel tri fl ba ori now rl tt)), (61, zI G 60 (X6_deduce_c61 pts lns ts kd sgn rel tri fl ba ori now rl tt)), (62, zI G 300 (X6_deduce_c62 pts lns ts kd sgn rel tri fl ba ori now rl tt)), (63, zI G 180 (X6_deduce_c63 pts lns ts kd sgn rel tri fl ba ori now rl tt)), (64, zI G 1000 (X6_deduce_c64 pts lns ts kd sgn rel tri fl ba ori now rl tt)), (65, zI G 5 (X6_deduce_c65 pts lns ts kd sgn rel tri fl ba ori now rl tt)), (66, zI G 3 (X6_deduce_c66 pts lns ts kd sgn rel tri fl ba ori now rl tt))])) := by
  refine zC_of mX6_deduce (lv := [some (.ref (zB G + 0))]) rfl rfl (by decide) (by intro v hv; simp at hv; subst hv; rfl) (Nat.le_of_ble_eq_true rfl) rfl ?_
  refine z_0 ?_
  refine z_heap (g' := zu (zus g []) 59 (oFol G (nI rw) outc ts)) (zu_self (zus g []) 59 _ h59).symm ?_
  refine z_n (L' := [(59, (oFol G (nI rw) outc ts))]) rfl ?_
  refine z_heap (g' := zu (zus g [(59, (oFol G (nI rw) outc ts))]) 60 (zI G 60 kd)) (zu_self (zus g [(59, (oFol G (nI rw) outc ts))]) 60 _ h60).symm ?_
  refine z_n (L' := [(59, (oFol G (nI rw) outc ts)), (60, (zI G 60 kd))]) rfl ?_
  refine z_heap (g' := zu (zus g [(59, (oFol G (nI rw) outc ts)), (60, (zI G 60 kd))]) 61 (zI G 60 sgn)) (zu_self (zus g [(59, (oFol G (nI rw) outc ts)), (60, (zI G 60 kd))]) 61 _ h61).symm ?_
  refine z_n (L' := [(59, (oFol G (nI rw) outc ts)), (60, (zI G 60 kd)), (61, (zI G 60 sgn))]) rfl ?_
  refine z_heap (g' := zu (zus g [(59, (oFol G (nI rw) outc ts)), (60, (zI G 60 kd)), (61, (zI G 60 sgn))]) 62 (zI G 300 rel)) (zu_self (zus g [(59, (oFol G (nI rw) outc ts)), (60, (zI G 60 kd)), (61, (zI G 60 sgn))]) 62 _ h62).symm ?_
  refine z_n (L' := [(59, (oFol G (nI rw) outc ts)), (60, (zI G 60 kd)), (61, (zI G 60 sgn)), (62, (zI G 300 rel))]) rfl ?_
  refine z_heap (g' := zu (zus g [(59, (oFol G (nI rw) outc ts)), (60, (zI G 60 kd)), (61, (zI G 60 sgn)), (62, (zI G 300 rel))]) 63 (zI G 180 tri)) (zu_self (zus g [(59, (oFol G (nI rw) outc ts)), (60, (zI G 60 kd)), (61, (zI G 60 sgn)), (62, (zI G 300 rel))]) 63 _ h63).symm ?_
  refine z_n (L' := [(59, (oFol G (nI rw) outc ts)), (60, (zI G 60 kd)), (61, (zI G 60 sgn)), (62, (zI G 300 rel)), (63, (zI G 180 tri))]) rfl ?_
  refine z_heap (g' := zu (zus g [(59, (oFol G (nI rw) outc ts)), (60, (zI G 60 kd)), (61, (zI G 60 sgn)), (62, (zI G 300 rel)), (63, (zI G 180 tri))]) 64 (zI G 1000 now)) (zu_self (zus g [(59, (oFol G (nI rw) outc ts)), (60, (zI G 60 kd)), (61, (zI G 60 sgn)), (62, (zI G 300 rel)), (63, (zI G 180 tri))]) 64 _ h64).symm ?_
  refine z_n (L' := [(59, (oFol G (nI rw) outc ts)), (60, (zI G 60 kd)), (61, (zI G 60 sgn)), (62, (zI G 300 rel)), (63, (zI G 180 tri)), (64, (zI G 1000 now))]) rfl ?_
  refine z_heap (g' := zu (zus g [(59, (oFol G (nI rw) outc ts)), (60, (zI G 60 kd)), (61, (zI G 60 sgn)), (62, (zI G 300 rel)), (63, (zI G 180 tri)), (64, (zI G 1000 now))]) 65 (zI G 5 rl)) (zu_self (zus g [(59, (oFol G (nI rw) outc ts)), (60, (zI G 60 kd)), (61, (zI G 60 sgn)), (62, (zI G 300 rel)), (63, (zI G 180 tri)), (64, (zI G 1000 now))]) 65 _ h65).symm ?_
  refine z_n (L' := [(59, (oFol G (nI rw) outc ts)), (60, (zI G 60 kd)), (61, (zI G 60 sgn)), (62, (zI G 300 rel)), (63, (zI G 180 tri)), (64, (zI G 1000 now)), (65, (zI G 5 rl))]) rfl ?_
  refine z_heap (g' := zu (zus g [(59, (oFol G (nI rw) outc ts)), (60, (zI G 60 kd)), (61, (zI G 60 sgn)), (62, (zI G 300 rel)), (63, (zI G 180 tri)), (64, (zI G 1000 now)), (65, (zI G 5 rl))]) 66 (zI G 3 tt)) (zu_self (zus g [(59, (oFol G (nI rw) outc ts)), (60, (zI G 60 kd)), (61, (zI G 60 sgn)), (62, (zI G 300 rel)), (63, (zI G 180 tri)), (64, (zI G 1000 now)), (65, (zI G 5 rl))]) 66 _ h66).symm ?_
  refine z_n (L' := [(59, (oFol G (nI rw) outc ts)), (60, (zI G 60 kd)), (61, (zI G 60 sgn)), (62, (zI G 300 rel)), (63, (zI G 180 tri)), (64, (zI G 1000 now)), (65, (zI G 5 rl)), (66, (zI G 3 tt))]) rfl ?_
  refine z_aload_n dX6_deduce_0 rfl rfl ?_
  refine z_get dX6_deduce_1 rfl hiX6_deduce_X6 2 lkX6_deduce_20 (Nat.le_of_ble_eq_true rfl) h0 rfl (by decide) rfl ?_
  refine z_get dX6_deduce_4 rfl hiX6_deduce_X4 1 lkX6_deduce_76 (Nat.le_of_ble_eq_true rfl) h19 rfl (by decide) rfl ?_
  refine z_if_ne (tgt := 13) dX6_deduce_7 rfl (by decide) (fun c7 => ?_) (fun c7 => ?_)
  · have hpt1 : 1 ≤ pts := hpl (Nat.pos_of_ne_zero (fun q => c7 (by rw [q]; rfl)))
    refine z_aload_n dX6_deduce_13 rfl rfl ?_
    refine z_get dX6_deduce_14 rfl hiX6_deduce_X6 6 lkX6_deduce_46 (Nat.le_of_ble_eq_true rfl) h0 rfl (by decide) rfl ?_
    refine z_aload_n dX6_deduce_17 rfl rfl ?_
    refine z_get dX6_deduce_18 rfl hiX6_deduce_X6 2 lkX6_deduce_20 (Nat.le_of_ble_eq_true rfl) h0 rfl (by decide) rfl ?_
    refine z_get dX6_deduce_21 rfl hiX6_deduce_X4 0 lkX6_deduce_73 (Nat.le_of_ble_eq_true rfl) h19 rfl (by decide) rfl ?_
    refine z_callVi (c_X0_follow G ex _ rw outc ts kd sgn rel tri bo oo fl ori now rl ba tt pts (by omega) (by omega) rfl rfl rfl rfl rfl h36 h37 h39 rfl rfl h38 rfl) gX6_deduce_X0_follow rfl dX6_deduce_24 rfl rfl rfl okk_X0_follow (Nat.le_of_ble_eq_true rfl) rfl rfl ⟨Nat.le_of_ble_eq_true rfl, Nat.le_of_ble_eq_true rfl⟩ ⟨Nat.le_of_ble_eq_true rfl, Nat.le_of_ble_eq_true rfl⟩ (Nat.le_of_ble_eq_true rfl) ?_
    refine z_nn (L' := [(59, (oFol G (nI (X0_follow_p59_0 ts kd sgn rel tri fl ori now rl ba tt pts)) (X0_follow_p59_1 ts kd sgn rel tri fl ori now rl ba tt pts) (X0_follow_p59_2 ts kd sgn rel tri fl ori now rl ba tt pts))), (60, (zI G 60 (X0_follow_c60 ts kd sgn rel tri fl ori now rl ba tt pts))), (61, (zI G 60 (X0_follow_c61 ts kd sgn rel tri fl ori now rl ba tt pts))), (62, (zI G 300 (X0_follow_c62 ts kd sgn rel tri fl ori now rl ba tt pts))), (63, (zI G 180 (X0_follow_c63 ts kd sgn rel tri fl ori now rl ba tt pts))), (64, (zI G 1000 (X0_follow_c64 ts kd sgn rel tri fl ori now rl ba tt pts))), (65, (zI G 5 (X0_follow_c65 ts kd sgn rel tri fl ori now rl ba tt pts))), (66, (zI G 3 (X0_follow_c66 ts kd sgn rel tri fl ori now rl ba tt pts)))]) rfl ?_
    exact z_ireturn dX6_deduce_27 rfl rfl (Nat.le_refl _) (Nat.le_refl _) (fun _ => rfl) ⟨by simp only [X6_deduce_v, if_neg c7], by simp only [X6_deduce_p59_0, X6_deduce_p59_1, X6_deduce_p59_2, X6_deduce_c60, X6_deduce_c61, X6_deduce_c62, X6_deduce_c63, X6_deduce_c64, X6_deduce_c65, X6_deduce_c66, if_neg c7]⟩
  · refine z_bipush (v := (-2)) dX6_deduce_10 rfl (by decide) ?_
    exact z_ireturn dX6_deduce_12 rfl rfl (Nat.le_refl _) (Nat.le_refl _) (fun _ => rfl) ⟨by simp only [X6_deduce_v, if_pos c7], by simp only [X6_deduce_p59_0, X6_deduce_p59_1, X6_deduce_p59_2, X6_deduce_c60, X6_deduce_c61, X6_deduce_c62, X6_deduce_c63, X6_deduce_c64, X6_deduce_c65, X6_deduce_c66, if_pos c7]⟩
set_option maxRecDepth 100000 in
set_option maxHeartbeats 4000000 in
theorem c_X6_row_19 (G : zG) (ex : Bool) (g : Nat → va_E) (ont : Nat) (rw : Nat) (outc ts : Int32) (kd sgn rel tri : Nat → Int32) (i w : Int32) (hrw : rw ≤ 60) (h0 : g 0 = (oCfg G 19 2 (nI ont))) (h59 : g 59 = (oFol G (nI rw) outc ts)) (h60 : g 60 = (zI G 60 kd)) (h61 : g 61 = (zI G 60 sgn)) (h62 : g 62 = (zI G 300 rel)) (h63 : g 63 = (zI G 180 tri)) : zC G yX6_row wsX6_row (zrm 1 22) ex [.ref (zB G + 0), .int i, .int w] (zN, g) (fun r h => r = some (.int (X6_row_v rw kd sgn rel tri i w)) ∧ h = (zN, g)) := by
  refine zC_of mX6_row (lv := [some (.ref (zB G + 0)), some (.int i), some (.int w)]) rfl rfl (by decide) (by intro v hv; simp at hv; rcases hv with rfl | rfl | rfl <;> rfl) (Nat.le_of_ble_eq_true rfl) rfl ?_
  refine z_0 ?_
  refine z_iload_n dX6_row_0 rfl rfl ?_
  refine z_if_lt (tgt := 10) dX6_row_1 rfl (by decide) (fun c1 => ?_) (fun c1 => ?_)
  · refine z_bipush (v := (-9)) dX6_row_10 rfl (by decide) ?_
    exact z_ireturn dX6_row_12 rfl rfl (Nat.le_refl _) (Nat.le_refl _) (fun _ => rfl) ⟨by simp only [X6_row_v, if_pos c1], rfl⟩
  · refine z_iload_n dX6_row_4 rfl rfl ?_
    refine z_bipush (v := nI 9) dX6_row_5 rfl (by decide) ?_
    refine z_icmp_le (tgt := 13) dX6_row_7 rfl (by decide) (fun c7 => ?_) (fun c7 => ?_)
    · refine z_aload_n dX6_row_13 rfl rfl ?_
      refine z_get dX6_row_14 rfl hiX6_row_X6 6 lkX6_row_46 (Nat.le_of_ble_eq_true rfl) h0 rfl (by decide) rfl ?_
      refine z_iload_n dX6_row_17 rfl rfl ?_
      refine z_callVi (c_X0_hasRow G ex _ (nI rw) outc ts i h59) gX6_row_X0_hasRow rfl dX6_row_18 rfl rfl rfl okk_X0_hasRow (Nat.le_of_ble_eq_true rfl) h59 rfl ⟨Nat.le_of_ble_eq_true rfl, Nat.le_of_ble_eq_true rfl⟩ ⟨Nat.le_of_ble_eq_true rfl, Nat.le_of_ble_eq_true rfl⟩ (Nat.le_of_ble_eq_true rfl) ?_
      refine z_if_ne (tgt := 27) dX6_row_21 rfl (by decide) (fun c21 => ?_) (fun c21 => ?_)
      · have hvi : vp_in i rw := hasRow_in c21 hrw
        have hvw : vp_in w 10 := zle_in c1 c7 (by decide)
        have hli := zvlt hvi
        have hlw := zvlt hvw
        refine z_lv (congrArg (fun z9 : Int32 => ([some (.ref (zB G + 0)), some (.int z9), some (.int w)] : List (Option Value))) (show i = (nI i.toNatClampNeg) from zvin hvi)) ?_
        refine z_lv (congrArg (fun z9 : Int32 => ([some (.ref (zB G + 0)), some (.int (nI i.toNatClampNeg)), some (.int z9)] : List (Option Value))) (show w = (nI w.toNatClampNeg) from zvin hvw)) ?_
        refine z_aload_n dX6_row_27 rfl rfl ?_
        refine z_get dX6_row_28 rfl hiX6_row_X6 6 lkX6_row_46 (Nat.le_of_ble_eq_true rfl) h0 rfl (by decide) rfl ?_
        refine z_iload_n dX6_row_31 rfl rfl ?_
        refine z_iload_n dX6_row_32 rfl rfl ?_
        refine z_callVi (c_X0_entry G ex _ rw outc ts kd sgn rel tri i.toNatClampNeg w.toNatClampNeg (by omega) (by omega) h59 h60 h61 h62 h63) gX6_row_X0_entry rfl dX6_row_33 rfl rfl rfl okk_X0_entry (Nat.le_of_ble_eq_true rfl) h59 rfl ⟨Nat.le_of_ble_eq_true rfl, Nat.le_of_ble_eq_true rfl⟩ ⟨Nat.le_of_ble_eq_true rfl, Nat.le_of_ble_eq_true rfl⟩ (Nat.le_of_ble_eq_true rfl) ?_
        exact z_ireturn dX6_row_36 rfl rfl (Nat.le_refl _) (Nat.le_refl _) (fun _ => rfl) ⟨by simp only [X6_row_v, if_neg c1, if_pos c7, if_neg c21], rfl⟩
      · refine z_bipush (v := (-4)) dX6_row_24 rfl (by decide) ?_
        exact z_ireturn dX6_row_26 rfl rfl (Nat.le_refl _) (Nat.le_refl _) (fun _ => rfl) ⟨by simp only [X6_row_v, if_neg c1, if_pos c7, if_pos c21], rfl⟩
    · refine z_bipush (v := (-9)) dX6_row_10 rfl (by decide) ?_
      exact z_ireturn dX6_row_12 rfl rfl (Nat.le_refl _) (Nat.le_refl _) (fun _ => rfl) ⟨by simp only [X6_row_v, if_neg c1, if_neg c7], rfl⟩
set_option maxRecDepth 100000 in
set_option maxHeartbeats 4000000 in
theorem c_X6_plant_19 (G : zG) (ex : Bool) (g : Nat → va_E) (ont : Nat) (rw : Nat) (outc ts : Int32) (kd sgn rel tri : Nat → Int32) (i v : Int32) (hrw : rw ≤ 60) (h0 : g 0 = (oCfg G 19 2 (nI ont))) (h59 : g 59 = (oFol G (nI rw) outc ts)) (h60 : g 60 = (zI G 60 kd)) (h61 : g 61 = (zI G 60 sgn)) (h62 : g 62 = (zI G 300 rel)) (h63 : g 63 = (zI G 180 tri)) : zC G yX6_plant wsX6_plant (zrm 1 21) ex [.ref (zB G + 0), .int i, .int v] (zN, g) (fun r h => r = some (.int (X6_plant_v rw kd sgn i v)) ∧ h = (zN, zus g [(61, zI G 60 (X6_plant_c61 rw kd sgn i v))])) := by
  refine zC_of mX6_plant (lv := [some (.ref (zB G + 0)), some (.int i), some (.int v), none]) rfl rfl (by decide) (by intro v hv; simp at hv; rcases hv with rfl | rfl | rfl <;> rfl) (Nat.le_of_ble_eq_true rfl) rfl ?_
  refine z_0 ?_
  refine z_heap (g' := zu (zus g []) 61 (zI G 60 sgn)) (zu_self (zus g []) 61 _ h61).symm ?_
  refine z_n (L' := [(61, (zI G 60 sgn))]) rfl ?_
  refine z_iload_n dX6_plant_0 rfl rfl ?_
  refine z_iconst (v := (-1)) dX6_plant_1 rfl (by decide) ?_
  refine z_icmp_lt (tgt := 10) dX6_plant_2 rfl (by decide) (fun c2 => ?_) (fun c2 => ?_)
  · refine z_bipush (v := (-9)) dX6_plant_10 rfl (by decide) ?_
    exact z_ireturn dX6_plant_12 rfl rfl (Nat.le_refl _) (Nat.le_refl _) (fun _ => rfl) ⟨by simp only [X6_plant_v, if_pos c2], by simp only [X6_plant_c61, if_pos c2]⟩
  · refine z_iload_n dX6_plant_5 rfl rfl ?_
    refine z_iconst (v := nI 1) dX6_plant_6 rfl (by decide) ?_
    refine z_icmp_le (tgt := 13) dX6_plant_7 rfl (by decide) (fun c7 => ?_) (fun c7 => ?_)
    · refine z_aload_n dX6_plant_13 rfl rfl ?_
      refine z_get dX6_plant_14 rfl hiX6_plant_X6 6 lkX6_plant_46 (Nat.le_of_ble_eq_true rfl) h0 rfl (by decide) rfl ?_
      refine z_iload_n dX6_plant_17 rfl rfl ?_
      refine z_callVi (c_X0_hasRow G ex _ (nI rw) outc ts i h59) gX6_plant_X0_hasRow rfl dX6_plant_18 rfl rfl rfl okk_X0_hasRow (Nat.le_of_ble_eq_true rfl) h59 rfl ⟨Nat.le_of_ble_eq_true rfl, Nat.le_of_ble_eq_true rfl⟩ ⟨Nat.le_of_ble_eq_true rfl, Nat.le_of_ble_eq_true rfl⟩ (Nat.le_of_ble_eq_true rfl) ?_
      refine z_if_eq (tgt := 37) dX6_plant_21 rfl (by decide) (fun c21 => ?_) (fun c21 => ?_)
      · refine z_bipush (v := (-4)) dX6_plant_37 rfl (by decide) ?_
        exact z_ireturn dX6_plant_39 rfl rfl (Nat.le_refl _) (Nat.le_refl _) (fun _ => rfl) ⟨by simp only [X6_plant_v, if_neg c2, if_pos c7, if_pos c21], by simp only [X6_plant_c61, if_neg c2, if_pos c7, if_pos c21]⟩
      · have hvi : vp_in i rw := hasRow_in c21 hrw
        have hli := zvlt hvi
        refine z_lv (congrArg (fun z9 : Int32 => ([some (.ref (zB G + 0)), some (.int z9), some (.int v), none] : List (Option Value))) (show i = (nI i.toNatClampNeg) from zvin hvi)) ?_
        refine z_aload_n dX6_plant_24 rfl rfl ?_
        refine z_get dX6_plant_25 rfl hiX6_plant_X6 6 lkX6_plant_46 (Nat.le_of_ble_eq_true rfl) h0 rfl (by decide) rfl ?_
        refine z_get dX6_plant_28 rfl hiX6_plant_X0 2 lkX6_plant_179 (Nat.le_of_ble_eq_true rfl) h59 rfl (by decide) rfl ?_
        refine z_iload_n dX6_plant_31 rfl rfl ?_
        refine z_ialdN (j := i.toNatClampNeg) dX6_plant_32 rfl (Nat.le_of_ble_eq_true rfl) h60 (rfl) (by omega) (by decide) ?_
        refine z_iconst (v := nI 1) dX6_plant_33 rfl (by decide) ?_
        refine z_icmp_ne (tgt := 40) dX6_plant_34 rfl (by decide) (fun c34 => ?_) (fun c34 => ?_)
        · refine z_aload_n dX6_plant_40 rfl rfl ?_
          refine z_get dX6_plant_41 rfl hiX6_plant_X6 6 lkX6_plant_46 (Nat.le_of_ble_eq_true rfl) h0 rfl (by decide) rfl ?_
          refine z_get dX6_plant_44 rfl hiX6_plant_X0 3 lkX6_plant_182 (Nat.le_of_ble_eq_true rfl) h59 rfl (by decide) rfl ?_
          refine z_iload_n dX6_plant_47 rfl rfl ?_
          refine z_ialdN (j := i.toNatClampNeg) dX6_plant_48 rfl (Nat.le_of_ble_eq_true rfl) rfl (rfl) (by omega) (by decide) ?_
          refine z_istore_3 dX6_plant_49 rfl ?_
          refine z_aload_n dX6_plant_50 rfl rfl ?_
          refine z_get dX6_plant_51 rfl hiX6_plant_X6 6 lkX6_plant_46 (Nat.le_of_ble_eq_true rfl) h0 rfl (by decide) rfl ?_
          refine z_get dX6_plant_54 rfl hiX6_plant_X0 3 lkX6_plant_182 (Nat.le_of_ble_eq_true rfl) h59 rfl (by decide) rfl ?_
          refine z_iload_n dX6_plant_57 rfl rfl ?_
          refine z_iload_n dX6_plant_58 rfl rfl ?_
          refine z_iastN (j := i.toNatClampNeg) dX6_plant_59 rfl (Nat.le_of_ble_eq_true rfl) rfl (rfl) (by omega) (by decide) ?_
          refine z_n (L' := [(61, (zI G 60 (upd sgn i.toNatClampNeg v)))]) rfl ?_
          refine z_iload_n dX6_plant_60 rfl rfl ?_
          exact z_ireturn dX6_plant_61 rfl rfl (Nat.le_refl _) (Nat.le_refl _) (fun _ => rfl) ⟨by simp only [X6_plant_v, if_neg c2, if_pos c7, if_neg c21, if_neg c34], by simp only [X6_plant_c61, if_neg c2, if_pos c7, if_neg c21, if_neg c34]⟩
        · refine z_bipush (v := (-4)) dX6_plant_37 rfl (by decide) ?_
          exact z_ireturn dX6_plant_39 rfl rfl (Nat.le_refl _) (Nat.le_refl _) (fun _ => rfl) ⟨by simp only [X6_plant_v, if_neg c2, if_pos c7, if_neg c21, if_pos c34], by simp only [X6_plant_c61, if_neg c2, if_pos c7, if_neg c21, if_pos c34]⟩
    · refine z_bipush (v := (-9)) dX6_plant_10 rfl (by decide) ?_
      exact z_ireturn dX6_plant_12 rfl rfl (Nat.le_refl _) (Nat.le_refl _) (fun _ => rfl) ⟨by simp only [X6_plant_v, if_neg c2, if_neg c7], by simp only [X6_plant_c61, if_neg c2, if_neg c7]⟩
set_option maxRecDepth 100000 in
set_option maxHeartbeats 4000000 in
theorem c_X6_proof_19 (G : zG) (ex : Bool) (g : Nat → va_E) (ont : Nat) (rw : Nat) (outc ts : Int32) (kd sgn rel tri : Nat → Int32) (bo oo : Int32) (fl ba ori : Nat → Int32) (now rl tt : Nat → Int32)  (hrw : rw ≤ 60) (h3 : ∀ i, i < rw → ¬ kd i = nI 1 → ∀ j, j < 3 → vp_in (tri (3 * i + j)) 10) (hre : ∀ i, i < rw → ∀ j, j < 5 → vp_in (rel (5 * i + j)) 10) (hrx : ∀ i, i < rw → ∀ k l, k < 5 → l < 5 → k ≠ l → (rel (5 * i + k)).toNatClampNeg ≠ (rel (5 * i + l)).toNatClampNeg) (h0 : g 0 = (oCfg G 19 2 (nI ont))) (h59 : g 59 = (oFol G (nI rw) outc ts)) (h60 : g 60 = (zI G 60 kd)) (h61 : g 61 = (zI G 60 sgn)) (h62 : g 62 = (zI G 300 rel)) (h63 : g 63 = (zI G 180 tri)) (h36 : g 36 = (oTld G bo oo)) (h37 : g 37 = (zZ G 120 fl)) (h38 : g 38 = (zZ G 120 ba)) (h39 : g 39 = (zI G 120 ori)) (h64 : g 64 = (zI G 1000 now)) (h65 : g 65 = (zI G 5 rl)) (h66 : g 66 = (zI G 3 tt)) : zC G yX6_proof wsX6_proof (zrm 5 122) ex [.ref (zB G + 0)] (zN, g) (fun r h => r = some (.int (nI (X6_proof_n rw outc ts kd sgn rel tri fl ba ori now rl tt))) ∧ h = (zN, zus g [(59, (oFol G (nI rw) outc (X6_proof_p59_2 rw outc ts kd sgn rel tri fl ba ori now rl tt))), (64, zI G 1000 (X6_proof_c64 rw outc ts kd sgn rel tri fl ba ori now rl tt)), (65, zI G 5 (X6_proof_c65 rw outc ts kd sgn rel tri fl ba ori now rl tt)), (66, zI G 3 (X6_proof_c66 rw outc ts kd sgn rel tri fl ba ori now rl tt))])) := by
  refine zC_of mX6_proof (lv := [some (.ref (zB G + 0))]) rfl rfl (by decide) (by intro v hv; simp at hv; subst hv; rfl) (Nat.le_of_ble_eq_true rfl) rfl ?_
  refine z_0 ?_
  refine z_heap (g' := zu (zus g []) 59 (oFol G (nI rw) outc ts)) (zu_self (zus g []) 59 _ h59).symm ?_
  refine z_n (L' := [(59, (oFol G (nI rw) outc ts))]) rfl ?_
  refine z_heap (g' := zu (zus g [(59, (oFol G (nI rw) outc ts))]) 64 (zI G 1000 now)) (zu_self (zus g [(59, (oFol G (nI rw) outc ts))]) 64 _ h64).symm ?_
  refine z_n (L' := [(59, (oFol G (nI rw) outc ts)), (64, (zI G 1000 now))]) rfl ?_
  refine z_heap (g' := zu (zus g [(59, (oFol G (nI rw) outc ts)), (64, (zI G 1000 now))]) 65 (zI G 5 rl)) (zu_self (zus g [(59, (oFol G (nI rw) outc ts)), (64, (zI G 1000 now))]) 65 _ h65).symm ?_
  refine z_n (L' := [(59, (oFol G (nI rw) outc ts)), (64, (zI G 1000 now)), (65, (zI G 5 rl))]) rfl ?_
  refine z_heap (g' := zu (zus g [(59, (oFol G (nI rw) outc ts)), (64, (zI G 1000 now)), (65, (zI G 5 rl))]) 66 (zI G 3 tt)) (zu_self (zus g [(59, (oFol G (nI rw) outc ts)), (64, (zI G 1000 now)), (65, (zI G 5 rl))]) 66 _ h66).symm ?_
  refine z_n (L' := [(59, (oFol G (nI rw) outc ts)), (64, (zI G 1000 now)), (65, (zI G 5 rl)), (66, (zI G 3 tt))]) rfl ?_
  refine z_aload_n dX6_proof_0 rfl rfl ?_
  refine z_get dX6_proof_1 rfl hiX6_proof_X6 6 lkX6_proof_46 (Nat.le_of_ble_eq_true rfl) h0 rfl (by decide) rfl ?_
  refine z_callVi (c_X0_allFollow G ex _ rw outc ts kd sgn rel tri bo oo fl ori now rl ba tt (by omega) (by assumption) (by assumption) (by assumption) rfl h60 h61 h62 h63 h36 h37 h39 rfl rfl h38 rfl) gX6_proof_X0_allFollow rfl dX6_proof_4 rfl rfl rfl okk_X0_allFollow (Nat.le_of_ble_eq_true rfl) rfl rfl ⟨Nat.le_of_ble_eq_true rfl, Nat.le_of_ble_eq_true rfl⟩ ⟨Nat.le_of_ble_eq_true rfl, Nat.le_of_ble_eq_true rfl⟩ (Nat.le_of_ble_eq_true rfl) ?_
  refine z_nn (L' := [(59, (oFol G (nI rw) outc (X0_allFollow_p59_2 rw outc ts kd sgn rel tri fl ori now rl ba tt))), (64, (zI G 1000 (X0_allFollow_c64 rw outc ts kd sgn rel tri fl ori now rl ba tt))), (65, (zI G 5 (X0_allFollow_c65 rw outc ts kd sgn rel tri fl ori now rl ba tt))), (66, (zI G 3 (X0_allFollow_c66 rw outc ts kd sgn rel tri fl ori now rl ba tt)))]) rfl ?_
  refine z_if_eq (tgt := 14) dX6_proof_7 rfl (by decide) (fun c7 => ?_) (fun c7 => ?_)
  · refine z_iconst (v := nI 0) dX6_proof_14 rfl (by decide) ?_
    exact z_ireturn dX6_proof_15 rfl rfl (Nat.le_refl _) (Nat.le_refl _) (fun _ => rfl) ⟨by simp only [X6_proof_n, if_pos c7], by simp only [X6_proof_p59_2, X6_proof_c64, X6_proof_c65, X6_proof_c66, if_pos c7]⟩
  · refine z_iconst (v := nI 1) dX6_proof_10 rfl (by decide) ?_
    refine z_goto (tgt := 15) dX6_proof_11 (by decide) ?_
    exact z_ireturn dX6_proof_15 rfl rfl (Nat.le_refl _) (Nat.le_refl _) (fun _ => rfl) ⟨by simp only [X6_proof_n, if_neg c7], by simp only [X6_proof_p59_2, X6_proof_c64, X6_proof_c65, X6_proof_c66, if_neg c7]⟩
set_option maxRecDepth 100000 in
set_option maxHeartbeats 4000000 in
theorem c_X6_known_19 (G : zG) (ex : Bool) (g : Nat → va_E) (pts lns ltr : Nat) (inw : Int32) (ont : Nat) (rw : Nat) (outc ts : Int32) (kd sgn rel tri : Nat → Int32) (bo oo : Int32) (fl ba ori : Nat → Int32) (now rl tt : Nat → Int32) (a b c : Int32) (hp : pts ≤ 10) (hrw : rw ≤ 60) (h3 : ∀ i, i < rw → ¬ kd i = nI 1 → ∀ j, j < 3 → vp_in (tri (3 * i + j)) 10) (h0 : g 0 = (oCfg G 19 2 (nI ont))) (h19 : g 19 = (oTxt G 19 (nI pts) (nI lns) (nI ltr) inw)) (h59 : g 59 = (oFol G (nI rw) outc ts)) (h60 : g 60 = (zI G 60 kd)) (h61 : g 61 = (zI G 60 sgn)) (h62 : g 62 = (zI G 300 rel)) (h63 : g 63 = (zI G 180 tri)) (h36 : g 36 = (oTld G bo oo)) (h37 : g 37 = (zZ G 120 fl)) (h38 : g 38 = (zZ G 120 ba)) (h39 : g 39 = (zI G 120 ori)) (h64 : g 64 = (zI G 1000 now)) (h65 : g 65 = (zI G 5 rl)) (h66 : g 66 = (zI G 3 tt)) : zC G yX6_known wsX6_known (zrm 4 92) ex [.ref (zB G + 0), .int a, .int b, .int c] (zN, g) (fun r h => r = some (.int (X6_known_v pts rw kd sgn tri fl ori now a b c)) ∧ h = (zN, zus g [(64, zI G 1000 (X6_known_c64 pts rw kd sgn tri fl ori now a b c))])) := by
  refine zC_of mX6_known (lv := [some (.ref (zB G + 0)), some (.int a), some (.int b), some (.int c)]) rfl rfl (by decide) (by intro v hv; simp at hv; rcases hv with rfl | rfl | rfl | rfl <;> rfl) (Nat.le_of_ble_eq_true rfl) rfl ?_
  refine z_0 ?_
  refine z_heap (g' := zu (zus g []) 64 (zI G 1000 now)) (zu_self (zus g []) 64 _ h64).symm ?_
  refine z_n (L' := [(64, (zI G 1000 now))]) rfl ?_
  refine z_aload_n dX6_known_0 rfl rfl ?_
  refine z_get dX6_known_1 rfl hiX6_known_X6 2 lkX6_known_20 (Nat.le_of_ble_eq_true rfl) h0 rfl (by decide) rfl ?_
  refine z_iload_n dX6_known_4 rfl rfl ?_
  refine z_iload_n dX6_known_5 rfl rfl ?_
  refine z_iload_n dX6_known_6 rfl rfl ?_
  refine z_callVi (c_X4_isTriple_19 G ex _ pts lns ltr inw a b c h19) gX6_known_X4_isTriple rfl dX6_known_7 rfl rfl rfl okk_X4_isTriple (Nat.le_of_ble_eq_true rfl) h19 rfl ⟨Nat.le_of_ble_eq_true rfl, Nat.le_of_ble_eq_true rfl⟩ ⟨Nat.le_of_ble_eq_true rfl, Nat.le_of_ble_eq_true rfl⟩ (Nat.le_of_ble_eq_true rfl) ?_
  refine z_if_ne (tgt := 16) dX6_known_10 rfl (by decide) (fun c10 => ?_) (fun c10 => ?_)
  · obtain ⟨hva, hvb, hvc, hab, hac, hbc⟩ := isTriple_in c10 hp
    have hla := zvlt hva
    have hlb := zvlt hvb
    have hlc := zvlt hvc
    refine z_lv (congrArg (fun z9 : Int32 => ([some (.ref (zB G + 0)), some (.int z9), some (.int b), some (.int c)] : List (Option Value))) (show a = (nI a.toNatClampNeg) from zvin hva)) ?_
    refine z_lv (congrArg (fun z9 : Int32 => ([some (.ref (zB G + 0)), some (.int (nI a.toNatClampNeg)), some (.int z9), some (.int c)] : List (Option Value))) (show b = (nI b.toNatClampNeg) from zvin hvb)) ?_
    refine z_lv (congrArg (fun z9 : Int32 => ([some (.ref (zB G + 0)), some (.int (nI a.toNatClampNeg)), some (.int (nI b.toNatClampNeg)), some (.int z9)] : List (Option Value))) (show c = (nI c.toNatClampNeg) from zvin hvc)) ?_
    refine z_aload_n dX6_known_16 rfl rfl ?_
    refine z_get dX6_known_17 rfl hiX6_known_X6 6 lkX6_known_46 (Nat.le_of_ble_eq_true rfl) h0 rfl (by decide) rfl ?_
    refine z_aload_n dX6_known_20 rfl rfl ?_
    refine z_get dX6_known_21 rfl hiX6_known_X6 6 lkX6_known_46 (Nat.le_of_ble_eq_true rfl) h0 rfl (by decide) rfl ?_
    refine z_get dX6_known_24 rfl hiX6_known_X0 0 lkX6_known_85 (Nat.le_of_ble_eq_true rfl) h59 rfl (by decide) rfl ?_
    refine z_callVv (c_X0_gather G ex _ (nI rw) outc ts bo oo now kd sgn tri fl ori rw (by omega) (by assumption) h59 rfl h60 h61 h63 h36 h37 h39) gX6_known_X0_gather rfl dX6_known_27 rfl rfl rfl okk_X0_gather (Nat.le_of_ble_eq_true rfl) h59 rfl ⟨Nat.le_of_ble_eq_true rfl, Nat.le_of_ble_eq_true rfl⟩ ⟨Nat.le_of_ble_eq_true rfl, Nat.le_of_ble_eq_true rfl⟩ (Nat.le_of_ble_eq_true rfl) ?_
    refine z_nn (L' := [(64, (zI G 1000 (X0_gather_c64 now kd sgn tri fl ori rw)))]) rfl ?_
    refine z_aload_n dX6_known_30 rfl rfl ?_
    refine z_get dX6_known_31 rfl hiX6_known_X6 6 lkX6_known_46 (Nat.le_of_ble_eq_true rfl) h0 rfl (by decide) rfl ?_
    refine z_iload_n dX6_known_34 rfl rfl ?_
    refine z_iload_n dX6_known_35 rfl rfl ?_
    refine z_iload_n dX6_known_36 rfl rfl ?_
    refine z_callVi (c_X0_signNow G ex _ (nI rw) outc ts (X0_gather_c64 now kd sgn tri fl ori rw) a.toNatClampNeg b.toNatClampNeg c.toNatClampNeg (by omega) (by omega) (by omega) h59 rfl) gX6_known_X0_signNow rfl dX6_known_37 rfl rfl rfl okk_X0_signNow (Nat.le_of_ble_eq_true rfl) h59 rfl ⟨Nat.le_of_ble_eq_true rfl, Nat.le_of_ble_eq_true rfl⟩ ⟨Nat.le_of_ble_eq_true rfl, Nat.le_of_ble_eq_true rfl⟩ (Nat.le_of_ble_eq_true rfl) ?_
    exact z_ireturn dX6_known_40 rfl rfl (Nat.le_refl _) (Nat.le_refl _) (fun _ => rfl) ⟨by simp only [X6_known_v, if_neg c10], by simp only [X6_known_c64, if_neg c10]⟩
  · refine z_bipush (v := (-9)) dX6_known_13 rfl (by decide) ?_
    exact z_ireturn dX6_known_15 rfl rfl (Nat.le_refl _) (Nat.le_refl _) (fun _ => rfl) ⟨by simp only [X6_known_v, if_pos c10], by simp only [X6_known_c64, if_pos c10]⟩
set_option maxRecDepth 100000 in
set_option maxHeartbeats 4000000 in
theorem c_X6_certificate_19 (G : zG) (ex : Bool) (g : Nat → va_E) (ont : Nat) (rw : Nat) (outc ts : Int32) (kd sgn rel tri : Nat → Int32) (bo oo : Int32) (fl ba ori : Nat → Int32) (now rl tt : Nat → Int32) (i w : Int32) (hrw : rw ≤ 60) (h3 : ∀ i, i < rw → ¬ kd i = nI 1 → ∀ j, j < 3 → vp_in (tri (3 * i + j)) 10) (hre : ∀ i, i < rw → ∀ j, j < 5 → vp_in (rel (5 * i + j)) 10) (h0 : g 0 = (oCfg G 19 2 (nI ont))) (h59 : g 59 = (oFol G (nI rw) outc ts)) (h60 : g 60 = (zI G 60 kd)) (h61 : g 61 = (zI G 60 sgn)) (h62 : g 62 = (zI G 300 rel)) (h63 : g 63 = (zI G 180 tri)) (h36 : g 36 = (oTld G bo oo)) (h37 : g 37 = (zZ G 120 fl)) (h38 : g 38 = (zZ G 120 ba)) (h39 : g 39 = (zI G 120 ori)) (h64 : g 64 = (zI G 1000 now)) (h65 : g 65 = (zI G 5 rl)) (h66 : g 66 = (zI G 3 tt)) : zC G yX6_certificate wsX6_certificate (zrm 5 116) ex [.ref (zB G + 0), .int i, .int w] (zN, g) (fun r h => r = some (.int (X6_certificate_v rw kd sgn rel tri fl ori now rl i w)) ∧ h = (zN, zus g [(64, zI G 1000 (X6_certificate_c64 rw kd sgn rel tri fl ori now rl i w)), (65, zI G 5 (X6_certificate_c65 rw kd sgn rel tri fl ori now rl i w))])) := by
  refine zC_of mX6_certificate (lv := [some (.ref (zB G + 0)), some (.int i), some (.int w)]) rfl rfl (by decide) (by intro v hv; simp at hv; rcases hv with rfl | rfl | rfl <;> rfl) (Nat.le_of_ble_eq_true rfl) rfl ?_
  refine z_0 ?_
  refine z_heap (g' := zu (zus g []) 64 (zI G 1000 now)) (zu_self (zus g []) 64 _ h64).symm ?_
  refine z_n (L' := [(64, (zI G 1000 now))]) rfl ?_
  refine z_heap (g' := zu (zus g [(64, (zI G 1000 now))]) 65 (zI G 5 rl)) (zu_self (zus g [(64, (zI G 1000 now))]) 65 _ h65).symm ?_
  refine z_n (L' := [(64, (zI G 1000 now)), (65, (zI G 5 rl))]) rfl ?_
  refine z_iload_n dX6_certificate_0 rfl rfl ?_
  refine z_if_lt (tgt := 18) dX6_certificate_1 rfl (by decide) (fun c1 => ?_) (fun c1 => ?_)
  · refine z_bipush (v := (-9)) dX6_certificate_18 rfl (by decide) ?_
    exact z_ireturn dX6_certificate_20 rfl rfl (Nat.le_refl _) (Nat.le_refl _) (fun _ => rfl) ⟨by simp only [X6_certificate_v, if_pos c1], by simp only [X6_certificate_c64, X6_certificate_c65, if_pos c1]⟩
  · refine z_iload_n dX6_certificate_4 rfl rfl ?_
    refine z_iconst (v := nI 2) dX6_certificate_5 rfl (by decide) ?_
    refine z_icmp_gt (tgt := 18) dX6_certificate_6 rfl (by decide) (fun c6 => ?_) (fun c6 => ?_)
    · refine z_bipush (v := (-9)) dX6_certificate_18 rfl (by decide) ?_
      exact z_ireturn dX6_certificate_20 rfl rfl (Nat.le_refl _) (Nat.le_refl _) (fun _ => rfl) ⟨by simp only [X6_certificate_v, if_neg c1, if_pos c6], by simp only [X6_certificate_c64, X6_certificate_c65, if_neg c1, if_pos c6]⟩
    · refine z_iload_n dX6_certificate_9 rfl rfl ?_
      refine z_if_lt (tgt := 18) dX6_certificate_10 rfl (by decide) (fun c10 => ?_) (fun c10 => ?_)
      · refine z_bipush (v := (-9)) dX6_certificate_18 rfl (by decide) ?_
        exact z_ireturn dX6_certificate_20 rfl rfl (Nat.le_refl _) (Nat.le_refl _) (fun _ => rfl) ⟨by simp only [X6_certificate_v, if_neg c1, if_neg c6, if_pos c10], by simp only [X6_certificate_c64, X6_certificate_c65, if_neg c1, if_neg c6, if_pos c10]⟩
      · refine z_iload_n dX6_certificate_13 rfl rfl ?_
        refine z_iconst (v := nI 2) dX6_certificate_14 rfl (by decide) ?_
        refine z_icmp_le (tgt := 21) dX6_certificate_15 rfl (by decide) (fun c15 => ?_) (fun c15 => ?_)
        · refine z_aload_n dX6_certificate_21 rfl rfl ?_
          refine z_get dX6_certificate_22 rfl hiX6_certificate_X6 6 lkX6_certificate_46 (Nat.le_of_ble_eq_true rfl) h0 rfl (by decide) rfl ?_
          refine z_get dX6_certificate_25 rfl hiX6_certificate_X0 0 lkX6_certificate_85 (Nat.le_of_ble_eq_true rfl) h59 rfl (by decide) rfl ?_
          refine z_if_ne (tgt := 34) dX6_certificate_28 rfl (by decide) (fun c28 => ?_) (fun c28 => ?_)
          · have hvi : vp_in i 3 := zle_in c1 (Int32.not_lt.mp c6) (by decide)
            have hvw : vp_in w 3 := zle_in c10 c15 (by decide)
            have hli := zvlt hvi
            have hlw := zvlt hvw
            have hrw1 : 1 ≤ rw := Nat.pos_of_ne_zero (fun q => c28 (by rw [q]; rfl))
            refine z_lv (congrArg (fun z9 : Int32 => ([some (.ref (zB G + 0)), some (.int z9), some (.int w)] : List (Option Value))) (show i = (nI i.toNatClampNeg) from zvin hvi)) ?_
            refine z_lv (congrArg (fun z9 : Int32 => ([some (.ref (zB G + 0)), some (.int (nI i.toNatClampNeg)), some (.int z9)] : List (Option Value))) (show w = (nI w.toNatClampNeg) from zvin hvw)) ?_
            refine z_aload_n dX6_certificate_34 rfl rfl ?_
            refine z_get dX6_certificate_35 rfl hiX6_certificate_X6 6 lkX6_certificate_46 (Nat.le_of_ble_eq_true rfl) h0 rfl (by decide) rfl ?_
            refine z_iload_n dX6_certificate_38 rfl rfl ?_
            refine z_iload_n dX6_certificate_39 rfl rfl ?_
            refine z_callVi (c_X0_lastTerm G ex _ rw outc ts kd sgn rel tri bo oo fl ori now rl i.toNatClampNeg w.toNatClampNeg (by omega) (by omega) (by omega) (by omega) (by assumption) (by assumption) h59 h60 h61 h62 h63 h36 h37 h39 rfl rfl) gX6_certificate_X0_lastTerm rfl dX6_certificate_40 rfl rfl rfl okk_X0_lastTerm (Nat.le_of_ble_eq_true rfl) h59 rfl ⟨Nat.le_of_ble_eq_true rfl, Nat.le_of_ble_eq_true rfl⟩ ⟨Nat.le_of_ble_eq_true rfl, Nat.le_of_ble_eq_true rfl⟩ (Nat.le_of_ble_eq_true rfl) ?_
            refine z_nn (L' := [(64, (zI G 1000 (X0_lastTerm_c64 rw kd sgn rel tri fl ori now rl i.toNatClampNeg w.toNatClampNeg))), (65, (zI G 5 (X0_lastTerm_c65 rw kd sgn rel tri fl ori now rl i.toNatClampNeg w.toNatClampNeg)))]) rfl ?_
            exact z_ireturn dX6_certificate_43 rfl rfl (Nat.le_refl _) (Nat.le_refl _) (fun _ => rfl) ⟨by simp only [X6_certificate_v, if_neg c1, if_neg c6, if_neg c10, if_pos c15, if_neg c28], by simp only [X6_certificate_c64, X6_certificate_c65, if_neg c1, if_neg c6, if_neg c10, if_pos c15, if_neg c28]⟩
          · refine z_bipush (v := (-2)) dX6_certificate_31 rfl (by decide) ?_
            exact z_ireturn dX6_certificate_33 rfl rfl (Nat.le_refl _) (Nat.le_refl _) (fun _ => rfl) ⟨by simp only [X6_certificate_v, if_neg c1, if_neg c6, if_neg c10, if_pos c15, if_pos c28], by simp only [X6_certificate_c64, X6_certificate_c65, if_neg c1, if_neg c6, if_neg c10, if_pos c15, if_pos c28]⟩
        · refine z_bipush (v := (-9)) dX6_certificate_18 rfl (by decide) ?_
          exact z_ireturn dX6_certificate_20 rfl rfl (Nat.le_refl _) (Nat.le_refl _) (fun _ => rfl) ⟨by simp only [X6_certificate_v, if_neg c1, if_neg c6, if_neg c10, if_neg c15], by simp only [X6_certificate_c64, X6_certificate_c65, if_neg c1, if_neg c6, if_neg c10, if_neg c15]⟩
set_option maxRecDepth 100000 in
set_option maxHeartbeats 4000000 in
theorem c_X6_kinds_19 (G : zG) (ex : Bool) (g : Nat → va_E) (ont : Nat) (sd : Int32) (lea kee own im ren mv ch cnt : Nat → Int32) (n m : Int32)  (h0 : g 0 = (oCfg G 19 2 (nI ont))) (h67 : g 67 = (oFrm G sd)) (h68 : g 68 = (zI G 12 lea)) (h69 : g 69 = (zI G 13 kee)) (h70 : g 70 = (zI G 12 own)) (h71 : g 71 = (zI G 12 im)) (h72 : g 72 = (zI G 7 ren)) (h73 : g 73 = (zI G 7 mv)) (h74 : g 74 = (zI G 4 ch)) (h75 : g 75 = (zI G 35 cnt)) : zC G yX6_kinds wsX6_kinds (zrm 9 226) ex [.ref (zB G + 0), .int n, .int m] (zN, g) (fun r h => r = some (.int (X6_kinds_v im ren ch cnt n m)) ∧ h = (zN, zus g [(71, zI G 12 (X6_kinds_c71 im ren ch cnt n m)), (72, zI G 7 (X6_kinds_c72 im ren ch cnt n m)), (74, zI G 4 (X6_kinds_c74 im ren ch cnt n m)), (75, zI G 35 (X6_kinds_c75 im ren ch cnt n m))])) := by
  refine zC_of mX6_kinds (lv := [some (.ref (zB G + 0)), some (.int n), some (.int m)]) rfl rfl (by decide) (by intro v hv; simp at hv; rcases hv with rfl | rfl | rfl <;> rfl) (Nat.le_of_ble_eq_true rfl) rfl ?_
  refine z_0 ?_
  refine z_heap (g' := zu (zus g []) 71 (zI G 12 im)) (zu_self (zus g []) 71 _ h71).symm ?_
  refine z_n (L' := [(71, (zI G 12 im))]) rfl ?_
  refine z_heap (g' := zu (zus g [(71, (zI G 12 im))]) 72 (zI G 7 ren)) (zu_self (zus g [(71, (zI G 12 im))]) 72 _ h72).symm ?_
  refine z_n (L' := [(71, (zI G 12 im)), (72, (zI G 7 ren))]) rfl ?_
  refine z_heap (g' := zu (zus g [(71, (zI G 12 im)), (72, (zI G 7 ren))]) 74 (zI G 4 ch)) (zu_self (zus g [(71, (zI G 12 im)), (72, (zI G 7 ren))]) 74 _ h74).symm ?_
  refine z_n (L' := [(71, (zI G 12 im)), (72, (zI G 7 ren)), (74, (zI G 4 ch))]) rfl ?_
  refine z_heap (g' := zu (zus g [(71, (zI G 12 im)), (72, (zI G 7 ren)), (74, (zI G 4 ch))]) 75 (zI G 35 cnt)) (zu_self (zus g [(71, (zI G 12 im)), (72, (zI G 7 ren)), (74, (zI G 4 ch))]) 75 _ h75).symm ?_
  refine z_n (L' := [(71, (zI G 12 im)), (72, (zI G 7 ren)), (74, (zI G 4 ch)), (75, (zI G 35 cnt))]) rfl ?_
  refine z_iload_n dX6_kinds_0 rfl rfl ?_
  refine z_iconst (v := nI 3) dX6_kinds_1 rfl (by decide) ?_
  refine z_icmp_lt (tgt := 20) dX6_kinds_2 rfl (by decide) (fun c2 => ?_) (fun c2 => ?_)
  · refine z_bipush (v := (-9)) dX6_kinds_20 rfl (by decide) ?_
    exact z_ireturn dX6_kinds_22 rfl rfl (Nat.le_refl _) (Nat.le_refl _) (fun _ => rfl) ⟨by simp only [X6_kinds_v, if_pos c2], by simp only [X6_kinds_c71, X6_kinds_c72, X6_kinds_c74, X6_kinds_c75, if_pos c2]⟩
  · refine z_iload_n dX6_kinds_5 rfl rfl ?_
    refine z_bipush (v := nI 6) dX6_kinds_6 rfl (by decide) ?_
    refine z_icmp_gt (tgt := 20) dX6_kinds_8 rfl (by decide) (fun c8 => ?_) (fun c8 => ?_)
    · refine z_bipush (v := (-9)) dX6_kinds_20 rfl (by decide) ?_
      exact z_ireturn dX6_kinds_22 rfl rfl (Nat.le_refl _) (Nat.le_refl _) (fun _ => rfl) ⟨by simp only [X6_kinds_v, if_neg c2, if_pos c8], by simp only [X6_kinds_c71, X6_kinds_c72, X6_kinds_c74, X6_kinds_c75, if_neg c2, if_pos c8]⟩
    · refine z_iload_n dX6_kinds_11 rfl rfl ?_
      refine z_if_lt (tgt := 20) dX6_kinds_12 rfl (by decide) (fun c12 => ?_) (fun c12 => ?_)
      · refine z_bipush (v := (-9)) dX6_kinds_20 rfl (by decide) ?_
        exact z_ireturn dX6_kinds_22 rfl rfl (Nat.le_refl _) (Nat.le_refl _) (fun _ => rfl) ⟨by simp only [X6_kinds_v, if_neg c2, if_neg c8, if_pos c12], by simp only [X6_kinds_c71, X6_kinds_c72, X6_kinds_c74, X6_kinds_c75, if_neg c2, if_neg c8, if_pos c12]⟩
      · refine z_iload_n dX6_kinds_15 rfl rfl ?_
        refine z_iconst (v := nI 4) dX6_kinds_16 rfl (by decide) ?_
        refine z_icmp_le (tgt := 23) dX6_kinds_17 rfl (by decide) (fun c17 => ?_) (fun c17 => ?_)
        · have hn0 : ¬ n < 0 := fun q => c2 (Int32.lt_trans q (by decide))
          have hvn : vp_in n 7 := zle_in hn0 (Int32.not_lt.mp c8) (by decide)
          have hvm : vp_in m 5 := zle_in c12 c17 (by decide)
          have hln := zvlt hvn
          have hlm := zvlt hvm
          have hn3 : 3 ≤ n.toNatClampNeg := Nat.not_lt.mp (fun q => c2 (by rw [zvin hvn]; exact nI_lt q (by decide)))
          refine z_lv (congrArg (fun z9 : Int32 => ([some (.ref (zB G + 0)), some (.int z9), some (.int m)] : List (Option Value))) (show n = (nI n.toNatClampNeg) from zvin hvn)) ?_
          refine z_lv (congrArg (fun z9 : Int32 => ([some (.ref (zB G + 0)), some (.int (nI n.toNatClampNeg)), some (.int z9)] : List (Option Value))) (show m = (nI m.toNatClampNeg) from zvin hvm)) ?_
          refine z_aload_n dX6_kinds_23 rfl rfl ?_
          refine z_get dX6_kinds_24 rfl hiX6_kinds_X6 7 lkX6_kinds_53 (Nat.le_of_ble_eq_true rfl) h0 rfl (by decide) rfl ?_
          refine z_iload_n dX6_kinds_27 rfl rfl ?_
          refine z_iload_n dX6_kinds_28 rfl rfl ?_
          refine z_callVi (c_X1_kindsOf G ex _ sd ren im ch cnt n.toNatClampNeg m.toNatClampNeg (by omega) (by omega) (by omega) h67 rfl rfl rfl rfl) gX6_kinds_X1_kindsOf rfl dX6_kinds_29 rfl rfl rfl okk_X1_kindsOf (Nat.le_of_ble_eq_true rfl) h67 rfl ⟨Nat.le_of_ble_eq_true rfl, Nat.le_of_ble_eq_true rfl⟩ ⟨Nat.le_of_ble_eq_true rfl, Nat.le_of_ble_eq_true rfl⟩ (Nat.le_of_ble_eq_true rfl) ?_
          refine z_nn (L' := [(71, (zI G 12 (X1_kindsOf_c71 ren im ch cnt n.toNatClampNeg m.toNatClampNeg))), (72, (zI G 7 (X1_kindsOf_c72 ren im ch cnt n.toNatClampNeg m.toNatClampNeg))), (74, (zI G 4 (X1_kindsOf_c74 ren im ch cnt n.toNatClampNeg m.toNatClampNeg))), (75, (zI G 35 (X1_kindsOf_c75 ren im ch cnt n.toNatClampNeg m.toNatClampNeg)))]) rfl ?_
          exact z_ireturn dX6_kinds_32 rfl rfl (Nat.le_refl _) (Nat.le_refl _) (fun _ => rfl) ⟨by simp only [X6_kinds_v, if_neg c2, if_neg c8, if_neg c12, if_pos c17], by simp only [X6_kinds_c71, X6_kinds_c72, X6_kinds_c74, X6_kinds_c75, if_neg c2, if_neg c8, if_neg c12, if_pos c17]⟩
        · refine z_bipush (v := (-9)) dX6_kinds_20 rfl (by decide) ?_
          exact z_ireturn dX6_kinds_22 rfl rfl (Nat.le_refl _) (Nat.le_refl _) (fun _ => rfl) ⟨by simp only [X6_kinds_v, if_neg c2, if_neg c8, if_neg c12, if_neg c17], by simp only [X6_kinds_c71, X6_kinds_c72, X6_kinds_c74, X6_kinds_c75, if_neg c2, if_neg c8, if_neg c12, if_neg c17]⟩
set_option maxRecDepth 100000 in
set_option maxHeartbeats 4000000 in
theorem c_X6_renamable_19 (G : zG) (ex : Bool) (g : Nat → va_E) (pts lns ltr : Nat) (inw : Int32) (ont : Nat)   (h0 : g 0 = (oCfg G 19 2 (nI ont))) (h19 : g 19 = (oTxt G 19 (nI pts) (nI lns) (nI ltr) inw)) : zC G yX6_renamable wsX6_renamable (zrm 0 0) ex [.ref (zB G + 0)] (zN, g) (fun r h => r = some (.int (X6_renamable_v pts lns)) ∧ h = (zN, g)) := by
  refine zC_of mX6_renamable (lv := [some (.ref (zB G + 0))]) rfl rfl (by decide) (by intro v hv; simp at hv; subst hv; rfl) (Nat.le_of_ble_eq_true rfl) rfl ?_
  refine z_0 ?_
  refine z_aload_n dX6_renamable_0 rfl rfl ?_
  refine z_get dX6_renamable_1 rfl hiX6_renamable_X6 2 lkX6_renamable_20 (Nat.le_of_ble_eq_true rfl) h0 rfl (by decide) rfl ?_
  refine z_get dX6_renamable_4 rfl hiX6_renamable_X4 1 lkX6_renamable_76 (Nat.le_of_ble_eq_true rfl) h19 rfl (by decide) rfl ?_
  refine z_if_le (tgt := 26) dX6_renamable_7 rfl (by decide) (fun c7 => ?_) (fun c7 => ?_)
  · refine z_iconst (v := nI 0) dX6_renamable_26 rfl (by decide) ?_
    exact z_ireturn dX6_renamable_27 rfl rfl (Nat.le_refl _) (Nat.le_refl _) (fun _ => rfl) ⟨by simp only [X6_renamable_v, if_pos c7], rfl⟩
  · refine z_aload_n dX6_renamable_10 rfl rfl ?_
    refine z_get dX6_renamable_11 rfl hiX6_renamable_X6 2 lkX6_renamable_20 (Nat.le_of_ble_eq_true rfl) h0 rfl (by decide) rfl ?_
    refine z_get dX6_renamable_14 rfl hiX6_renamable_X4 0 lkX6_renamable_73 (Nat.le_of_ble_eq_true rfl) h19 rfl (by decide) rfl ?_
    refine z_bipush (v := nI 7) dX6_renamable_17 rfl (by decide) ?_
    refine z_icmp_gt (tgt := 26) dX6_renamable_19 rfl (by decide) (fun c19 => ?_) (fun c19 => ?_)
    · refine z_iconst (v := nI 0) dX6_renamable_26 rfl (by decide) ?_
      exact z_ireturn dX6_renamable_27 rfl rfl (Nat.le_refl _) (Nat.le_refl _) (fun _ => rfl) ⟨by simp only [X6_renamable_v, if_neg c7, if_pos c19], rfl⟩
    · refine z_iconst (v := nI 1) dX6_renamable_22 rfl (by decide) ?_
      refine z_goto (tgt := 27) dX6_renamable_23 (by decide) ?_
      exact z_ireturn dX6_renamable_27 rfl rfl (Nat.le_refl _) (Nat.le_refl _) (fun _ => rfl) ⟨by simp only [X6_renamable_v, if_neg c7, if_neg c19], rfl⟩
set_option maxRecDepth 100000 in
set_option maxHeartbeats 4000000 in
theorem c_X6_canonical_19 (G : zG) (ex : Bool) (g : Nat → va_E) (pts lns ltr : Nat) (inw : Int32) (ont : Nat) (msk : Nat → Int32) (sd : Int32) (lea kee own im ren mv ch cnt : Nat → Int32) (i : Int32) (hp : pts ≤ 10) (hl : lns ≤ 12) (hpl : 1 ≤ lns → 2 ≤ pts) (h0 : g 0 = (oCfg G 19 2 (nI ont))) (h19 : g 19 = (oTxt G 19 (nI pts) (nI lns) (nI ltr) inw)) (h35 : g 35 = (zI G 12 msk)) (h67 : g 67 = (oFrm G sd)) (h68 : g 68 = (zI G 12 lea)) (h69 : g 69 = (zI G 13 kee)) (h70 : g 70 = (zI G 12 own)) (h71 : g 71 = (zI G 12 im)) (h72 : g 72 = (zI G 7 ren)) (h73 : g 73 = (zI G 7 mv)) (h74 : g 74 = (zI G 4 ch)) (h75 : g 75 = (zI G 35 cnt)) : zC G yX6_canonical wsX6_canonical (zrm 3 88) ex [.ref (zB G + 0), .int i] (zN, g) (fun r h => r = some (.int (X6_canonical_v pts lns msk sd lea kee own im ren mv i)) ∧ h = (zN, zus g [(67, (oFrm G (X6_canonical_p67_0 pts lns sd i))), (68, zI G 12 (X6_canonical_c68 pts lns msk sd lea kee own im ren mv i)), (69, zI G 13 (X6_canonical_c69 pts lns msk sd lea kee own im ren mv i)), (70, zI G 12 (X6_canonical_c70 pts lns msk sd own i)), (71, zI G 12 (X6_canonical_c71 pts lns msk sd lea kee own im ren mv i)), (72, zI G 7 (X6_canonical_c72 pts lns msk sd lea kee own im ren mv i)), (73, zI G 7 (X6_canonical_c73 pts lns msk sd lea kee own im ren mv i))])) := by
  refine zC_of mX6_canonical (lv := [some (.ref (zB G + 0)), some (.int i)]) rfl rfl (by decide) (by intro v hv; simp at hv; rcases hv with rfl | rfl <;> rfl) (Nat.le_of_ble_eq_true rfl) rfl ?_
  refine z_0 ?_
  refine z_heap (g' := zu (zus g []) 67 (oFrm G sd)) (zu_self (zus g []) 67 _ h67).symm ?_
  refine z_n (L' := [(67, (oFrm G sd))]) rfl ?_
  refine z_heap (g' := zu (zus g [(67, (oFrm G sd))]) 68 (zI G 12 lea)) (zu_self (zus g [(67, (oFrm G sd))]) 68 _ h68).symm ?_
  refine z_n (L' := [(67, (oFrm G sd)), (68, (zI G 12 lea))]) rfl ?_
  refine z_heap (g' := zu (zus g [(67, (oFrm G sd)), (68, (zI G 12 lea))]) 69 (zI G 13 kee)) (zu_self (zus g [(67, (oFrm G sd)), (68, (zI G 12 lea))]) 69 _ h69).symm ?_
  refine z_n (L' := [(67, (oFrm G sd)), (68, (zI G 12 lea)), (69, (zI G 13 kee))]) rfl ?_
  refine z_heap (g' := zu (zus g [(67, (oFrm G sd)), (68, (zI G 12 lea)), (69, (zI G 13 kee))]) 70 (zI G 12 own)) (zu_self (zus g [(67, (oFrm G sd)), (68, (zI G 12 lea)), (69, (zI G 13 kee))]) 70 _ h70).symm ?_
  refine z_n (L' := [(67, (oFrm G sd)), (68, (zI G 12 lea)), (69, (zI G 13 kee)), (70, (zI G 12 own))]) rfl ?_
  refine z_heap (g' := zu (zus g [(67, (oFrm G sd)), (68, (zI G 12 lea)), (69, (zI G 13 kee)), (70, (zI G 12 own))]) 71 (zI G 12 im)) (zu_self (zus g [(67, (oFrm G sd)), (68, (zI G 12 lea)), (69, (zI G 13 kee)), (70, (zI G 12 own))]) 71 _ h71).symm ?_
  refine z_n (L' := [(67, (oFrm G sd)), (68, (zI G 12 lea)), (69, (zI G 13 kee)), (70, (zI G 12 own)), (71, (zI G 12 im))]) rfl ?_
  refine z_heap (g' := zu (zus g [(67, (oFrm G sd)), (68, (zI G 12 lea)), (69, (zI G 13 kee)), (70, (zI G 12 own)), (71, (zI G 12 im))]) 72 (zI G 7 ren)) (zu_self (zus g [(67, (oFrm G sd)), (68, (zI G 12 lea)), (69, (zI G 13 kee)), (70, (zI G 12 own)), (71, (zI G 12 im))]) 72 _ h72).symm ?_
  refine z_n (L' := [(67, (oFrm G sd)), (68, (zI G 12 lea)), (69, (zI G 13 kee)), (70, (zI G 12 own)), (71, (zI G 12 im)), (72, (zI G 7 ren))]) rfl ?_
  refine z_heap (g' := zu (zus g [(67, (oFrm G sd)), (68, (zI G 12 lea)), (69, (zI G 13 kee)), (70, (zI G 12 own)), (71, (zI G 12 im)), (72, (zI G 7 ren))]) 73 (zI G 7 mv)) (zu_self (zus g [(67, (oFrm G sd)), (68, (zI G 12 lea)), (69, (zI G 13 kee)), (70, (zI G 12 own)), (71, (zI G 12 im)), (72, (zI G 7 ren))]) 73 _ h73).symm ?_
  refine z_n (L' := [(67, (oFrm G sd)), (68, (zI G 12 lea)), (69, (zI G 13 kee)), (70, (zI G 12 own)), (71, (zI G 12 im)), (72, (zI G 7 ren)), (73, (zI G 7 mv))]) rfl ?_
  refine z_aload_n dX6_canonical_0 rfl rfl ?_
  refine z_callVi (c_X6_renamable_19 G ex _ pts lns ltr inw ont h0 h19) gX6_canonical_X6_renamable rfl dX6_canonical_1 rfl rfl rfl okk_X6_renamable (Nat.le_of_ble_eq_true rfl) h0 rfl ⟨Nat.le_of_ble_eq_true rfl, Nat.le_of_ble_eq_true rfl⟩ ⟨Nat.le_of_ble_eq_true rfl, Nat.le_of_ble_eq_true rfl⟩ (Nat.le_of_ble_eq_true rfl) ?_
  refine z_if_ne (tgt := 10) dX6_canonical_4 rfl (by decide) (fun c4 => ?_) (fun c4 => ?_)
  · refine z_iload_n dX6_canonical_10 rfl rfl ?_
    refine z_if_lt (tgt := 25) dX6_canonical_11 rfl (by decide) (fun c11 => ?_) (fun c11 => ?_)
    · refine z_bipush (v := (-4)) dX6_canonical_25 rfl (by decide) ?_
      exact z_ireturn dX6_canonical_27 rfl rfl (Nat.le_refl _) (Nat.le_refl _) (fun _ => rfl) ⟨by simp only [X6_canonical_v, if_neg c4, if_pos c11], by simp only [X6_canonical_p67_0, X6_canonical_c68, X6_canonical_c69, X6_canonical_c70, X6_canonical_c71, X6_canonical_c72, X6_canonical_c73, if_neg c4, if_pos c11]⟩
    · refine z_iload_n dX6_canonical_14 rfl rfl ?_
      refine z_aload_n dX6_canonical_15 rfl rfl ?_
      refine z_get dX6_canonical_16 rfl hiX6_canonical_X6 2 lkX6_canonical_20 (Nat.le_of_ble_eq_true rfl) h0 rfl (by decide) rfl ?_
      refine z_get dX6_canonical_19 rfl hiX6_canonical_X4 1 lkX6_canonical_76 (Nat.le_of_ble_eq_true rfl) h19 rfl (by decide) rfl ?_
      refine z_icmp_lt (tgt := 28) dX6_canonical_22 rfl (by decide) (fun c22 => ?_) (fun c22 => ?_)
      · obtain ⟨hp7, hl1⟩ := renamable_in c4 hp hl
        have hvi : vp_in i lns := zlt_in c11 (Int32.not_le.mpr c22) (by omega)
        have hli := zvlt hvi
        have hp2 := hpl hl1
        refine z_lv (congrArg (fun z9 : Int32 => ([some (.ref (zB G + 0)), some (.int z9)] : List (Option Value))) (show i = (nI i.toNatClampNeg) from zvin hvi)) ?_
        refine z_aload_n dX6_canonical_28 rfl rfl ?_
        refine z_get dX6_canonical_29 rfl hiX6_canonical_X6 7 lkX6_canonical_53 (Nat.le_of_ble_eq_true rfl) h0 rfl (by decide) rfl ?_
        refine z_aload_n dX6_canonical_32 rfl rfl ?_
        refine z_get dX6_canonical_33 rfl hiX6_canonical_X6 2 lkX6_canonical_20 (Nat.le_of_ble_eq_true rfl) h0 rfl (by decide) rfl ?_
        refine z_callVv (c_X1_study_19 G ex _ sd pts lns (nI ltr) inw msk lea kee own im ren mv (by omega) (by omega) (by omega) rfl h19 h35 rfl rfl rfl rfl rfl rfl) gX6_canonical_X1_study rfl dX6_canonical_36 rfl rfl rfl okk_X1_study (Nat.le_of_ble_eq_true rfl) rfl rfl ⟨Nat.le_of_ble_eq_true rfl, Nat.le_of_ble_eq_true rfl⟩ ⟨Nat.le_of_ble_eq_true rfl, Nat.le_of_ble_eq_true rfl⟩ (Nat.le_of_ble_eq_true rfl) ?_
        refine z_nn (L' := [(67, (oFrm G (X1_study_p67_0 sd))), (68, (zI G 12 (X1_study_c68 sd pts lns msk lea kee own im ren mv))), (69, (zI G 13 (X1_study_c69 sd pts lns msk lea kee own im ren mv))), (70, (zI G 12 (X1_study_c70 sd lns msk own))), (71, (zI G 12 (X1_study_c71 sd pts lns msk lea kee own im ren mv))), (72, (zI G 7 (X1_study_c72 sd pts lns msk lea kee own im ren mv))), (73, (zI G 7 (X1_study_c73 sd pts lns msk lea kee own im ren mv)))]) rfl ?_
        refine z_aload_n dX6_canonical_39 rfl rfl ?_
        refine z_get dX6_canonical_40 rfl hiX6_canonical_X6 7 lkX6_canonical_53 (Nat.le_of_ble_eq_true rfl) h0 rfl (by decide) rfl ?_
        refine z_get dX6_canonical_43 rfl hiX6_canonical_X1 0 lkX6_canonical_208 (Nat.le_of_ble_eq_true rfl) rfl rfl (by decide) rfl ?_
        refine z_iload_n dX6_canonical_46 rfl rfl ?_
        refine z_ialdN (j := i.toNatClampNeg) dX6_canonical_47 rfl (Nat.le_of_ble_eq_true rfl) rfl (rfl) (by omega) (by decide) ?_
        exact z_ireturn dX6_canonical_48 rfl rfl (Nat.le_refl _) (Nat.le_refl _) (fun _ => rfl) ⟨by simp only [X6_canonical_v, if_neg c4, if_neg c11, if_pos c22], by simp only [X6_canonical_p67_0, X6_canonical_c68, X6_canonical_c69, X6_canonical_c70, X6_canonical_c71, X6_canonical_c72, X6_canonical_c73, if_neg c4, if_neg c11, if_pos c22]⟩
      · refine z_bipush (v := (-4)) dX6_canonical_25 rfl (by decide) ?_
        exact z_ireturn dX6_canonical_27 rfl rfl (Nat.le_refl _) (Nat.le_refl _) (fun _ => rfl) ⟨by simp only [X6_canonical_v, if_neg c4, if_neg c11, if_neg c22], by simp only [X6_canonical_p67_0, X6_canonical_c68, X6_canonical_c69, X6_canonical_c70, X6_canonical_c71, X6_canonical_c72, X6_canonical_c73, if_neg c4, if_neg c11, if_neg c22]⟩
  · refine z_bipush (v := (-2)) dX6_canonical_7 rfl (by decide) ?_
    exact z_ireturn dX6_canonical_9 rfl rfl (Nat.le_refl _) (Nat.le_refl _) (fun _ => rfl) ⟨by simp only [X6_canonical_v, if_pos c4], by simp only [X6_canonical_p67_0, X6_canonical_c68, X6_canonical_c69, X6_canonical_c70, X6_canonical_c71, X6_canonical_c72, X6_canonical_c73, if_pos c4]⟩
set_option maxRecDepth 100000 in
set_option maxHeartbeats 4000000 in
theorem c_X6_orbit_19 (G : zG) (ex : Bool) (g : Nat → va_E) (pts lns ltr : Nat) (inw : Int32) (ont : Nat) (msk : Nat → Int32) (sd : Int32) (lea kee own im ren mv ch cnt : Nat → Int32) (i : Int32) (hp : pts ≤ 10) (hl : lns ≤ 12) (hpl : 1 ≤ lns → 2 ≤ pts) (h0 : g 0 = (oCfg G 19 2 (nI ont))) (h19 : g 19 = (oTxt G 19 (nI pts) (nI lns) (nI ltr) inw)) (h35 : g 35 = (zI G 12 msk)) (h67 : g 67 = (oFrm G sd)) (h68 : g 68 = (zI G 12 lea)) (h69 : g 69 = (zI G 13 kee)) (h70 : g 70 = (zI G 12 own)) (h71 : g 71 = (zI G 12 im)) (h72 : g 72 = (zI G 7 ren)) (h73 : g 73 = (zI G 7 mv)) (h74 : g 74 = (zI G 4 ch)) (h75 : g 75 = (zI G 35 cnt)) : zC G yX6_orbit wsX6_orbit (zrm 3 88) ex [.ref (zB G + 0), .int i] (zN, g) (fun r h => r = some (.int (X6_orbit_v pts lns msk sd lea kee own im ren mv i)) ∧ h = (zN, zus g [(67, (oFrm G (X6_orbit_p67_0 pts lns sd i))), (68, zI G 12 (X6_orbit_c68 pts lns msk sd lea kee own im ren mv i)), (69, zI G 13 (X6_orbit_c69 pts lns msk sd lea kee own im ren mv i)), (70, zI G 12 (X6_orbit_c70 pts lns msk sd own i)), (71, zI G 12 (X6_orbit_c71 pts lns msk sd lea kee own im ren mv i)), (72, zI G 7 (X6_orbit_c72 pts lns msk sd lea kee own im ren mv i)), (73, zI G 7 (X6_orbit_c73 pts lns msk sd lea kee own im ren mv i))])) := by
  refine zC_of mX6_orbit (lv := [some (.ref (zB G + 0)), some (.int i)]) rfl rfl (by decide) (by intro v hv; simp at hv; rcases hv with rfl | rfl <;> rfl) (Nat.le_of_ble_eq_true rfl) rfl ?_
  refine z_0 ?_
  refine z_heap (g' := zu (zus g []) 67 (oFrm G sd)) (zu_self (zus g []) 67 _ h67).symm ?_
  refine z_n (L' := [(67, (oFrm G sd))]) rfl ?_
  refine z_heap (g' := zu (zus g [(67, (oFrm G sd))]) 68 (zI G 12 lea)) (zu_self (zus g [(67, (oFrm G sd))]) 68 _ h68).symm ?_
  refine z_n (L' := [(67, (oFrm G sd)), (68, (zI G 12 lea))]) rfl ?_
  refine z_heap (g' := zu (zus g [(67, (oFrm G sd)), (68, (zI G 12 lea))]) 69 (zI G 13 kee)) (zu_self (zus g [(67, (oFrm G sd)), (68, (zI G 12 lea))]) 69 _ h69).symm ?_
  refine z_n (L' := [(67, (oFrm G sd)), (68, (zI G 12 lea)), (69, (zI G 13 kee))]) rfl ?_
  refine z_heap (g' := zu (zus g [(67, (oFrm G sd)), (68, (zI G 12 lea)), (69, (zI G 13 kee))]) 70 (zI G 12 own)) (zu_self (zus g [(67, (oFrm G sd)), (68, (zI G 12 lea)), (69, (zI G 13 kee))]) 70 _ h70).symm ?_
  refine z_n (L' := [(67, (oFrm G sd)), (68, (zI G 12 lea)), (69, (zI G 13 kee)), (70, (zI G 12 own))]) rfl ?_
  refine z_heap (g' := zu (zus g [(67, (oFrm G sd)), (68, (zI G 12 lea)), (69, (zI G 13 kee)), (70, (zI G 12 own))]) 71 (zI G 12 im)) (zu_self (zus g [(67, (oFrm G sd)), (68, (zI G 12 lea)), (69, (zI G 13 kee)), (70, (zI G 12 own))]) 71 _ h71).symm ?_
  refine z_n (L' := [(67, (oFrm G sd)), (68, (zI G 12 lea)), (69, (zI G 13 kee)), (70, (zI G 12 own)), (71, (zI G 12 im))]) rfl ?_
  refine z_heap (g' := zu (zus g [(67, (oFrm G sd)), (68, (zI G 12 lea)), (69, (zI G 13 kee)), (70, (zI G 12 own)), (71, (zI G 12 im))]) 72 (zI G 7 ren)) (zu_self (zus g [(67, (oFrm G sd)), (68, (zI G 12 lea)), (69, (zI G 13 kee)), (70, (zI G 12 own)), (71, (zI G 12 im))]) 72 _ h72).symm ?_
  refine z_n (L' := [(67, (oFrm G sd)), (68, (zI G 12 lea)), (69, (zI G 13 kee)), (70, (zI G 12 own)), (71, (zI G 12 im)), (72, (zI G 7 ren))]) rfl ?_
  refine z_heap (g' := zu (zus g [(67, (oFrm G sd)), (68, (zI G 12 lea)), (69, (zI G 13 kee)), (70, (zI G 12 own)), (71, (zI G 12 im)), (72, (zI G 7 ren))]) 73 (zI G 7 mv)) (zu_self (zus g [(67, (oFrm G sd)), (68, (zI G 12 lea)), (69, (zI G 13 kee)), (70, (zI G 12 own)), (71, (zI G 12 im)), (72, (zI G 7 ren))]) 73 _ h73).symm ?_
  refine z_n (L' := [(67, (oFrm G sd)), (68, (zI G 12 lea)), (69, (zI G 13 kee)), (70, (zI G 12 own)), (71, (zI G 12 im)), (72, (zI G 7 ren)), (73, (zI G 7 mv))]) rfl ?_
  refine z_iload_n dX6_orbit_0 rfl rfl ?_
  refine z_if_ge (tgt := 7) dX6_orbit_1 rfl (by decide) (fun c1 => ?_) (fun c1 => ?_)
  · refine z_aload_n dX6_orbit_7 rfl rfl ?_
    refine z_callVi (c_X6_renamable_19 G ex _ pts lns ltr inw ont h0 h19) gX6_orbit_X6_renamable rfl dX6_orbit_8 rfl rfl rfl okk_X6_renamable (Nat.le_of_ble_eq_true rfl) h0 rfl ⟨Nat.le_of_ble_eq_true rfl, Nat.le_of_ble_eq_true rfl⟩ ⟨Nat.le_of_ble_eq_true rfl, Nat.le_of_ble_eq_true rfl⟩ (Nat.le_of_ble_eq_true rfl) ?_
    refine z_if_ne (tgt := 17) dX6_orbit_11 rfl (by decide) (fun c11 => ?_) (fun c11 => ?_)
    · refine z_iload_n dX6_orbit_17 rfl rfl ?_
      refine z_bipush (v := nI 12) dX6_orbit_18 rfl (by decide) ?_
      refine z_icmp_le (tgt := 25) dX6_orbit_20 rfl (by decide) (fun c20 => ?_) (fun c20 => ?_)
      · obtain ⟨hp7, hl1⟩ := renamable_in c11 hp hl
        have hvi : vp_in i 13 := zle_in (Int32.not_lt.mpr c1) c20 (by decide)
        have hli := zvlt hvi
        have hp2 := hpl hl1
        refine z_lv (congrArg (fun z9 : Int32 => ([some (.ref (zB G + 0)), some (.int z9)] : List (Option Value))) (show i = (nI i.toNatClampNeg) from zvin hvi)) ?_
        refine z_aload_n dX6_orbit_25 rfl rfl ?_
        refine z_get dX6_orbit_26 rfl hiX6_orbit_X6 7 lkX6_orbit_53 (Nat.le_of_ble_eq_true rfl) h0 rfl (by decide) rfl ?_
        refine z_aload_n dX6_orbit_29 rfl rfl ?_
        refine z_get dX6_orbit_30 rfl hiX6_orbit_X6 2 lkX6_orbit_20 (Nat.le_of_ble_eq_true rfl) h0 rfl (by decide) rfl ?_
        refine z_callVv (c_X1_study_19 G ex _ sd pts lns (nI ltr) inw msk lea kee own im ren mv (by omega) (by omega) (by omega) rfl h19 h35 rfl rfl rfl rfl rfl rfl) gX6_orbit_X1_study rfl dX6_orbit_33 rfl rfl rfl okk_X1_study (Nat.le_of_ble_eq_true rfl) rfl rfl ⟨Nat.le_of_ble_eq_true rfl, Nat.le_of_ble_eq_true rfl⟩ ⟨Nat.le_of_ble_eq_true rfl, Nat.le_of_ble_eq_true rfl⟩ (Nat.le_of_ble_eq_true rfl) ?_
        refine z_nn (L' := [(67, (oFrm G (X1_study_p67_0 sd))), (68, (zI G 12 (X1_study_c68 sd pts lns msk lea kee own im ren mv))), (69, (zI G 13 (X1_study_c69 sd pts lns msk lea kee own im ren mv))), (70, (zI G 12 (X1_study_c70 sd lns msk own))), (71, (zI G 12 (X1_study_c71 sd pts lns msk lea kee own im ren mv))), (72, (zI G 7 (X1_study_c72 sd pts lns msk lea kee own im ren mv))), (73, (zI G 7 (X1_study_c73 sd pts lns msk lea kee own im ren mv)))]) rfl ?_
        refine z_aload_n dX6_orbit_36 rfl rfl ?_
        refine z_get dX6_orbit_37 rfl hiX6_orbit_X6 7 lkX6_orbit_53 (Nat.le_of_ble_eq_true rfl) h0 rfl (by decide) rfl ?_
        refine z_get dX6_orbit_40 rfl hiX6_orbit_X1 1 lkX6_orbit_211 (Nat.le_of_ble_eq_true rfl) rfl rfl (by decide) rfl ?_
        refine z_iload_n dX6_orbit_43 rfl rfl ?_
        refine z_ialdN (j := i.toNatClampNeg) dX6_orbit_44 rfl (Nat.le_of_ble_eq_true rfl) rfl (rfl) (by omega) (by decide) ?_
        exact z_ireturn dX6_orbit_45 rfl rfl (Nat.le_refl _) (Nat.le_refl _) (fun _ => rfl) ⟨by simp only [X6_orbit_v, if_pos c1, if_neg c11, if_pos c20], by simp only [X6_orbit_p67_0, X6_orbit_c68, X6_orbit_c69, X6_orbit_c70, X6_orbit_c71, X6_orbit_c72, X6_orbit_c73, if_pos c1, if_neg c11, if_pos c20]⟩
      · refine z_iconst (v := nI 0) dX6_orbit_23 rfl (by decide) ?_
        exact z_ireturn dX6_orbit_24 rfl rfl (Nat.le_refl _) (Nat.le_refl _) (fun _ => rfl) ⟨by simp only [X6_orbit_v, if_pos c1, if_neg c11, if_neg c20], by simp only [X6_orbit_p67_0, X6_orbit_c68, X6_orbit_c69, X6_orbit_c70, X6_orbit_c71, X6_orbit_c72, X6_orbit_c73, if_pos c1, if_neg c11, if_neg c20]⟩
    · refine z_bipush (v := (-2)) dX6_orbit_14 rfl (by decide) ?_
      exact z_ireturn dX6_orbit_16 rfl rfl (Nat.le_refl _) (Nat.le_refl _) (fun _ => rfl) ⟨by simp only [X6_orbit_v, if_pos c1, if_pos c11], by simp only [X6_orbit_p67_0, X6_orbit_c68, X6_orbit_c69, X6_orbit_c70, X6_orbit_c71, X6_orbit_c72, X6_orbit_c73, if_pos c1, if_pos c11]⟩
  · refine z_bipush (v := (-9)) dX6_orbit_4 rfl (by decide) ?_
    exact z_ireturn dX6_orbit_6 rfl rfl (Nat.le_refl _) (Nat.le_refl _) (fun _ => rfl) ⟨by simp only [X6_orbit_v, if_neg c1], by simp only [X6_orbit_p67_0, X6_orbit_c68, X6_orbit_c69, X6_orbit_c70, X6_orbit_c71, X6_orbit_c72, X6_orbit_c73, if_neg c1]⟩
