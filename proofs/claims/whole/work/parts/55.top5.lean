abbrev mX6_meet : zM := (cX6_meet, 4, (some .int), RX6, wsX6_meet, "meet")
def X6_meet_v (lns : Nat) (wd : Nat → Nat → Int32) (fnd : Int32) (fd : Nat) (n0 n1 n2 : Nat → Int32) (plc p1 p2 l1 l2 : Nat → Int32) (a b : Int32) : Int32 := X6_placeOfBoth_v lns wd fnd fd n0 n1 n2 plc p1 p2 l1 l2 a b
def X6_meet_c55 (lns : Nat) (wd : Nat → Nat → Int32) (fnd : Int32) (fd : Nat) (n0 n1 n2 : Nat → Int32) (plc p1 p2 l1 l2 : Nat → Int32) (a b : Int32) : Nat → Int32 := X6_placeOfBoth_c55 lns wd fnd fd n0 n1 n2 plc p1 p2 l1 l2 a b
def X6_meet_c56 (lns : Nat) (wd : Nat → Nat → Int32) (fnd : Int32) (fd : Nat) (n0 n1 n2 : Nat → Int32) (plc p2 : Nat → Int32) (a b : Int32) : Nat → Int32 := X6_placeOfBoth_c56 lns wd fnd fd n0 n1 n2 plc p2 a b
def X6_meet_c57 (lns : Nat) (wd : Nat → Nat → Int32) (fnd : Int32) (fd : Nat) (n0 n1 n2 : Nat → Int32) (plc p1 p2 l1 : Nat → Int32) (a b : Int32) : Nat → Int32 := X6_placeOfBoth_c57 lns wd fnd fd n0 n1 n2 plc p1 p2 l1 a b
def X6_meet_c58 (lns : Nat) (wd : Nat → Nat → Int32) (fnd : Int32) (fd : Nat) (n0 n1 n2 : Nat → Int32) (plc p1 p2 l2 : Nat → Int32) (a b : Int32) : Nat → Int32 := X6_placeOfBoth_c58 lns wd fnd fd n0 n1 n2 plc p1 p2 l2 a b
set_option maxRecDepth 100000 in
set_option maxHeartbeats 4000000 in
theorem c_X6_meet_2 (G : zG) (ex : Bool) (g : Nat → va_E) (pts lns ltr : Nat) (inw : Int32) (ont : Nat) (wd : Nat → Nat → Int32) (fnd : Int32) (stp : Nat) (fd psz : Nat) (n0 n1 n2 : Nat → Int32) (plc p1 p2 l1 l2 : Nat → Int32) (a b : Int32) (hl : lns ≤ 12) (hw : ∀ l, l < lns → vp_in (wd l 0) pts ∧ vp_in (wd l 1) pts) (hp : pts ≤ 10) (hpc : ¬ fnd = 0 → ∀ k, k < pts → vp_in (plc k) 183) (hpd : ¬ fd = 0 → fd ≤ 13) (hne : ¬ X6_placeOfBoth_v lns wd fnd fd n0 n1 n2 plc p1 p2 l1 l2 a b = -4) (h0 : g 0 = (oCfg G 2 19 (nI ont))) (h2 : g 2 = (oTxt G 2 (nI pts) (nI lns) (nI ltr) inw)) (h5 : g 5 = (zR G 12 (zrw G 12 6))) (h6 : ∀ l9, l9 < 12 → g (6 + l9) = zI G 5 (wd l9)) (h40 : g 40 = (oSch G fnd (nI stp))) (h41 : g 41 = (oPln G (nI fd) (nI psz))) (h42 : g 42 = (zR G 3 (zrw G 3 43))) (h43 : g 43 = (zI G 183 n0)) (h44 : g 44 = (zI G 183 n1)) (h45 : g 45 = (zI G 183 n2)) (h46 : g 46 = (zI G 10 plc)) (h55 : g 55 = (zI G 3 p1)) (h56 : g 56 = (zI G 3 p2)) (h57 : g 57 = (zI G 3 l1)) (h58 : g 58 = (zI G 3 l2)) : zC G yX6_meet wsX6_meet (zrm 6 133) ex [.ref (zB G + 0), .int a, .int b] (zN, g) (fun r h => r = some (.int (X6_meet_v lns wd fnd fd n0 n1 n2 plc p1 p2 l1 l2 a b)) ∧ h = (zN, zus g [(55, zI G 3 (X6_meet_c55 lns wd fnd fd n0 n1 n2 plc p1 p2 l1 l2 a b)), (56, zI G 3 (X6_meet_c56 lns wd fnd fd n0 n1 n2 plc p2 a b)), (57, zI G 3 (X6_meet_c57 lns wd fnd fd n0 n1 n2 plc p1 p2 l1 a b)), (58, zI G 3 (X6_meet_c58 lns wd fnd fd n0 n1 n2 plc p1 p2 l2 a b))])) := by
  refine zC_of mX6_meet (lv := [some (.ref (zB G + 0)), some (.int a), some (.int b), none]) rfl rfl (by decide) (by intro v hv; simp at hv; rcases hv with rfl | rfl | rfl <;> rfl) (Nat.le_of_ble_eq_true rfl) rfl ?_
  refine z_0 ?_
  refine z_heap (g' := zu (zus g []) 55 (zI G 3 p1)) (zu_self (zus g []) 55 _ h55).symm ?_
  refine z_n (L' := [(55, (zI G 3 p1))]) rfl ?_
  refine z_heap (g' := zu (zus g [(55, (zI G 3 p1))]) 56 (zI G 3 p2)) (zu_self (zus g [(55, (zI G 3 p1))]) 56 _ h56).symm ?_
  refine z_n (L' := [(55, (zI G 3 p1)), (56, (zI G 3 p2))]) rfl ?_
  refine z_heap (g' := zu (zus g [(55, (zI G 3 p1)), (56, (zI G 3 p2))]) 57 (zI G 3 l1)) (zu_self (zus g [(55, (zI G 3 p1)), (56, (zI G 3 p2))]) 57 _ h57).symm ?_
  refine z_n (L' := [(55, (zI G 3 p1)), (56, (zI G 3 p2)), (57, (zI G 3 l1))]) rfl ?_
  refine z_heap (g' := zu (zus g [(55, (zI G 3 p1)), (56, (zI G 3 p2)), (57, (zI G 3 l1))]) 58 (zI G 3 l2)) (zu_self (zus g [(55, (zI G 3 p1)), (56, (zI G 3 p2)), (57, (zI G 3 l1))]) 58 _ h58).symm ?_
  refine z_n (L' := [(55, (zI G 3 p1)), (56, (zI G 3 p2)), (57, (zI G 3 l1)), (58, (zI G 3 l2))]) rfl ?_
  refine z_aload_n dX6_meet_0 rfl rfl ?_
  refine z_iload_n dX6_meet_1 rfl rfl ?_
  refine z_iload_n dX6_meet_2 rfl rfl ?_
  refine z_callVi (c_X6_placeOfBoth_2 G ex _ pts lns ltr inw ont wd fnd stp fd psz n0 n1 n2 plc p1 p2 l1 l2 a b (by omega) (by assumption) (by omega) (by assumption) (by assumption) h0 h2 h5 (fun l9 hl9 => zus_out (by intro q hq; simp at hq; omega) (h6 l9 hl9)) h40 h41 h42 h43 h44 h45 h46 rfl rfl rfl rfl) gX6_meet_X6_placeOfBoth rfl dX6_meet_3 rfl rfl rfl okk_X6_placeOfBoth (Nat.le_of_ble_eq_true rfl) h0 rfl ⟨Nat.le_of_ble_eq_true rfl, Nat.le_of_ble_eq_true rfl⟩ ⟨Nat.le_of_ble_eq_true rfl, Nat.le_of_ble_eq_true rfl⟩ (Nat.le_of_ble_eq_true rfl) ?_
  refine z_nn (L' := [(55, (zI G 3 (X6_placeOfBoth_c55 lns wd fnd fd n0 n1 n2 plc p1 p2 l1 l2 a b))), (56, (zI G 3 (X6_placeOfBoth_c56 lns wd fnd fd n0 n1 n2 plc p2 a b))), (57, (zI G 3 (X6_placeOfBoth_c57 lns wd fnd fd n0 n1 n2 plc p1 p2 l1 a b))), (58, (zI G 3 (X6_placeOfBoth_c58 lns wd fnd fd n0 n1 n2 plc p1 p2 l2 a b)))]) rfl ?_
  refine z_istore_3 dX6_meet_6 rfl ?_
  refine z_iload_n dX6_meet_7 rfl rfl ?_
  refine z_bipush (v := (-4)) dX6_meet_8 rfl (by decide) ?_
  refine z_icmp_ne (tgt := 23) dX6_meet_10 rfl (by decide) (fun c10 => ?_) (fun c10 => ?_)
  · refine z_iload_n dX6_meet_23 rfl rfl ?_
    exact z_ireturn dX6_meet_24 rfl rfl (Nat.le_refl _) (Nat.le_refl _) (fun _ => rfl) ⟨by simp only [X6_meet_v], by simp only [X6_meet_c55, X6_meet_c56, X6_meet_c57, X6_meet_c58]⟩
  · exact absurd c10 (hne)
theorem meX6_meet_thk : Cond.classLink RX6 156 "java/lang/ArithmeticException" ∈ wsX6_meet := by decide +kernel
theorem meX6_meet_thi : Cond.initialized "java/lang/ArithmeticException" ∈ wsX6_meet := by decide +kernel
set_option maxRecDepth 100000 in
set_option maxHeartbeats 4000000 in
theorem x_X6_meet_2 (G : zG) (hlT : (zl G).stackTraces = false) (g : Nat → va_E) (pts lns ltr : Nat) (inw : Int32) (ont : Nat) (wd : Nat → Nat → Int32) (fnd : Int32) (stp : Nat) (fd psz : Nat) (n0 n1 n2 : Nat → Int32) (plc p1 p2 l1 l2 : Nat → Int32) (a b : Int32) (hl : lns ≤ 12) (hw : ∀ l, l < lns → vp_in (wd l 0) pts ∧ vp_in (wd l 1) pts) (hp : pts ≤ 10) (hpc : ¬ fnd = 0 → ∀ k, k < pts → vp_in (plc k) 183) (hpd : ¬ fd = 0 → fd ≤ 13) (heq : X6_placeOfBoth_v lns wd fnd fd n0 n1 n2 plc p1 p2 l1 l2 a b = -4) (h0 : g 0 = (oCfg G 2 19 (nI ont))) (h2 : g 2 = (oTxt G 2 (nI pts) (nI lns) (nI ltr) inw)) (h5 : g 5 = (zR G 12 (zrw G 12 6))) (h6 : ∀ l9, l9 < 12 → g (6 + l9) = zI G 5 (wd l9)) (h40 : g 40 = (oSch G fnd (nI stp))) (h41 : g 41 = (oPln G (nI fd) (nI psz))) (h42 : g 42 = (zR G 3 (zrw G 3 43))) (h43 : g 43 = (zI G 183 n0)) (h44 : g 44 = (zI G 183 n1)) (h45 : g 45 = (zI G 183 n2)) (h46 : g 46 = (zI G 10 plc)) (h55 : g 55 = (zI G 3 p1)) (h56 : g 56 = (zI G 3 p2)) (h57 : g 57 = (zI G 3 l1)) (h58 : g 58 = (zI G 3 l2)) : zCX G yX6_meet wsX6_meet { frames := 6, cells := 1, slots := 6, locals := 133 } [.ref (zB G + 0), .int a, .int b] (zN, g) (zN, zus g [(55, (zI G 3 (X6_placeOfBoth_c55 lns wd fnd fd n0 n1 n2 plc p1 p2 l1 l2 a b))), (56, (zI G 3 (X6_placeOfBoth_c56 lns wd fnd fd n0 n1 n2 plc p2 a b))), (57, (zI G 3 (X6_placeOfBoth_c57 lns wd fnd fd n0 n1 n2 plc p1 p2 l1 a b))), (58, (zI G 3 (X6_placeOfBoth_c58 lns wd fnd fd n0 n1 n2 plc p1 p2 l2 a b)))]) := by
  refine zCX_of mX6_meet (lv := [some (.ref (zB G + 0)), some (.int a), some (.int b), none]) rfl rfl (by decide) (by intro v hv; simp at hv; rcases hv with rfl | rfl | rfl <;> rfl) (Nat.le_of_ble_eq_true rfl) rfl ?_
  refine zt_0 ?_
  refine zt_heap (g' := zu (zus g []) 55 (zI G 3 p1)) (zu_self (zus g []) 55 _ h55).symm ?_
  refine zt_n (L' := [(55, (zI G 3 p1))]) rfl ?_
  refine zt_heap (g' := zu (zus g [(55, (zI G 3 p1))]) 56 (zI G 3 p2)) (zu_self (zus g [(55, (zI G 3 p1))]) 56 _ h56).symm ?_
  refine zt_n (L' := [(55, (zI G 3 p1)), (56, (zI G 3 p2))]) rfl ?_
  refine zt_heap (g' := zu (zus g [(55, (zI G 3 p1)), (56, (zI G 3 p2))]) 57 (zI G 3 l1)) (zu_self (zus g [(55, (zI G 3 p1)), (56, (zI G 3 p2))]) 57 _ h57).symm ?_
  refine zt_n (L' := [(55, (zI G 3 p1)), (56, (zI G 3 p2)), (57, (zI G 3 l1))]) rfl ?_
  refine zt_heap (g' := zu (zus g [(55, (zI G 3 p1)), (56, (zI G 3 p2)), (57, (zI G 3 l1))]) 58 (zI G 3 l2)) (zu_self (zus g [(55, (zI G 3 p1)), (56, (zI G 3 p2)), (57, (zI G 3 l1))]) 58 _ h58).symm ?_
  refine zt_n (L' := [(55, (zI G 3 p1)), (56, (zI G 3 p2)), (57, (zI G 3 l1)), (58, (zI G 3 l2))]) rfl ?_
  refine zt_aload_n dX6_meet_0 rfl rfl ?_
  refine zt_iload_n dX6_meet_1 rfl rfl ?_
  refine zt_iload_n dX6_meet_2 rfl rfl ?_
  refine zt_callVi (c_X6_placeOfBoth_2 G false _ pts lns ltr inw ont wd fnd stp fd psz n0 n1 n2 plc p1 p2 l1 l2 a b (by omega) (by assumption) (by omega) (by assumption) (by assumption) h0 h2 h5 (fun l9 hl9 => zus_out (by intro q hq; simp at hq; omega) (h6 l9 hl9)) h40 h41 h42 h43 h44 h45 h46 rfl rfl rfl rfl) gX6_meet_X6_placeOfBoth rfl dX6_meet_3 rfl rfl rfl okk_X6_placeOfBoth (Nat.le_of_ble_eq_true rfl) h0 rfl ⟨Nat.le_of_ble_eq_true rfl, Nat.le_of_ble_eq_true rfl⟩ ⟨Nat.le_of_ble_eq_true rfl, Nat.le_of_ble_eq_true rfl⟩ (Nat.le_of_ble_eq_true rfl) ?_
  refine zt_nn (L' := [(55, (zI G 3 (X6_placeOfBoth_c55 lns wd fnd fd n0 n1 n2 plc p1 p2 l1 l2 a b))), (56, (zI G 3 (X6_placeOfBoth_c56 lns wd fnd fd n0 n1 n2 plc p2 a b))), (57, (zI G 3 (X6_placeOfBoth_c57 lns wd fnd fd n0 n1 n2 plc p1 p2 l1 a b))), (58, (zI G 3 (X6_placeOfBoth_c58 lns wd fnd fd n0 n1 n2 plc p1 p2 l2 a b)))]) rfl ?_
  refine zt_istore_3 dX6_meet_6 rfl ?_
  refine zt_iload_n dX6_meet_7 rfl rfl ?_
  refine zt_bipush (v := (-4)) dX6_meet_8 rfl (by decide) ?_
  refine zt_icmp_ne (tgt := 23) dX6_meet_10 rfl (by decide) (fun c10 => ?_) (fun c10 => ?_)
  · exact absurd (heq) c10
  · exact zt_throw (tx := "the lines lie on one another") hlT rfl meX6_meet_thk meX6_meet_thi (by intro w hw; simp only [zws, mX6_meet, wsX6_meet]; exact List.mem_cons_of_mem _ (List.mem_append_right _ hw)) (fun s hK => hK.2.1.2.2.2.2.2.2.1) dX6_meet_13 dX6_meet_16 dX6_meet_17 dX6_meet_19 dX6_meet_22 ⟨Nat.le_of_ble_eq_true rfl, Nat.le_of_ble_eq_true rfl⟩ (Nat.le_refl _) (Nat.le_refl _) rfl
set_option maxRecDepth 100000 in
set_option maxHeartbeats 4000000 in
theorem c_X6_meet_19 (G : zG) (ex : Bool) (g : Nat → va_E) (pts lns ltr : Nat) (inw : Int32) (ont : Nat) (wd : Nat → Nat → Int32) (fnd : Int32) (stp : Nat) (fd psz : Nat) (n0 n1 n2 : Nat → Int32) (plc p1 p2 l1 l2 : Nat → Int32) (a b : Int32) (hl : lns ≤ 12) (hw : ∀ l, l < lns → vp_in (wd l 0) pts ∧ vp_in (wd l 1) pts) (hp : pts ≤ 10) (hpc : ¬ fnd = 0 → ∀ k, k < pts → vp_in (plc k) 183) (hpd : ¬ fd = 0 → fd ≤ 13) (hne : ¬ X6_placeOfBoth_v lns wd fnd fd n0 n1 n2 plc p1 p2 l1 l2 a b = -4) (h0 : g 0 = (oCfg G 19 2 (nI ont))) (h19 : g 19 = (oTxt G 19 (nI pts) (nI lns) (nI ltr) inw)) (h22 : g 22 = (zR G 12 (zrw G 12 23))) (h23 : ∀ l9, l9 < 12 → g (23 + l9) = zI G 5 (wd l9)) (h40 : g 40 = (oSch G fnd (nI stp))) (h41 : g 41 = (oPln G (nI fd) (nI psz))) (h42 : g 42 = (zR G 3 (zrw G 3 43))) (h43 : g 43 = (zI G 183 n0)) (h44 : g 44 = (zI G 183 n1)) (h45 : g 45 = (zI G 183 n2)) (h46 : g 46 = (zI G 10 plc)) (h55 : g 55 = (zI G 3 p1)) (h56 : g 56 = (zI G 3 p2)) (h57 : g 57 = (zI G 3 l1)) (h58 : g 58 = (zI G 3 l2)) : zC G yX6_meet wsX6_meet (zrm 6 133) ex [.ref (zB G + 0), .int a, .int b] (zN, g) (fun r h => r = some (.int (X6_meet_v lns wd fnd fd n0 n1 n2 plc p1 p2 l1 l2 a b)) ∧ h = (zN, zus g [(55, zI G 3 (X6_meet_c55 lns wd fnd fd n0 n1 n2 plc p1 p2 l1 l2 a b)), (56, zI G 3 (X6_meet_c56 lns wd fnd fd n0 n1 n2 plc p2 a b)), (57, zI G 3 (X6_meet_c57 lns wd fnd fd n0 n1 n2 plc p1 p2 l1 a b)), (58, zI G 3 (X6_meet_c58 lns wd fnd fd n0 n1 n2 plc p1 p2 l2 a b))])) := by
  refine zC_of mX6_meet (lv := [some (.ref (zB G + 0)), some (.int a), some (.int b), none]) rfl rfl (by decide) (by intro v hv; simp at hv; rcases hv with rfl | rfl | rfl <;> rfl) (Nat.le_of_ble_eq_true rfl) rfl ?_
  refine z_0 ?_
  refine z_heap (g' := zu (zus g []) 55 (zI G 3 p1)) (zu_self (zus g []) 55 _ h55).symm ?_
  refine z_n (L' := [(55, (zI G 3 p1))]) rfl ?_
  refine z_heap (g' := zu (zus g [(55, (zI G 3 p1))]) 56 (zI G 3 p2)) (zu_self (zus g [(55, (zI G 3 p1))]) 56 _ h56).symm ?_
  refine z_n (L' := [(55, (zI G 3 p1)), (56, (zI G 3 p2))]) rfl ?_
  refine z_heap (g' := zu (zus g [(55, (zI G 3 p1)), (56, (zI G 3 p2))]) 57 (zI G 3 l1)) (zu_self (zus g [(55, (zI G 3 p1)), (56, (zI G 3 p2))]) 57 _ h57).symm ?_
  refine z_n (L' := [(55, (zI G 3 p1)), (56, (zI G 3 p2)), (57, (zI G 3 l1))]) rfl ?_
  refine z_heap (g' := zu (zus g [(55, (zI G 3 p1)), (56, (zI G 3 p2)), (57, (zI G 3 l1))]) 58 (zI G 3 l2)) (zu_self (zus g [(55, (zI G 3 p1)), (56, (zI G 3 p2)), (57, (zI G 3 l1))]) 58 _ h58).symm ?_
  refine z_n (L' := [(55, (zI G 3 p1)), (56, (zI G 3 p2)), (57, (zI G 3 l1)), (58, (zI G 3 l2))]) rfl ?_
  refine z_aload_n dX6_meet_0 rfl rfl ?_
  refine z_iload_n dX6_meet_1 rfl rfl ?_
  refine z_iload_n dX6_meet_2 rfl rfl ?_
  refine z_callVi (c_X6_placeOfBoth_19 G ex _ pts lns ltr inw ont wd fnd stp fd psz n0 n1 n2 plc p1 p2 l1 l2 a b (by omega) (by assumption) (by omega) (by assumption) (by assumption) h0 h19 h22 (fun l9 hl9 => zus_out (by intro q hq; simp at hq; omega) (h23 l9 hl9)) h40 h41 h42 h43 h44 h45 h46 rfl rfl rfl rfl) gX6_meet_X6_placeOfBoth rfl dX6_meet_3 rfl rfl rfl okk_X6_placeOfBoth (Nat.le_of_ble_eq_true rfl) h0 rfl ⟨Nat.le_of_ble_eq_true rfl, Nat.le_of_ble_eq_true rfl⟩ ⟨Nat.le_of_ble_eq_true rfl, Nat.le_of_ble_eq_true rfl⟩ (Nat.le_of_ble_eq_true rfl) ?_
  refine z_nn (L' := [(55, (zI G 3 (X6_placeOfBoth_c55 lns wd fnd fd n0 n1 n2 plc p1 p2 l1 l2 a b))), (56, (zI G 3 (X6_placeOfBoth_c56 lns wd fnd fd n0 n1 n2 plc p2 a b))), (57, (zI G 3 (X6_placeOfBoth_c57 lns wd fnd fd n0 n1 n2 plc p1 p2 l1 a b))), (58, (zI G 3 (X6_placeOfBoth_c58 lns wd fnd fd n0 n1 n2 plc p1 p2 l2 a b)))]) rfl ?_
  refine z_istore_3 dX6_meet_6 rfl ?_
  refine z_iload_n dX6_meet_7 rfl rfl ?_
  refine z_bipush (v := (-4)) dX6_meet_8 rfl (by decide) ?_
  refine z_icmp_ne (tgt := 23) dX6_meet_10 rfl (by decide) (fun c10 => ?_) (fun c10 => ?_)
  · refine z_iload_n dX6_meet_23 rfl rfl ?_
    exact z_ireturn dX6_meet_24 rfl rfl (Nat.le_refl _) (Nat.le_refl _) (fun _ => rfl) ⟨by simp only [X6_meet_v], by simp only [X6_meet_c55, X6_meet_c56, X6_meet_c57, X6_meet_c58]⟩
  · exact absurd c10 (hne)
set_option maxRecDepth 100000 in
set_option maxHeartbeats 4000000 in
theorem x_X6_meet_19 (G : zG) (hlT : (zl G).stackTraces = false) (g : Nat → va_E) (pts lns ltr : Nat) (inw : Int32) (ont : Nat) (wd : Nat → Nat → Int32) (fnd : Int32) (stp : Nat) (fd psz : Nat) (n0 n1 n2 : Nat → Int32) (plc p1 p2 l1 l2 : Nat → Int32) (a b : Int32) (hl : lns ≤ 12) (hw : ∀ l, l < lns → vp_in (wd l 0) pts ∧ vp_in (wd l 1) pts) (hp : pts ≤ 10) (hpc : ¬ fnd = 0 → ∀ k, k < pts → vp_in (plc k) 183) (hpd : ¬ fd = 0 → fd ≤ 13) (heq : X6_placeOfBoth_v lns wd fnd fd n0 n1 n2 plc p1 p2 l1 l2 a b = -4) (h0 : g 0 = (oCfg G 19 2 (nI ont))) (h19 : g 19 = (oTxt G 19 (nI pts) (nI lns) (nI ltr) inw)) (h22 : g 22 = (zR G 12 (zrw G 12 23))) (h23 : ∀ l9, l9 < 12 → g (23 + l9) = zI G 5 (wd l9)) (h40 : g 40 = (oSch G fnd (nI stp))) (h41 : g 41 = (oPln G (nI fd) (nI psz))) (h42 : g 42 = (zR G 3 (zrw G 3 43))) (h43 : g 43 = (zI G 183 n0)) (h44 : g 44 = (zI G 183 n1)) (h45 : g 45 = (zI G 183 n2)) (h46 : g 46 = (zI G 10 plc)) (h55 : g 55 = (zI G 3 p1)) (h56 : g 56 = (zI G 3 p2)) (h57 : g 57 = (zI G 3 l1)) (h58 : g 58 = (zI G 3 l2)) : zCX G yX6_meet wsX6_meet { frames := 6, cells := 1, slots := 6, locals := 133 } [.ref (zB G + 0), .int a, .int b] (zN, g) (zN, zus g [(55, (zI G 3 (X6_placeOfBoth_c55 lns wd fnd fd n0 n1 n2 plc p1 p2 l1 l2 a b))), (56, (zI G 3 (X6_placeOfBoth_c56 lns wd fnd fd n0 n1 n2 plc p2 a b))), (57, (zI G 3 (X6_placeOfBoth_c57 lns wd fnd fd n0 n1 n2 plc p1 p2 l1 a b))), (58, (zI G 3 (X6_placeOfBoth_c58 lns wd fnd fd n0 n1 n2 plc p1 p2 l2 a b)))]) := by
  refine zCX_of mX6_meet (lv := [some (.ref (zB G + 0)), some (.int a), some (.int b), none]) rfl rfl (by decide) (by intro v hv; simp at hv; rcases hv with rfl | rfl | rfl <;> rfl) (Nat.le_of_ble_eq_true rfl) rfl ?_
  refine zt_0 ?_
  refine zt_heap (g' := zu (zus g []) 55 (zI G 3 p1)) (zu_self (zus g []) 55 _ h55).symm ?_
  refine zt_n (L' := [(55, (zI G 3 p1))]) rfl ?_
  refine zt_heap (g' := zu (zus g [(55, (zI G 3 p1))]) 56 (zI G 3 p2)) (zu_self (zus g [(55, (zI G 3 p1))]) 56 _ h56).symm ?_
  refine zt_n (L' := [(55, (zI G 3 p1)), (56, (zI G 3 p2))]) rfl ?_
  refine zt_heap (g' := zu (zus g [(55, (zI G 3 p1)), (56, (zI G 3 p2))]) 57 (zI G 3 l1)) (zu_self (zus g [(55, (zI G 3 p1)), (56, (zI G 3 p2))]) 57 _ h57).symm ?_
  refine zt_n (L' := [(55, (zI G 3 p1)), (56, (zI G 3 p2)), (57, (zI G 3 l1))]) rfl ?_
  refine zt_heap (g' := zu (zus g [(55, (zI G 3 p1)), (56, (zI G 3 p2)), (57, (zI G 3 l1))]) 58 (zI G 3 l2)) (zu_self (zus g [(55, (zI G 3 p1)), (56, (zI G 3 p2)), (57, (zI G 3 l1))]) 58 _ h58).symm ?_
  refine zt_n (L' := [(55, (zI G 3 p1)), (56, (zI G 3 p2)), (57, (zI G 3 l1)), (58, (zI G 3 l2))]) rfl ?_
  refine zt_aload_n dX6_meet_0 rfl rfl ?_
  refine zt_iload_n dX6_meet_1 rfl rfl ?_
  refine zt_iload_n dX6_meet_2 rfl rfl ?_
  refine zt_callVi (c_X6_placeOfBoth_19 G false _ pts lns ltr inw ont wd fnd stp fd psz n0 n1 n2 plc p1 p2 l1 l2 a b (by omega) (by assumption) (by omega) (by assumption) (by assumption) h0 h19 h22 (fun l9 hl9 => zus_out (by intro q hq; simp at hq; omega) (h23 l9 hl9)) h40 h41 h42 h43 h44 h45 h46 rfl rfl rfl rfl) gX6_meet_X6_placeOfBoth rfl dX6_meet_3 rfl rfl rfl okk_X6_placeOfBoth (Nat.le_of_ble_eq_true rfl) h0 rfl ⟨Nat.le_of_ble_eq_true rfl, Nat.le_of_ble_eq_true rfl⟩ ⟨Nat.le_of_ble_eq_true rfl, Nat.le_of_ble_eq_true rfl⟩ (Nat.le_of_ble_eq_true rfl) ?_
  refine zt_nn (L' := [(55, (zI G 3 (X6_placeOfBoth_c55 lns wd fnd fd n0 n1 n2 plc p1 p2 l1 l2 a b))), (56, (zI G 3 (X6_placeOfBoth_c56 lns wd fnd fd n0 n1 n2 plc p2 a b))), (57, (zI G 3 (X6_placeOfBoth_c57 lns wd fnd fd n0 n1 n2 plc p1 p2 l1 a b))), (58, (zI G 3 (X6_placeOfBoth_c58 lns wd fnd fd n0 n1 n2 plc p1 p2 l2 a b)))]) rfl ?_
  refine zt_istore_3 dX6_meet_6 rfl ?_
  refine zt_iload_n dX6_meet_7 rfl rfl ?_
  refine zt_bipush (v := (-4)) dX6_meet_8 rfl (by decide) ?_
  refine zt_icmp_ne (tgt := 23) dX6_meet_10 rfl (by decide) (fun c10 => ?_) (fun c10 => ?_)
  · exact absurd (heq) c10
  · exact zt_throw (tx := "the lines lie on one another") hlT rfl meX6_meet_thk meX6_meet_thi (by intro w hw; simp only [zws, mX6_meet, wsX6_meet]; exact List.mem_cons_of_mem _ (List.mem_append_right _ hw)) (fun s hK => hK.2.1.2.2.2.2.2.2.1) dX6_meet_13 dX6_meet_16 dX6_meet_17 dX6_meet_19 dX6_meet_22 ⟨Nat.le_of_ble_eq_true rfl, Nat.le_of_ble_eq_true rfl⟩ (Nat.le_refl _) (Nat.le_refl _) rfl
abbrev mX6_pivot : zM := (cX6_pivot, 5, (some .int), RX6, wsX6_pivot, "pivot")
def X6_pivot_v (p v d : Int32) : Int32 := if (X6_isPrime_v p) = 0 then (-9) else (X2_quotient_v p.toNatClampNeg v d)
set_option maxRecDepth 100000 in
set_option maxHeartbeats 4000000 in
theorem c_X6_pivot_2 (G : zG) (ex : Bool) (g : Nat → va_E) (ont : Nat) (p v d : Int32) (hne : ¬ X6_isPrime_v p = 0 → ¬ X2_quotient_v p.toNatClampNeg v d = -4) (h0 : g 0 = (oCfg G 2 19 (nI ont))) : zC G yX6_pivot wsX6_pivot (zrm 2 47) ex [.ref (zB G + 0), .int p, .int v, .int d] (zN, g) (fun r h => r = some (.int (X6_pivot_v p v d)) ∧ h = (zN, g)) := by
  refine zC_of mX6_pivot (lv := [some (.ref (zB G + 0)), some (.int p), some (.int v), some (.int d), none]) rfl rfl (by decide) (by intro v hv; simp at hv; rcases hv with rfl | rfl | rfl | rfl <;> rfl) (Nat.le_of_ble_eq_true rfl) rfl ?_
  refine z_0 ?_
  refine z_iload_n dX6_pivot_0 rfl rfl ?_
  refine z_callSi (c_X6_isPrime G ex _ p) gX6_pivot_X6_isPrime rfl dX6_pivot_1 rfl rfl okk_X6_isPrime ⟨Nat.le_of_ble_eq_true rfl, Nat.le_of_ble_eq_true rfl⟩ ⟨Nat.le_of_ble_eq_true rfl, Nat.le_of_ble_eq_true rfl⟩ (Nat.le_of_ble_eq_true rfl) ?_
  refine z_if_ne (tgt := 10) dX6_pivot_4 rfl (by decide) (fun c4 => ?_) (fun c4 => ?_)
  · have hpr := c4
    obtain ⟨hvp, hp1⟩ := prime_v hpr
    have hlp := zvlt hvp
    refine z_lv (congrArg (fun z9 : Int32 => ([some (.ref (zB G + 0)), some (.int z9), some (.int v), some (.int d), none] : List (Option Value))) (show p = (nI p.toNatClampNeg) from zvin hvp)) ?_
    refine z_iload_n dX6_pivot_10 rfl rfl ?_
    refine z_iload_n dX6_pivot_11 rfl rfl ?_
    refine z_iload_n dX6_pivot_12 rfl rfl ?_
    refine z_callSi (c_X2_quotient G ex _ p.toNatClampNeg v d (by omega) (by omega)) gX6_pivot_X2_quotient rfl dX6_pivot_13 rfl rfl okk_X2_quotient ⟨Nat.le_of_ble_eq_true rfl, Nat.le_of_ble_eq_true rfl⟩ ⟨Nat.le_of_ble_eq_true rfl, Nat.le_of_ble_eq_true rfl⟩ (Nat.le_of_ble_eq_true rfl) ?_
    refine z_istore_4 dX6_pivot_16 rfl ?_
    refine z_iload dX6_pivot_18 rfl rfl ?_
    refine z_bipush (v := (-4)) dX6_pivot_20 rfl (by decide) ?_
    refine z_icmp_ne (tgt := 35) dX6_pivot_22 rfl (by decide) (fun c22 => ?_) (fun c22 => ?_)
    · refine z_iload dX6_pivot_35 rfl rfl ?_
      exact z_ireturn dX6_pivot_37 rfl rfl (Nat.le_refl _) (Nat.le_refl _) (fun _ => rfl) ⟨by simp only [X6_pivot_v, if_neg c4], rfl⟩
    · exact absurd c22 (hne hpr)
  · refine z_bipush (v := (-9)) dX6_pivot_7 rfl (by decide) ?_
    exact z_ireturn dX6_pivot_9 rfl rfl (Nat.le_refl _) (Nat.le_refl _) (fun _ => rfl) ⟨by simp only [X6_pivot_v, if_pos c4], rfl⟩
theorem meX6_pivot_thk : Cond.classLink RX6 156 "java/lang/ArithmeticException" ∈ wsX6_pivot := by decide +kernel
theorem meX6_pivot_thi : Cond.initialized "java/lang/ArithmeticException" ∈ wsX6_pivot := by decide +kernel
set_option maxRecDepth 100000 in
set_option maxHeartbeats 4000000 in
theorem x_X6_pivot_2 (G : zG) (hlT : (zl G).stackTraces = false) (g : Nat → va_E) (ont : Nat) (p v d : Int32) (hpr : ¬ X6_isPrime_v p = 0) (heq : X2_quotient_v p.toNatClampNeg v d = -4) (h0 : g 0 = (oCfg G 2 19 (nI ont))) : zCX G yX6_pivot wsX6_pivot { frames := 6, cells := 1, slots := 6, locals := 82 } [.ref (zB G + 0), .int p, .int v, .int d] (zN, g) (zN, zus g []) := by
  refine zCX_of mX6_pivot (lv := [some (.ref (zB G + 0)), some (.int p), some (.int v), some (.int d), none]) rfl rfl (by decide) (by intro v hv; simp at hv; rcases hv with rfl | rfl | rfl | rfl <;> rfl) (Nat.le_of_ble_eq_true rfl) rfl ?_
  refine zt_0 ?_
  refine zt_iload_n dX6_pivot_0 rfl rfl ?_
  refine zt_callSi (c_X6_isPrime G false _ p) gX6_pivot_X6_isPrime rfl dX6_pivot_1 rfl rfl okk_X6_isPrime ⟨Nat.le_of_ble_eq_true rfl, Nat.le_of_ble_eq_true rfl⟩ ⟨Nat.le_of_ble_eq_true rfl, Nat.le_of_ble_eq_true rfl⟩ (Nat.le_of_ble_eq_true rfl) ?_
  refine zt_if_ne (tgt := 10) dX6_pivot_4 rfl (by decide) (fun c4 => ?_) (fun c4 => ?_)
  · obtain ⟨hvp, hp1⟩ := prime_v hpr
    have hlp := zvlt hvp
    refine zt_lv (congrArg (fun z9 : Int32 => ([some (.ref (zB G + 0)), some (.int z9), some (.int v), some (.int d), none] : List (Option Value))) (show p = (nI p.toNatClampNeg) from zvin hvp)) ?_
    refine zt_iload_n dX6_pivot_10 rfl rfl ?_
    refine zt_iload_n dX6_pivot_11 rfl rfl ?_
    refine zt_iload_n dX6_pivot_12 rfl rfl ?_
    refine zt_callSi (c_X2_quotient G false _ p.toNatClampNeg v d (by omega) (by omega)) gX6_pivot_X2_quotient rfl dX6_pivot_13 rfl rfl okk_X2_quotient ⟨Nat.le_of_ble_eq_true rfl, Nat.le_of_ble_eq_true rfl⟩ ⟨Nat.le_of_ble_eq_true rfl, Nat.le_of_ble_eq_true rfl⟩ (Nat.le_of_ble_eq_true rfl) ?_
    refine zt_istore_4 dX6_pivot_16 rfl ?_
    refine zt_iload dX6_pivot_18 rfl rfl ?_
    refine zt_bipush (v := (-4)) dX6_pivot_20 rfl (by decide) ?_
    refine zt_icmp_ne (tgt := 35) dX6_pivot_22 rfl (by decide) (fun c22 => ?_) (fun c22 => ?_)
    · exact absurd (heq) c22
    · exact zt_throw (tx := "the divisor is a multiple of the prime") hlT rfl meX6_pivot_thk meX6_pivot_thi (by intro w hw; simp only [zws, mX6_pivot, wsX6_pivot]; exact List.mem_cons_of_mem _ (List.mem_append_right _ hw)) (fun s hK => hK.2.1.2.2.2.2.2.2.2.1) dX6_pivot_25 dX6_pivot_28 dX6_pivot_29 dX6_pivot_31 dX6_pivot_34 ⟨Nat.le_of_ble_eq_true rfl, Nat.le_of_ble_eq_true rfl⟩ (Nat.le_refl _) (Nat.le_refl _) rfl
  · exact absurd c4 (hpr)
set_option maxRecDepth 100000 in
set_option maxHeartbeats 4000000 in
theorem c_X6_pivot_19 (G : zG) (ex : Bool) (g : Nat → va_E) (ont : Nat) (p v d : Int32) (hne : ¬ X6_isPrime_v p = 0 → ¬ X2_quotient_v p.toNatClampNeg v d = -4) (h0 : g 0 = (oCfg G 19 2 (nI ont))) : zC G yX6_pivot wsX6_pivot (zrm 2 47) ex [.ref (zB G + 0), .int p, .int v, .int d] (zN, g) (fun r h => r = some (.int (X6_pivot_v p v d)) ∧ h = (zN, g)) := by
  refine zC_of mX6_pivot (lv := [some (.ref (zB G + 0)), some (.int p), some (.int v), some (.int d), none]) rfl rfl (by decide) (by intro v hv; simp at hv; rcases hv with rfl | rfl | rfl | rfl <;> rfl) (Nat.le_of_ble_eq_true rfl) rfl ?_
  refine z_0 ?_
  refine z_iload_n dX6_pivot_0 rfl rfl ?_
  refine z_callSi (c_X6_isPrime G ex _ p) gX6_pivot_X6_isPrime rfl dX6_pivot_1 rfl rfl okk_X6_isPrime ⟨Nat.le_of_ble_eq_true rfl, Nat.le_of_ble_eq_true rfl⟩ ⟨Nat.le_of_ble_eq_true rfl, Nat.le_of_ble_eq_true rfl⟩ (Nat.le_of_ble_eq_true rfl) ?_
  refine z_if_ne (tgt := 10) dX6_pivot_4 rfl (by decide) (fun c4 => ?_) (fun c4 => ?_)
  · have hpr := c4
    obtain ⟨hvp, hp1⟩ := prime_v hpr
    have hlp := zvlt hvp
    refine z_lv (congrArg (fun z9 : Int32 => ([some (.ref (zB G + 0)), some (.int z9), some (.int v), some (.int d), none] : List (Option Value))) (show p = (nI p.toNatClampNeg) from zvin hvp)) ?_
    refine z_iload_n dX6_pivot_10 rfl rfl ?_
    refine z_iload_n dX6_pivot_11 rfl rfl ?_
    refine z_iload_n dX6_pivot_12 rfl rfl ?_
    refine z_callSi (c_X2_quotient G ex _ p.toNatClampNeg v d (by omega) (by omega)) gX6_pivot_X2_quotient rfl dX6_pivot_13 rfl rfl okk_X2_quotient ⟨Nat.le_of_ble_eq_true rfl, Nat.le_of_ble_eq_true rfl⟩ ⟨Nat.le_of_ble_eq_true rfl, Nat.le_of_ble_eq_true rfl⟩ (Nat.le_of_ble_eq_true rfl) ?_
    refine z_istore_4 dX6_pivot_16 rfl ?_
    refine z_iload dX6_pivot_18 rfl rfl ?_
    refine z_bipush (v := (-4)) dX6_pivot_20 rfl (by decide) ?_
    refine z_icmp_ne (tgt := 35) dX6_pivot_22 rfl (by decide) (fun c22 => ?_) (fun c22 => ?_)
    · refine z_iload dX6_pivot_35 rfl rfl ?_
      exact z_ireturn dX6_pivot_37 rfl rfl (Nat.le_refl _) (Nat.le_refl _) (fun _ => rfl) ⟨by simp only [X6_pivot_v, if_neg c4], rfl⟩
    · exact absurd c22 (hne hpr)
  · refine z_bipush (v := (-9)) dX6_pivot_7 rfl (by decide) ?_
    exact z_ireturn dX6_pivot_9 rfl rfl (Nat.le_refl _) (Nat.le_refl _) (fun _ => rfl) ⟨by simp only [X6_pivot_v, if_pos c4], rfl⟩
set_option maxRecDepth 100000 in
set_option maxHeartbeats 4000000 in
theorem x_X6_pivot_19 (G : zG) (hlT : (zl G).stackTraces = false) (g : Nat → va_E) (ont : Nat) (p v d : Int32) (hpr : ¬ X6_isPrime_v p = 0) (heq : X2_quotient_v p.toNatClampNeg v d = -4) (h0 : g 0 = (oCfg G 19 2 (nI ont))) : zCX G yX6_pivot wsX6_pivot { frames := 6, cells := 1, slots := 6, locals := 82 } [.ref (zB G + 0), .int p, .int v, .int d] (zN, g) (zN, zus g []) := by
  refine zCX_of mX6_pivot (lv := [some (.ref (zB G + 0)), some (.int p), some (.int v), some (.int d), none]) rfl rfl (by decide) (by intro v hv; simp at hv; rcases hv with rfl | rfl | rfl | rfl <;> rfl) (Nat.le_of_ble_eq_true rfl) rfl ?_
  refine zt_0 ?_
  refine zt_iload_n dX6_pivot_0 rfl rfl ?_
  refine zt_callSi (c_X6_isPrime G false _ p) gX6_pivot_X6_isPrime rfl dX6_pivot_1 rfl rfl okk_X6_isPrime ⟨Nat.le_of_ble_eq_true rfl, Nat.le_of_ble_eq_true rfl⟩ ⟨Nat.le_of_ble_eq_true rfl, Nat.le_of_ble_eq_true rfl⟩ (Nat.le_of_ble_eq_true rfl) ?_
  refine zt_if_ne (tgt := 10) dX6_pivot_4 rfl (by decide) (fun c4 => ?_) (fun c4 => ?_)
  · obtain ⟨hvp, hp1⟩ := prime_v hpr
    have hlp := zvlt hvp
    refine zt_lv (congrArg (fun z9 : Int32 => ([some (.ref (zB G + 0)), some (.int z9), some (.int v), some (.int d), none] : List (Option Value))) (show p = (nI p.toNatClampNeg) from zvin hvp)) ?_
    refine zt_iload_n dX6_pivot_10 rfl rfl ?_
    refine zt_iload_n dX6_pivot_11 rfl rfl ?_
    refine zt_iload_n dX6_pivot_12 rfl rfl ?_
    refine zt_callSi (c_X2_quotient G false _ p.toNatClampNeg v d (by omega) (by omega)) gX6_pivot_X2_quotient rfl dX6_pivot_13 rfl rfl okk_X2_quotient ⟨Nat.le_of_ble_eq_true rfl, Nat.le_of_ble_eq_true rfl⟩ ⟨Nat.le_of_ble_eq_true rfl, Nat.le_of_ble_eq_true rfl⟩ (Nat.le_of_ble_eq_true rfl) ?_
    refine zt_istore_4 dX6_pivot_16 rfl ?_
    refine zt_iload dX6_pivot_18 rfl rfl ?_
    refine zt_bipush (v := (-4)) dX6_pivot_20 rfl (by decide) ?_
    refine zt_icmp_ne (tgt := 35) dX6_pivot_22 rfl (by decide) (fun c22 => ?_) (fun c22 => ?_)
    · exact absurd (heq) c22
    · exact zt_throw (tx := "the divisor is a multiple of the prime") hlT rfl meX6_pivot_thk meX6_pivot_thi (by intro w hw; simp only [zws, mX6_pivot, wsX6_pivot]; exact List.mem_cons_of_mem _ (List.mem_append_right _ hw)) (fun s hK => hK.2.1.2.2.2.2.2.2.2.1) dX6_pivot_25 dX6_pivot_28 dX6_pivot_29 dX6_pivot_31 dX6_pivot_34 ⟨Nat.le_of_ble_eq_true rfl, Nat.le_of_ble_eq_true rfl⟩ (Nat.le_refl _) (Nat.le_refl _) rfl
  · exact absurd c4 (hpr)
