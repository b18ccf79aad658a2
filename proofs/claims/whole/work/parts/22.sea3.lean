def c2N (m : Nat) : Nat := m * (m - 1) / 2
def c3N (h : Nat) : Nat := h * (h - 1) * (h - 2) / 6
theorem c2N_s : ∀ m, m < 11 → c2N (m + 1) = c2N m + m := by decide +kernel
theorem c3N_s : ∀ m, m < 11 → c3N (m + 1) = c3N m + c2N m := by decide +kernel
theorem c3N_lt0 : ∀ h, h < 10 → ∀ m, m < h → ∀ l, l < m → c3N h + c2N m + l < 120 := by decide +kernel
theorem c3N_lt {h m l w : Nat} (hh : h < 10) (hm : m < h) (hl : l < m) (hw : w ≤ c3N h + c2N m + l) : w < 120 := Nat.lt_of_le_of_lt hw (c3N_lt0 h hh m hm l hl)
theorem c3N_10 : ∀ h, h < 11 → c3N h ≤ 120 := by decide +kernel
abbrev mX3_gatherWants : zM := (cX3_gatherWants, 7, none, RX3, wsX3_gatherWants, "gatherWants")
theorem hiX3_gatherWants_X3 : ∀ w ∈ wsX30, w ∈ wsX3_gatherWants := fun w h => List.mem_cons_of_mem _ (List.mem_append_left _ (List.mem_append_left _ (List.mem_append_right _ h)))
theorem lkX3_gatherWants_30 : Cond.fieldLink RX3 30 "ConfigSearch$Search" "begin" "[I" ∈ wsX3_gatherWants := by decide +kernel
theorem okk_X3_isWanted : zOk yX3_isWanted 1 := by unfold zOk; decide +kernel
theorem lkX3_gatherWants_33 : Cond.fieldLink RX3 33 "ConfigSearch$Search" "low" "[I" ∈ wsX3_gatherWants := by decide +kernel
theorem lkX3_gatherWants_36 : Cond.fieldLink RX3 36 "ConfigSearch$Search" "middle" "[I" ∈ wsX3_gatherWants := by decide +kernel
theorem lkX3_gatherWants_39 : Cond.fieldLink RX3 39 "ConfigSearch$Search" "wanted" "[I" ∈ wsX3_gatherWants := by decide +kernel
theorem okk_X3_wantOf : zOk yX3_wantOf 1 := by unfold zOk; decide +kernel
def X3_gatherWants_L28_F (fld : Int32) (fl : Nat → Int32) (ba : Nat → Int32) (ori : Nat → Int32) (hh : Nat) (mm : Nat) (ll : Nat) (a9 : (Nat) × (Nat → Int32) × (Nat → Int32) × (Nat → Int32) × (Nat → Int32)) : (Nat) × (Nat → Int32) × (Nat → Int32) × (Nat → Int32) × (Nat → Int32) := if (X3_isWanted_v fl ba ori (spN ll mm hh)) = 0 then (a9.1, a9.2.1, a9.2.2.1, a9.2.2.2.1, a9.2.2.2.2) else (a9.1 + 1, a9.2.1, upd a9.2.2.1 a9.1 (nI ll), upd a9.2.2.2.1 a9.1 (nI mm), upd a9.2.2.2.2 a9.1 (X3_wantOf_v fld fl ori (spN ll mm hh)))
def X3_gatherWants_L19_F (fld : Int32) (fl : Nat → Int32) (ba : Nat → Int32) (ori : Nat → Int32) (hh : Nat) (mm : Nat) (a9 : (Nat) × (Nat → Int32) × (Nat → Int32) × (Nat → Int32) × (Nat → Int32)) : (Nat) × (Nat → Int32) × (Nat → Int32) × (Nat → Int32) × (Nat → Int32) := ((zfold (X3_gatherWants_L28_F fld fl ba ori hh mm) mm 0 (a9.1, a9.2.1, a9.2.2.1, a9.2.2.2.1, a9.2.2.2.2)).1, (zfold (X3_gatherWants_L28_F fld fl ba ori hh mm) mm 0 (a9.1, a9.2.1, a9.2.2.1, a9.2.2.2.1, a9.2.2.2.2)).2.1, (zfold (X3_gatherWants_L28_F fld fl ba ori hh mm) mm 0 (a9.1, a9.2.1, a9.2.2.1, a9.2.2.2.1, a9.2.2.2.2)).2.2.1, (zfold (X3_gatherWants_L28_F fld fl ba ori hh mm) mm 0 (a9.1, a9.2.1, a9.2.2.1, a9.2.2.2.1, a9.2.2.2.2)).2.2.2.1, (zfold (X3_gatherWants_L28_F fld fl ba ori hh mm) mm 0 (a9.1, a9.2.1, a9.2.2.1, a9.2.2.2.1, a9.2.2.2.2)).2.2.2.2)
def X3_gatherWants_L4_F (fld : Int32) (fl : Nat → Int32) (ba : Nat → Int32) (ori : Nat → Int32) (hh : Nat) (a9 : (Nat) × (Nat → Int32) × (Nat → Int32) × (Nat → Int32) × (Nat → Int32)) : (Nat) × (Nat → Int32) × (Nat → Int32) × (Nat → Int32) × (Nat → Int32) := ((zfold (X3_gatherWants_L19_F fld fl ba ori hh) (max hh 1 - 1) 1 (a9.1, upd a9.2.1 hh (nI a9.1), a9.2.2.1, a9.2.2.2.1, a9.2.2.2.2)).1, (zfold (X3_gatherWants_L19_F fld fl ba ori hh) (max hh 1 - 1) 1 (a9.1, upd a9.2.1 hh (nI a9.1), a9.2.2.1, a9.2.2.2.1, a9.2.2.2.2)).2.1, (zfold (X3_gatherWants_L19_F fld fl ba ori hh) (max hh 1 - 1) 1 (a9.1, upd a9.2.1 hh (nI a9.1), a9.2.2.1, a9.2.2.2.1, a9.2.2.2.2)).2.2.1, (zfold (X3_gatherWants_L19_F fld fl ba ori hh) (max hh 1 - 1) 1 (a9.1, upd a9.2.1 hh (nI a9.1), a9.2.2.1, a9.2.2.2.1, a9.2.2.2.2)).2.2.2.1, (zfold (X3_gatherWants_L19_F fld fl ba ori hh) (max hh 1 - 1) 1 (a9.1, upd a9.2.1 hh (nI a9.1), a9.2.2.1, a9.2.2.2.1, a9.2.2.2.2)).2.2.2.2)
def X3_gatherWants_c47 (fld : Int32) (bg lw md wt fl ba ori : Nat → Int32) (pts : Nat) : Nat → Int32 := upd ((zfold (X3_gatherWants_L4_F fld fl ba ori) pts 0 (0, bg, lw, md, wt)).2.1) pts (nI ((zfold (X3_gatherWants_L4_F fld fl ba ori) pts 0 (0, bg, lw, md, wt)).1))
def X3_gatherWants_c48 (fld : Int32) (bg lw md wt fl ba ori : Nat → Int32) (pts : Nat) : Nat → Int32 := (zfold (X3_gatherWants_L4_F fld fl ba ori) pts 0 (0, bg, lw, md, wt)).2.2.1
def X3_gatherWants_c49 (fld : Int32) (bg lw md wt fl ba ori : Nat → Int32) (pts : Nat) : Nat → Int32 := (zfold (X3_gatherWants_L4_F fld fl ba ori) pts 0 (0, bg, lw, md, wt)).2.2.2.1
def X3_gatherWants_c50 (fld : Int32) (bg lw md wt fl ba ori : Nat → Int32) (pts : Nat) : Nat → Int32 := (zfold (X3_gatherWants_L4_F fld fl ba ori) pts 0 (0, bg, lw, md, wt)).2.2.2.2
set_option maxRecDepth 100000 in
set_option maxHeartbeats 4000000 in
theorem c_X3_gatherWants (G : zG) (ex : Bool) (g : Nat → va_E) (fnd stp : Int32) (fld : Int32) (psz : Nat) (bo oo : Int32) (bg lw md wt fl ba ori : Nat → Int32) (pts : Nat) (hp : pts ≤ 10) (h40 : g 40 = (oSch G fnd stp)) (h41 : g 41 = (oPln G fld (nI psz))) (h47 : g 47 = (zI G 11 bg)) (h48 : g 48 = (zI G 120 lw)) (h49 : g 49 = (zI G 120 md)) (h50 : g 50 = (zI G 120 wt)) (h36 : g 36 = (oTld G bo oo)) (h37 : g 37 = (zZ G 120 fl)) (h38 : g 38 = (zZ G 120 ba)) (h39 : g 39 = (zI G 120 ori)) : zC G yX3_gatherWants wsX3_gatherWants (zrm 2 46) ex [.ref (zB G + 40), .int (nI pts)] (zN, g) (fun r h => r = none ∧ h = (zN, zus g [(47, zI G 11 (X3_gatherWants_c47 fld bg lw md wt fl ba ori pts)), (48, zI G 120 (X3_gatherWants_c48 fld bg lw md wt fl ba ori pts)), (49, zI G 120 (X3_gatherWants_c49 fld bg lw md wt fl ba ori pts)), (50, zI G 120 (X3_gatherWants_c50 fld bg lw md wt fl ba ori pts))])) := by
  refine zC_of mX3_gatherWants (lv := [some (.ref (zB G + 40)), some (.int (nI pts)), none, none, none, none, none]) rfl rfl (by decide) (by intro v hv; simp at hv; rcases hv with rfl | rfl <;> rfl) (Nat.le_of_ble_eq_true rfl) rfl ?_
  refine z_0 ?_
  refine z_heap (g' := zu (zus g []) 47 (zI G 11 bg)) (zu_self (zus g []) 47 _ h47).symm ?_
  refine z_n (L' := [(47, (zI G 11 bg))]) rfl ?_
  refine z_heap (g' := zu (zus g [(47, (zI G 11 bg))]) 48 (zI G 120 lw)) (zu_self (zus g [(47, (zI G 11 bg))]) 48 _ h48).symm ?_
  refine z_n (L' := [(47, (zI G 11 bg)), (48, (zI G 120 lw))]) rfl ?_
  refine z_heap (g' := zu (zus g [(47, (zI G 11 bg)), (48, (zI G 120 lw))]) 49 (zI G 120 md)) (zu_self (zus g [(47, (zI G 11 bg)), (48, (zI G 120 lw))]) 49 _ h49).symm ?_
  refine z_n (L' := [(47, (zI G 11 bg)), (48, (zI G 120 lw)), (49, (zI G 120 md))]) rfl ?_
  refine z_heap (g' := zu (zus g [(47, (zI G 11 bg)), (48, (zI G 120 lw)), (49, (zI G 120 md))]) 50 (zI G 120 wt)) (zu_self (zus g [(47, (zI G 11 bg)), (48, (zI G 120 lw)), (49, (zI G 120 md))]) 50 _ h50).symm ?_
  refine z_n (L' := [(47, (zI G 11 bg)), (48, (zI G 120 lw)), (49, (zI G 120 md)), (50, (zI G 120 wt))]) rfl ?_
  refine z_iconst (v := nI 0) dX3_gatherWants_0 rfl (by decide) ?_
  refine z_istore_2 dX3_gatherWants_1 rfl ?_
  refine z_iconst (v := nI 0) dX3_gatherWants_2 rfl (by decide) ?_
  refine z_istore_3 dX3_gatherWants_3 rfl ?_
  refine z_forI (head := fun hh (st9 : (Nat) × (Nat → Int32) × (Nat → Int32) × (Nat → Int32) × (Nat → Int32)) => ∀ y4 y5 y6 : Option Value, Z G mX3_gatherWants (zrm 2 46) ex _ 4 [some (.ref (zB G + 40)), some (.int (nI pts)), some (.int (nI st9.1)), some (.int (nI hh)), y4, y5, y6] [] (zN, zus g [(47, (zI G 11 st9.2.1)), (48, (zI G 120 st9.2.2.1)), (49, (zI G 120 st9.2.2.2.1)), (50, (zI G 120 st9.2.2.2.2))]) 0 0) (F := (X3_gatherWants_L4_F fld fl ba ori)) (n := pts) (fun hh a => a.1 ≤ c3N hh) (fun hh a hi h => by
        have e := zfold_I (n := max hh 1) (fun m (b : Nat × (Nat → Int32) × (Nat → Int32) × (Nat → Int32) × (Nat → Int32)) => b.1 ≤ c3N hh + c2N m) (F := X3_gatherWants_L19_F fld fl ba ori hh) (fun m b hm hb => by
          have e2 := zfold_I (n := m) (fun l (q : Nat × (Nat → Int32) × (Nat → Int32) × (Nat → Int32) × (Nat → Int32)) => q.1 ≤ c3N hh + c2N m + l) (F := X3_gatherWants_L28_F fld fl ba ori hh m) (fun l q hl hq => by
            unfold X3_gatherWants_L28_F
            split
            · exact Nat.le_succ_of_le hq
            · exact Nat.succ_le_succ hq) m 0 b (by omega) hb
          have e3 : (zfold (X3_gatherWants_L28_F fld fl ba ori hh m) m 0 b).1 ≤ c3N hh + c2N (m + 1) := by rw [c2N_s m (by omega), ← Nat.add_assoc]; exact e2
          exact e3) (max hh 1 - 1) 1 (a.1, upd a.2.1 hh (nI a.1), a.2.2.1, a.2.2.2.1, a.2.2.2.2) (by omega) h
        have e4 : (zfold (X3_gatherWants_L19_F fld fl ba ori hh) (max hh 1 - 1) 1 (a.1, upd a.2.1 hh (nI a.1), a.2.2.1, a.2.2.2.1, a.2.2.2.2)).1 ≤ c3N (hh + 1) := by
          rw [c3N_s hh (by omega)]
          refine Nat.le_trans e ?_
          rcases Nat.eq_zero_or_pos hh with q | q
          · subst q; decide
          · rw [show max hh 1 = hh by omega]; exact Nat.le_refl _
        exact e4) ?_ pts 0 (0, bg, lw, md, wt) (by omega) (Nat.zero_le _) ?_ _ _ _
  · intro hh a9 hi hI K
    obtain ⟨wc1, bg1, lw1, md1, wt1⟩ := a9
    intro y4 y5 y6
    have hh10 : hh < pts := hi
    have hw1 : wc1 ≤ c3N hh := hI
    refine z_iload_n dX3_gatherWants_4 rfl rfl ?_
    refine z_iload_n dX3_gatherWants_5 rfl rfl ?_
    refine z_icmp_ge (tgt := 103) dX3_gatherWants_6 rfl (by decide) (fun c6 => ?_) (fun c6 => ?_)
    · exact absurd c6 (nI_ge hi (by omega))
    · refine z_aload_n dX3_gatherWants_9 rfl rfl ?_
      refine z_get dX3_gatherWants_10 rfl hiX3_gatherWants_X3 5 lkX3_gatherWants_30 (Nat.le_of_ble_eq_true rfl) h40 rfl (by decide) rfl ?_
      refine z_iload_n dX3_gatherWants_13 rfl rfl ?_
      refine z_iload_n dX3_gatherWants_14 rfl rfl ?_
      refine z_iastN (j := hh) dX3_gatherWants_15 rfl (Nat.le_of_ble_eq_true rfl) rfl (rfl) (by omega) (by decide) ?_
      refine z_n (L' := [(47, (zI G 11 (upd bg1 hh (nI wc1)))), (48, (zI G 120 lw1)), (49, (zI G 120 md1)), (50, (zI G 120 wt1))]) rfl ?_
      refine z_iconst (v := nI 1) dX3_gatherWants_16 rfl (by decide) ?_
      refine z_istore_4 dX3_gatherWants_17 rfl ?_
      refine z_forI (head := fun mm (st9 : (Nat) × (Nat → Int32) × (Nat → Int32) × (Nat → Int32) × (Nat → Int32)) => ∀ y5 y6 : Option Value, Z G mX3_gatherWants (zrm 2 46) ex _ 19 [some (.ref (zB G + 40)), some (.int (nI pts)), some (.int (nI st9.1)), some (.int (nI hh)), some (.int (nI mm)), y5, y6] [] (zN, zus g [(47, (zI G 11 st9.2.1)), (48, (zI G 120 st9.2.2.1)), (49, (zI G 120 st9.2.2.2.1)), (50, (zI G 120 st9.2.2.2.2))]) 0 0) (F := (X3_gatherWants_L19_F fld fl ba ori hh)) (n := max hh 1) (fun mm a => 1 ≤ mm ∧ a.1 ≤ c3N hh + c2N mm) (fun m b hm hb => ⟨Nat.le_succ_of_le hb.1, by
              have e2 := zfold_I (n := m) (fun l (q : Nat × (Nat → Int32) × (Nat → Int32) × (Nat → Int32) × (Nat → Int32)) => q.1 ≤ c3N hh + c2N m + l) (F := X3_gatherWants_L28_F fld fl ba ori hh m) (fun l q hl hq => by
                unfold X3_gatherWants_L28_F
                split
                · exact Nat.le_succ_of_le hq
                · exact Nat.succ_le_succ hq) m 0 b (by omega) hb.2
              have e3 : (zfold (X3_gatherWants_L28_F fld fl ba ori hh m) m 0 b).1 ≤ c3N hh + c2N (m + 1) := by rw [c2N_s m (by omega), ← Nat.add_assoc]; exact e2
              exact e3⟩) ?_ (max hh 1 - 1) 1 (wc1, upd bg1 hh (nI wc1), lw1, md1, wt1) (by omega) ⟨Nat.le_refl _, hw1⟩ ?_ _ _
      · intro mm a9 hi hI K
        obtain ⟨wc2, bg2, lw2, md2, wt2⟩ := a9
        intro y5 y6
        have hmm : mm < hh := by have := hI.1; omega
        have hw2 : wc2 ≤ c3N hh + c2N mm := hI.2
        refine z_iload dX3_gatherWants_19 rfl rfl ?_
        refine z_iload_n dX3_gatherWants_21 rfl rfl ?_
        refine z_icmp_ge (tgt := 97) dX3_gatherWants_22 rfl (by decide) (fun c22 => ?_) (fun c22 => ?_)
        · exact absurd c22 (nI_ge hmm (by omega))
        · refine z_iconst (v := nI 0) dX3_gatherWants_25 rfl (by decide) ?_
          refine z_istore_5 dX3_gatherWants_26 rfl ?_
          refine z_forI (head := fun ll (st9 : (Nat) × (Nat → Int32) × (Nat → Int32) × (Nat → Int32) × (Nat → Int32)) => ∀ y6 : Option Value, Z G mX3_gatherWants (zrm 2 46) ex _ 28 [some (.ref (zB G + 40)), some (.int (nI pts)), some (.int (nI st9.1)), some (.int (nI hh)), some (.int (nI mm)), some (.int (nI ll)), y6] [] (zN, zus g [(47, (zI G 11 st9.2.1)), (48, (zI G 120 st9.2.2.1)), (49, (zI G 120 st9.2.2.2.1)), (50, (zI G 120 st9.2.2.2.2))]) 0 0) (F := (X3_gatherWants_L28_F fld fl ba ori hh mm)) (n := mm) (fun ll a => a.1 ≤ c3N hh + c2N mm + ll) (fun l q hl hq => by
                    unfold X3_gatherWants_L28_F
                    split
                    · exact Nat.le_succ_of_le hq
                    · exact Nat.succ_le_succ hq) ?_ mm 0 (wc2, bg2, lw2, md2, wt2) (by omega) hw2 ?_ _
          · intro ll a9 hi hI K
            obtain ⟨wc3, bg3, lw3, md3, wt3⟩ := a9
            intro y6
            have hll : ll < mm := hi
            have hw3 : wc3 ≤ c3N hh + c2N mm + ll := hI
            have hwl : wc3 < 120 := c3N_lt (by omega) hmm hll hw3
            refine z_iload dX3_gatherWants_28 rfl rfl ?_
            refine z_iload dX3_gatherWants_30 rfl rfl ?_
            refine z_icmp_ge (tgt := 91) dX3_gatherWants_32 rfl (by decide) (fun c32 => ?_) (fun c32 => ?_)
            · exact absurd c32 (nI_ge hi (by omega))
            · refine z_iload dX3_gatherWants_35 rfl rfl ?_
              refine z_iload dX3_gatherWants_37 rfl rfl ?_
              refine z_iload_n dX3_gatherWants_39 rfl rfl ?_
              refine z_callSi (c_X5_spotOf_N G ex _ ll mm hh (by omega) (by omega) (by omega)) gX3_gatherWants_X5_spotOf rfl dX3_gatherWants_40 rfl rfl okk_X5_spotOf ⟨Nat.le_of_ble_eq_true rfl, Nat.le_of_ble_eq_true rfl⟩ ⟨Nat.le_of_ble_eq_true rfl, Nat.le_of_ble_eq_true rfl⟩ (Nat.le_of_ble_eq_true rfl) ?_
              refine z_istore_6 dX3_gatherWants_43 rfl ?_
              refine z_aload_n dX3_gatherWants_45 rfl rfl ?_
              refine z_iload dX3_gatherWants_46 rfl rfl ?_
              refine z_callVi (c_X3_isWanted G ex _ fnd stp bo oo fl ba ori (spN ll mm hh) (spN_lt (by omega) (by omega) (by omega) (by omega) (by omega) (by omega)) h40 h36 h37 h38 h39) gX3_gatherWants_X3_isWanted rfl dX3_gatherWants_48 rfl rfl rfl okk_X3_isWanted (Nat.le_of_ble_eq_true rfl) h40 rfl ⟨Nat.le_of_ble_eq_true rfl, Nat.le_of_ble_eq_true rfl⟩ ⟨Nat.le_of_ble_eq_true rfl, Nat.le_of_ble_eq_true rfl⟩ (Nat.le_of_ble_eq_true rfl) ?_
              refine z_if_eq (tgt := 85) dX3_gatherWants_51 rfl (by decide) (fun c51 => ?_) (fun c51 => ?_)
              · refine z_iinc_5 (v := nI (ll + 1)) dX3_gatherWants_85 rfl (zinc _) ?_
                refine z_goto (tgt := 28) dX3_gatherWants_88 (by decide) ?_
                have K9 := K
                try simp only [X3_gatherWants_L28_F, if_pos c51] at K9
                exact K9 _
              · refine z_aload_n dX3_gatherWants_54 rfl rfl ?_
                refine z_get dX3_gatherWants_55 rfl hiX3_gatherWants_X3 6 lkX3_gatherWants_33 (Nat.le_of_ble_eq_true rfl) h40 rfl (by decide) rfl ?_
                refine z_iload_n dX3_gatherWants_58 rfl rfl ?_
                refine z_iload dX3_gatherWants_59 rfl rfl ?_
                refine z_iastN (j := wc3) dX3_gatherWants_61 rfl (Nat.le_of_ble_eq_true rfl) rfl (rfl) (by omega) (by decide) ?_
                refine z_n (L' := [(47, (zI G 11 bg3)), (48, (zI G 120 (upd lw3 wc3 (nI ll)))), (49, (zI G 120 md3)), (50, (zI G 120 wt3))]) rfl ?_
                refine z_aload_n dX3_gatherWants_62 rfl rfl ?_
                refine z_get dX3_gatherWants_63 rfl hiX3_gatherWants_X3 7 lkX3_gatherWants_36 (Nat.le_of_ble_eq_true rfl) h40 rfl (by decide) rfl ?_
                refine z_iload_n dX3_gatherWants_66 rfl rfl ?_
                refine z_iload dX3_gatherWants_67 rfl rfl ?_
                refine z_iastN (j := wc3) dX3_gatherWants_69 rfl (Nat.le_of_ble_eq_true rfl) rfl (rfl) (by omega) (by decide) ?_
                refine z_n (L' := [(47, (zI G 11 bg3)), (48, (zI G 120 (upd lw3 wc3 (nI ll)))), (49, (zI G 120 (upd md3 wc3 (nI mm)))), (50, (zI G 120 wt3))]) rfl ?_
                refine z_aload_n dX3_gatherWants_70 rfl rfl ?_
                refine z_get dX3_gatherWants_71 rfl hiX3_gatherWants_X3 8 lkX3_gatherWants_39 (Nat.le_of_ble_eq_true rfl) h40 rfl (by decide) rfl ?_
                refine z_iload_n dX3_gatherWants_74 rfl rfl ?_
                refine z_aload_n dX3_gatherWants_75 rfl rfl ?_
                refine z_iload dX3_gatherWants_76 rfl rfl ?_
                refine z_callVi (c_X3_wantOf G ex _ fnd stp fld psz bo oo fl ba ori (spN ll mm hh) (spN_lt (by omega) (by omega) (by omega) (by omega) (by omega) (by omega)) h40 h41 h36 h37 h38 h39) gX3_gatherWants_X3_wantOf rfl dX3_gatherWants_78 rfl rfl rfl okk_X3_wantOf (Nat.le_of_ble_eq_true rfl) h40 rfl ⟨Nat.le_of_ble_eq_true rfl, Nat.le_of_ble_eq_true rfl⟩ ⟨Nat.le_of_ble_eq_true rfl, Nat.le_of_ble_eq_true rfl⟩ (Nat.le_of_ble_eq_true rfl) ?_
                refine z_iastN (j := wc3) dX3_gatherWants_81 rfl (Nat.le_of_ble_eq_true rfl) rfl (rfl) (by omega) (by decide) ?_
                refine z_n (L' := [(47, (zI G 11 bg3)), (48, (zI G 120 (upd lw3 wc3 (nI ll)))), (49, (zI G 120 (upd md3 wc3 (nI mm)))), (50, (zI G 120 (upd wt3 wc3 (X3_wantOf_v fld fl ori (spN ll mm hh)))))]) rfl ?_
                refine z_iinc_2 (v := nI (wc3 + 1)) dX3_gatherWants_82 rfl (zinc _) ?_
                refine z_iinc_5 (v := nI (ll + 1)) dX3_gatherWants_85 rfl (zinc _) ?_
                refine z_goto (tgt := 28) dX3_gatherWants_88 (by decide) ?_
                have K9 := K
                try simp only [X3_gatherWants_L28_F, if_neg c51] at K9
                exact K9 _
          · intro hI y6
            refine z_iload dX3_gatherWants_28 rfl rfl ?_
            refine z_iload dX3_gatherWants_30 rfl rfl ?_
            refine z_icmp_ge (tgt := 91) dX3_gatherWants_32 rfl (by decide) (fun c32 => ?_) (fun c32 => ?_)
            · refine z_iinc_4 (v := nI (mm + 1)) dX3_gatherWants_91 rfl (zinc _) ?_
              refine z_goto (tgt := 19) dX3_gatherWants_94 (by decide) ?_
              exact K _ _
            · exact absurd (nI_le (Nat.le_refl _) (by omega)) c32
      · intro hI y5 y6
        refine z_iload dX3_gatherWants_19 rfl rfl ?_
        refine z_iload_n dX3_gatherWants_21 rfl rfl ?_
        refine z_icmp_ge (tgt := 97) dX3_gatherWants_22 rfl (by decide) (fun c22 => ?_) (fun c22 => ?_)
        · refine z_iinc_3 (v := nI (hh + 1)) dX3_gatherWants_97 rfl (zinc _) ?_
          refine z_goto (tgt := 4) dX3_gatherWants_100 (by decide) ?_
          exact K _ _ _
        · exact absurd (nI_le (by omega) (by omega)) c22
  · intro hI y4 y5 y6
    refine z_iload_n dX3_gatherWants_4 rfl rfl ?_
    refine z_iload_n dX3_gatherWants_5 rfl rfl ?_
    refine z_icmp_ge (tgt := 103) dX3_gatherWants_6 rfl (by decide) (fun c6 => ?_) (fun c6 => ?_)
    · refine z_aload_n dX3_gatherWants_103 rfl rfl ?_
      refine z_get dX3_gatherWants_104 rfl hiX3_gatherWants_X3 5 lkX3_gatherWants_30 (Nat.le_of_ble_eq_true rfl) h40 rfl (by decide) rfl ?_
      refine z_iload_n dX3_gatherWants_107 rfl rfl ?_
      refine z_iload_n dX3_gatherWants_108 rfl rfl ?_
      refine z_iastN (j := pts) dX3_gatherWants_109 rfl (Nat.le_of_ble_eq_true rfl) rfl (rfl) (by omega) (by decide) ?_
      refine z_n (L' := [(47, (zI G 11 (upd ((zfold (X3_gatherWants_L4_F fld fl ba ori) pts 0 (0, bg, lw, md, wt)).2.1) pts (nI ((zfold (X3_gatherWants_L4_F fld fl ba ori) pts 0 (0, bg, lw, md, wt)).1))))), (48, (zI G 120 ((zfold (X3_gatherWants_L4_F fld fl ba ori) pts 0 (0, bg, lw, md, wt)).2.2.1))), (49, (zI G 120 ((zfold (X3_gatherWants_L4_F fld fl ba ori) pts 0 (0, bg, lw, md, wt)).2.2.2.1))), (50, (zI G 120 ((zfold (X3_gatherWants_L4_F fld fl ba ori) pts 0 (0, bg, lw, md, wt)).2.2.2.2)))]) rfl ?_
      exact z_return dX3_gatherWants_110 rfl (Nat.le_refl _) (Nat.le_refl _) (fun _ => rfl) ⟨rfl, by simp only [X3_gatherWants_c47, X3_gatherWants_c48, X3_gatherWants_c49, X3_gatherWants_c50]⟩
    · exact absurd (nI_le (Nat.le_refl _) (by omega)) c6
abbrev mX3_prepare : zM := (cX3_prepare, 4, none, RX3, wsX3_prepare, "prepare")
theorem hiX3_prepare_X3 : ∀ w ∈ wsX30, w ∈ wsX3_prepare := fun w h => List.mem_cons_of_mem _ (List.mem_append_left _ (List.mem_append_right _ h))
theorem lkX3_prepare_30 : Cond.fieldLink RX3 30 "ConfigSearch$Search" "begin" "[I" ∈ wsX3_prepare := by decide +kernel
theorem lkX3_prepare_33 : Cond.fieldLink RX3 33 "ConfigSearch$Search" "low" "[I" ∈ wsX3_prepare := by decide +kernel
theorem lkX3_prepare_36 : Cond.fieldLink RX3 36 "ConfigSearch$Search" "middle" "[I" ∈ wsX3_prepare := by decide +kernel
theorem lkX3_prepare_53 : Cond.fieldLink RX3 53 "ConfigSearch$Search" "oneLine" "[I" ∈ wsX3_prepare := by decide +kernel
theorem okk_X3_joinPoints : zOk yX3_joinPoints 3 := by unfold zOk; decide +kernel
theorem lkX3_prepare_44 : Cond.fieldLink RX3 44 "ConfigSearch$Search" "factor" "[[I" ∈ wsX3_prepare := by decide +kernel
def X3_prepare_L7_F (fld : Int32) (n0 : Nat → Int32) (n1 : Nat → Int32) (n2 : Nat → Int32) (plc : Nat → Int32) (lw : Nat → Int32) (md : Nat → Int32) (w : Nat) (a9 : (Nat → Int32) × (Nat → Int32) × (Nat → Int32) × (Nat → Int32) × (Nat → Int32) × (Nat → Int32)) : (Nat → Int32) × (Nat → Int32) × (Nat → Int32) × (Nat → Int32) × (Nat → Int32) × (Nat → Int32) := (upd a9.1 w ((X3_joinPoints_c57_57 fld n0 n1 n2 plc a9.2.2.2.1 a9.2.2.2.2.1 a9.2.2.2.2.2 ((lw w).toNatClampNeg) ((md w).toNatClampNeg)) 0), upd a9.2.1 w ((X3_joinPoints_c57_57 fld n0 n1 n2 plc a9.2.2.2.1 a9.2.2.2.2.1 a9.2.2.2.2.2 ((lw w).toNatClampNeg) ((md w).toNatClampNeg)) 1), upd a9.2.2.1 w ((X3_joinPoints_c57_57 fld n0 n1 n2 plc a9.2.2.2.1 a9.2.2.2.2.1 a9.2.2.2.2.2 ((lw w).toNatClampNeg) ((md w).toNatClampNeg)) 2), X3_joinPoints_c55_57 n0 n1 n2 plc a9.2.2.2.1 ((lw w).toNatClampNeg), X3_joinPoints_c56_57 n0 n1 n2 plc a9.2.2.2.2.1 ((md w).toNatClampNeg), X3_joinPoints_c57_57 fld n0 n1 n2 plc a9.2.2.2.1 a9.2.2.2.2.1 a9.2.2.2.2.2 ((lw w).toNatClampNeg) ((md w).toNatClampNeg))
def X3_prepare_c52 (fld : Int32) (n0 n1 n2 f0 f1 f2 plc lw md p1 p2 l1 : Nat → Int32) (pt : Nat) (bN : Nat → Nat) : Nat → Int32 := (zfold (X3_prepare_L7_F fld n0 n1 n2 plc lw md) ((bN (pt + 1)) - (bN pt)) (bN pt) (f0, f1, f2, p1, p2, l1)).1
def X3_prepare_c53 (fld : Int32) (n0 n1 n2 f0 f1 f2 plc lw md p1 p2 l1 : Nat → Int32) (pt : Nat) (bN : Nat → Nat) : Nat → Int32 := (zfold (X3_prepare_L7_F fld n0 n1 n2 plc lw md) ((bN (pt + 1)) - (bN pt)) (bN pt) (f0, f1, f2, p1, p2, l1)).2.1
def X3_prepare_c54 (fld : Int32) (n0 n1 n2 f0 f1 f2 plc lw md p1 p2 l1 : Nat → Int32) (pt : Nat) (bN : Nat → Nat) : Nat → Int32 := (zfold (X3_prepare_L7_F fld n0 n1 n2 plc lw md) ((bN (pt + 1)) - (bN pt)) (bN pt) (f0, f1, f2, p1, p2, l1)).2.2.1
def X3_prepare_c55 (fld : Int32) (n0 n1 n2 f0 f1 f2 plc lw md p1 p2 l1 : Nat → Int32) (pt : Nat) (bN : Nat → Nat) : Nat → Int32 := (zfold (X3_prepare_L7_F fld n0 n1 n2 plc lw md) ((bN (pt + 1)) - (bN pt)) (bN pt) (f0, f1, f2, p1, p2, l1)).2.2.2.1
def X3_prepare_c56 (fld : Int32) (n0 n1 n2 f0 f1 f2 plc lw md p1 p2 l1 : Nat → Int32) (pt : Nat) (bN : Nat → Nat) : Nat → Int32 := (zfold (X3_prepare_L7_F fld n0 n1 n2 plc lw md) ((bN (pt + 1)) - (bN pt)) (bN pt) (f0, f1, f2, p1, p2, l1)).2.2.2.2.1
def X3_prepare_c57 (fld : Int32) (n0 n1 n2 f0 f1 f2 plc lw md p1 p2 l1 : Nat → Int32) (pt : Nat) (bN : Nat → Nat) : Nat → Int32 := (zfold (X3_prepare_L7_F fld n0 n1 n2 plc lw md) ((bN (pt + 1)) - (bN pt)) (bN pt) (f0, f1, f2, p1, p2, l1)).2.2.2.2.2
set_option maxRecDepth 100000 in
set_option maxHeartbeats 4000000 in
theorem c_X3_prepare (G : zG) (ex : Bool) (g : Nat → va_E) (fnd stp : Int32) (fld : Int32) (psz : Nat) (n0 n1 n2 f0 f1 f2 plc bg lw md p1 p2 l1 : Nat → Int32) (pt : Nat) (bN : Nat → Nat) (hpt : pt < 10) (hbg : ∀ j, j ≤ pt + 1 → bg j = nI (bN j)) (hb1 : bN pt ≤ bN (pt + 1)) (hb2 : bN (pt + 1) ≤ 120) (hwl : ∀ w, bN pt ≤ w → w < bN (pt + 1) → vp_in (lw w) 10 ∧ vp_in (md w) 10 ∧ vp_in (plc (lw w).toNatClampNeg) 183 ∧ vp_in (plc (md w).toNatClampNeg) 183) (h40 : g 40 = (oSch G fnd stp)) (h41 : g 41 = (oPln G fld (nI psz))) (h42 : g 42 = (zR G 3 (zrw G 3 43))) (h43 : g 43 = (zI G 183 n0)) (h44 : g 44 = (zI G 183 n1)) (h45 : g 45 = (zI G 183 n2)) (h51 : g 51 = (zR G 3 (zrw G 3 52))) (h52 : g 52 = (zI G 120 f0)) (h53 : g 53 = (zI G 120 f1)) (h54 : g 54 = (zI G 120 f2)) (h46 : g 46 = (zI G 10 plc)) (h47 : g 47 = (zI G 11 bg)) (h48 : g 48 = (zI G 120 lw)) (h49 : g 49 = (zI G 120 md)) (h55 : g 55 = (zI G 3 p1)) (h56 : g 56 = (zI G 3 p2)) (h57 : g 57 = (zI G 3 l1)) : zC G yX3_prepare wsX3_prepare (zrm 4 89) ex [.ref (zB G + 40), .int (nI pt)] (zN, g) (fun r h => r = none ∧ h = (zN, zus g [(52, zI G 120 (X3_prepare_c52 fld n0 n1 n2 f0 f1 f2 plc lw md p1 p2 l1 pt bN)), (53, zI G 120 (X3_prepare_c53 fld n0 n1 n2 f0 f1 f2 plc lw md p1 p2 l1 pt bN)), (54, zI G 120 (X3_prepare_c54 fld n0 n1 n2 f0 f1 f2 plc lw md p1 p2 l1 pt bN)), (55, zI G 3 (X3_prepare_c55 fld n0 n1 n2 f0 f1 f2 plc lw md p1 p2 l1 pt bN)), (56, zI G 3 (X3_prepare_c56 fld n0 n1 n2 f0 f1 f2 plc lw md p1 p2 l1 pt bN)), (57, zI G 3 (X3_prepare_c57 fld n0 n1 n2 f0 f1 f2 plc lw md p1 p2 l1 pt bN))])) := by
  refine zC_of mX3_prepare (lv := [some (.ref (zB G + 40)), some (.int (nI pt)), none, none]) rfl rfl (by decide) (by intro v hv; simp at hv; rcases hv with rfl | rfl <;> rfl) (Nat.le_of_ble_eq_true rfl) rfl ?_
  refine z_0 ?_
  refine z_heap (g' := zu (zus g []) 52 (zI G 120 f0)) (zu_self (zus g []) 52 _ h52).symm ?_
  refine z_n (L' := [(52, (zI G 120 f0))]) rfl ?_
  refine z_heap (g' := zu (zus g [(52, (zI G 120 f0))]) 53 (zI G 120 f1)) (zu_self (zus g [(52, (zI G 120 f0))]) 53 _ h53).symm ?_
  refine z_n (L' := [(52, (zI G 120 f0)), (53, (zI G 120 f1))]) rfl ?_
  refine z_heap (g' := zu (zus g [(52, (zI G 120 f0)), (53, (zI G 120 f1))]) 54 (zI G 120 f2)) (zu_self (zus g [(52, (zI G 120 f0)), (53, (zI G 120 f1))]) 54 _ h54).symm ?_
  refine z_n (L' := [(52, (zI G 120 f0)), (53, (zI G 120 f1)), (54, (zI G 120 f2))]) rfl ?_
  refine z_heap (g' := zu (zus g [(52, (zI G 120 f0)), (53, (zI G 120 f1)), (54, (zI G 120 f2))]) 55 (zI G 3 p1)) (zu_self (zus g [(52, (zI G 120 f0)), (53, (zI G 120 f1)), (54, (zI G 120 f2))]) 55 _ h55).symm ?_
  refine z_n (L' := [(52, (zI G 120 f0)), (53, (zI G 120 f1)), (54, (zI G 120 f2)), (55, (zI G 3 p1))]) rfl ?_
  refine z_heap (g' := zu (zus g [(52, (zI G 120 f0)), (53, (zI G 120 f1)), (54, (zI G 120 f2)), (55, (zI G 3 p1))]) 56 (zI G 3 p2)) (zu_self (zus g [(52, (zI G 120 f0)), (53, (zI G 120 f1)), (54, (zI G 120 f2)), (55, (zI G 3 p1))]) 56 _ h56).symm ?_
  refine z_n (L' := [(52, (zI G 120 f0)), (53, (zI G 120 f1)), (54, (zI G 120 f2)), (55, (zI G 3 p1)), (56, (zI G 3 p2))]) rfl ?_
  refine z_heap (g' := zu (zus g [(52, (zI G 120 f0)), (53, (zI G 120 f1)), (54, (zI G 120 f2)), (55, (zI G 3 p1)), (56, (zI G 3 p2))]) 57 (zI G 3 l1)) (zu_self (zus g [(52, (zI G 120 f0)), (53, (zI G 120 f1)), (54, (zI G 120 f2)), (55, (zI G 3 p1)), (56, (zI G 3 p2))]) 57 _ h57).symm ?_
  refine z_n (L' := [(52, (zI G 120 f0)), (53, (zI G 120 f1)), (54, (zI G 120 f2)), (55, (zI G 3 p1)), (56, (zI G 3 p2)), (57, (zI G 3 l1))]) rfl ?_
  refine z_aload_n dX3_prepare_0 rfl rfl ?_
  refine z_get dX3_prepare_1 rfl hiX3_prepare_X3 5 lkX3_prepare_30 (Nat.le_of_ble_eq_true rfl) h40 rfl (by decide) rfl ?_
  refine z_iload_n dX3_prepare_4 rfl rfl ?_
  refine z_ialdN (j := pt) dX3_prepare_5 rfl (Nat.le_of_ble_eq_true rfl) h47 (rfl) (by omega) (by decide) ?_
  refine z_top (show bg pt = nI (bN pt) from hbg _ (by omega)) ?_
  refine z_istore_2 dX3_prepare_6 rfl ?_
  refine z_forI (head := fun w (st9 : (Nat → Int32) × (Nat → Int32) × (Nat → Int32) × (Nat → Int32) × (Nat → Int32) × (Nat → Int32)) => ∀ y3 : Option Value, Z G mX3_prepare (zrm 4 89) ex _ 7 [some (.ref (zB G + 40)), some (.int (nI pt)), some (.int (nI w)), y3] [] (zN, zus g [(52, (zI G 120 st9.1)), (53, (zI G 120 st9.2.1)), (54, (zI G 120 st9.2.2.1)), (55, (zI G 3 st9.2.2.2.1)), (56, (zI G 3 st9.2.2.2.2.1)), (57, (zI G 3 st9.2.2.2.2.2))]) 0 0) (F := (X3_prepare_L7_F fld n0 n1 n2 plc lw md)) (n := bN (pt + 1)) (fun w _ => bN pt ≤ w) (fun _ _ _ h => Nat.le_succ_of_le h) ?_ ((bN (pt + 1)) - (bN pt)) (bN pt) (f0, f1, f2, p1, p2, l1) (by omega) (Nat.le_refl _) ?_ _
  · intro w a9 hi hI K
    obtain ⟨e0, e1, e2, q1, q2, k1⟩ := a9
    intro y3
    have hw8 : bN pt ≤ w := hI
    have hw9 := hwl w hw8 hi
    refine z_iload_n dX3_prepare_7 rfl rfl ?_
    refine z_aload_n dX3_prepare_8 rfl rfl ?_
    refine z_get dX3_prepare_9 rfl hiX3_prepare_X3 5 lkX3_prepare_30 (Nat.le_of_ble_eq_true rfl) h40 rfl (by decide) rfl ?_
    refine z_iload_n dX3_prepare_12 rfl rfl ?_
    refine z_iconst (v := nI 1) dX3_prepare_13 rfl (by decide) ?_
    refine z_iadd dX3_prepare_14 rfl ?_
    refine z_ialdN (j := pt + 1) dX3_prepare_15 rfl (Nat.le_of_ble_eq_true rfl) h47 ((zq_add rfl rfl)) (by omega) (by decide) ?_
    refine z_top (show bg (pt + 1) = nI (bN (pt + 1)) from hbg _ (by omega)) ?_
    refine z_icmp_ge (tgt := 72) dX3_prepare_16 rfl (by decide) (fun c16 => ?_) (fun c16 => ?_)
    · exact absurd c16 (nI_ge hi (by omega))
    · refine z_aload_n dX3_prepare_19 rfl rfl ?_
      refine z_aload_n dX3_prepare_20 rfl rfl ?_
      refine z_get dX3_prepare_21 rfl hiX3_prepare_X3 6 lkX3_prepare_33 (Nat.le_of_ble_eq_true rfl) h40 rfl (by decide) rfl ?_
      refine z_iload_n dX3_prepare_24 rfl rfl ?_
      refine z_ialdN (j := w) dX3_prepare_25 rfl (Nat.le_of_ble_eq_true rfl) h48 (rfl) (by omega) (by decide) ?_
      refine z_top (show lw w = nI ((lw w).toNatClampNeg) from zvin hw9.1) ?_
      refine z_aload_n dX3_prepare_26 rfl rfl ?_
      refine z_get dX3_prepare_27 rfl hiX3_prepare_X3 7 lkX3_prepare_36 (Nat.le_of_ble_eq_true rfl) h40 rfl (by decide) rfl ?_
      refine z_iload_n dX3_prepare_30 rfl rfl ?_
      refine z_ialdN (j := w) dX3_prepare_31 rfl (Nat.le_of_ble_eq_true rfl) h49 (rfl) (by omega) (by decide) ?_
      refine z_top (show md w = nI ((md w).toNatClampNeg) from zvin hw9.2.1) ?_
      refine z_aload_n dX3_prepare_32 rfl rfl ?_
      refine z_get dX3_prepare_33 rfl hiX3_prepare_X3 12 lkX3_prepare_53 (Nat.le_of_ble_eq_true rfl) h40 rfl (by decide) rfl ?_
      refine z_callVv (c_X3_joinPoints_57 G ex _ fnd stp fld psz n0 n1 n2 plc q1 q2 k1 ((lw w).toNatClampNeg) ((md w).toNatClampNeg) (zvlt hw9.1) (zvlt hw9.2.1) hw9.2.2.1 hw9.2.2.2 h40 h41 h42 h43 h44 h45 h46 rfl rfl rfl) gX3_prepare_X3_joinPoints rfl dX3_prepare_36 rfl rfl rfl okk_X3_joinPoints (Nat.le_of_ble_eq_true rfl) h40 rfl ⟨Nat.le_of_ble_eq_true rfl, Nat.le_of_ble_eq_true rfl⟩ ⟨Nat.le_of_ble_eq_true rfl, Nat.le_of_ble_eq_true rfl⟩ (Nat.le_of_ble_eq_true rfl) ?_
      refine z_nn (L' := [(52, (zI G 120 e0)), (53, (zI G 120 e1)), (54, (zI G 120 e2)), (55, (zI G 3 (X3_joinPoints_c55_57 n0 n1 n2 plc q1 ((lw w).toNatClampNeg)))), (56, (zI G 3 (X3_joinPoints_c56_57 n0 n1 n2 plc q2 ((md w).toNatClampNeg)))), (57, (zI G 3 (X3_joinPoints_c57_57 fld n0 n1 n2 plc q1 q2 k1 ((lw w).toNatClampNeg) ((md w).toNatClampNeg))))]) rfl ?_
      refine z_iconst (v := nI 0) dX3_prepare_39 rfl (by decide) ?_
      refine z_istore_3 dX3_prepare_40 rfl ?_
      refine z_iload_n dX3_prepare_41 rfl rfl ?_
      refine z_iconst (v := nI 3) dX3_prepare_42 rfl (by decide) ?_
      refine z_icmp_ge (tgt := 66) dX3_prepare_43 rfl (by decide) (fun c43 => ?_) (fun c43 => ?_)
      · exact absurd c43 (by decide)
      · refine z_aload_n dX3_prepare_46 rfl rfl ?_
        refine z_get dX3_prepare_47 rfl hiX3_prepare_X3 9 lkX3_prepare_44 (Nat.le_of_ble_eq_true rfl) h40 rfl (by decide) rfl ?_
        refine z_iload_n dX3_prepare_50 rfl rfl ?_
        refine z_aaldN (j := 0) (a := zB G + 52) dX3_prepare_51 rfl (Nat.le_of_ble_eq_true rfl) h51 (rfl) (by omega) (by decide) rfl ?_
        refine z_iload_n dX3_prepare_52 rfl rfl ?_
        refine z_aload_n dX3_prepare_53 rfl rfl ?_
        refine z_get dX3_prepare_54 rfl hiX3_prepare_X3 12 lkX3_prepare_53 (Nat.le_of_ble_eq_true rfl) h40 rfl (by decide) rfl ?_
        refine z_iload_n dX3_prepare_57 rfl rfl ?_
        refine z_ialdN (j := 0) dX3_prepare_58 rfl (Nat.le_of_ble_eq_true rfl) rfl (rfl) (by omega) (by decide) ?_
        refine z_iastN (j := w) dX3_prepare_59 rfl (Nat.le_of_ble_eq_true rfl) rfl (rfl) (by omega) (by decide) ?_
        refine z_n (L' := [(52, (zI G 120 (upd e0 w ((X3_joinPoints_c57_57 fld n0 n1 n2 plc q1 q2 k1 ((lw w).toNatClampNeg) ((md w).toNatClampNeg)) 0)))), (53, (zI G 120 e1)), (54, (zI G 120 e2)), (55, (zI G 3 (X3_joinPoints_c55_57 n0 n1 n2 plc q1 ((lw w).toNatClampNeg)))), (56, (zI G 3 (X3_joinPoints_c56_57 n0 n1 n2 plc q2 ((md w).toNatClampNeg)))), (57, (zI G 3 (X3_joinPoints_c57_57 fld n0 n1 n2 plc q1 q2 k1 ((lw w).toNatClampNeg) ((md w).toNatClampNeg))))]) rfl ?_
        refine z_iinc_3 (v := nI 1) dX3_prepare_60 rfl (zinc _) ?_
        refine z_goto (tgt := 41) dX3_prepare_63 (by decide) ?_
        refine z_iload_n dX3_prepare_41 rfl rfl ?_
        refine z_iconst (v := nI 3) dX3_prepare_42 rfl (by decide) ?_
        refine z_icmp_ge (tgt := 66) dX3_prepare_43 rfl (by decide) (fun c43_2 => ?_) (fun c43_2 => ?_)
        · exact absurd c43_2 (by decide)
        · refine z_aload_n dX3_prepare_46 rfl rfl ?_
          refine z_get dX3_prepare_47 rfl hiX3_prepare_X3 9 lkX3_prepare_44 (Nat.le_of_ble_eq_true rfl) h40 rfl (by decide) rfl ?_
          refine z_iload_n dX3_prepare_50 rfl rfl ?_
          refine z_aaldN (j := 1) (a := zB G + 53) dX3_prepare_51 rfl (Nat.le_of_ble_eq_true rfl) h51 (rfl) (by omega) (by decide) rfl ?_
          refine z_iload_n dX3_prepare_52 rfl rfl ?_
          refine z_aload_n dX3_prepare_53 rfl rfl ?_
          refine z_get dX3_prepare_54 rfl hiX3_prepare_X3 12 lkX3_prepare_53 (Nat.le_of_ble_eq_true rfl) h40 rfl (by decide) rfl ?_
          refine z_iload_n dX3_prepare_57 rfl rfl ?_
          refine z_ialdN (j := 1) dX3_prepare_58 rfl (Nat.le_of_ble_eq_true rfl) rfl (rfl) (by omega) (by decide) ?_
          refine z_iastN (j := w) dX3_prepare_59 rfl (Nat.le_of_ble_eq_true rfl) rfl (rfl) (by omega) (by decide) ?_
          refine z_n (L' := [(52, (zI G 120 (upd e0 w ((X3_joinPoints_c57_57 fld n0 n1 n2 plc q1 q2 k1 ((lw w).toNatClampNeg) ((md w).toNatClampNeg)) 0)))), (53, (zI G 120 (upd e1 w ((X3_joinPoints_c57_57 fld n0 n1 n2 plc q1 q2 k1 ((lw w).toNatClampNeg) ((md w).toNatClampNeg)) 1)))), (54, (zI G 120 e2)), (55, (zI G 3 (X3_joinPoints_c55_57 n0 n1 n2 plc q1 ((lw w).toNatClampNeg)))), (56, (zI G 3 (X3_joinPoints_c56_57 n0 n1 n2 plc q2 ((md w).toNatClampNeg)))), (57, (zI G 3 (X3_joinPoints_c57_57 fld n0 n1 n2 plc q1 q2 k1 ((lw w).toNatClampNeg) ((md w).toNatClampNeg))))]) rfl ?_
          refine z_iinc_3 (v := nI 2) dX3_prepare_60 rfl (zinc _) ?_
          refine z_goto (tgt := 41) dX3_prepare_63 (by decide) ?_
          refine z_iload_n dX3_prepare_41 rfl rfl ?_
          refine z_iconst (v := nI 3) dX3_prepare_42 rfl (by decide) ?_
          refine z_icmp_ge (tgt := 66) dX3_prepare_43 rfl (by decide) (fun c43_3 => ?_) (fun c43_3 => ?_)
          · exact absurd c43_3 (by decide)
          · refine z_aload_n dX3_prepare_46 rfl rfl ?_
            refine z_get dX3_prepare_47 rfl hiX3_prepare_X3 9 lkX3_prepare_44 (Nat.le_of_ble_eq_true rfl) h40 rfl (by decide) rfl ?_
            refine z_iload_n dX3_prepare_50 rfl rfl ?_
            refine z_aaldN (j := 2) (a := zB G + 54) dX3_prepare_51 rfl (Nat.le_of_ble_eq_true rfl) h51 (rfl) (by omega) (by decide) rfl ?_
            refine z_iload_n dX3_prepare_52 rfl rfl ?_
            refine z_aload_n dX3_prepare_53 rfl rfl ?_
            refine z_get dX3_prepare_54 rfl hiX3_prepare_X3 12 lkX3_prepare_53 (Nat.le_of_ble_eq_true rfl) h40 rfl (by decide) rfl ?_
            refine z_iload_n dX3_prepare_57 rfl rfl ?_
            refine z_ialdN (j := 2) dX3_prepare_58 rfl (Nat.le_of_ble_eq_true rfl) rfl (rfl) (by omega) (by decide) ?_
            refine z_iastN (j := w) dX3_prepare_59 rfl (Nat.le_of_ble_eq_true rfl) rfl (rfl) (by omega) (by decide) ?_
            refine z_n (L' := [(52, (zI G 120 (upd e0 w ((X3_joinPoints_c57_57 fld n0 n1 n2 plc q1 q2 k1 ((lw w).toNatClampNeg) ((md w).toNatClampNeg)) 0)))), (53, (zI G 120 (upd e1 w ((X3_joinPoints_c57_57 fld n0 n1 n2 plc q1 q2 k1 ((lw w).toNatClampNeg) ((md w).toNatClampNeg)) 1)))), (54, (zI G 120 (upd e2 w ((X3_joinPoints_c57_57 fld n0 n1 n2 plc q1 q2 k1 ((lw w).toNatClampNeg) ((md w).toNatClampNeg)) 2)))), (55, (zI G 3 (X3_joinPoints_c55_57 n0 n1 n2 plc q1 ((lw w).toNatClampNeg)))), (56, (zI G 3 (X3_joinPoints_c56_57 n0 n1 n2 plc q2 ((md w).toNatClampNeg)))), (57, (zI G 3 (X3_joinPoints_c57_57 fld n0 n1 n2 plc q1 q2 k1 ((lw w).toNatClampNeg) ((md w).toNatClampNeg))))]) rfl ?_
            refine z_iinc_3 (v := nI 3) dX3_prepare_60 rfl (zinc _) ?_
            refine z_goto (tgt := 41) dX3_prepare_63 (by decide) ?_
            refine z_iload_n dX3_prepare_41 rfl rfl ?_
            refine z_iconst (v := nI 3) dX3_prepare_42 rfl (by decide) ?_
            refine z_icmp_ge (tgt := 66) dX3_prepare_43 rfl (by decide) (fun c43_4 => ?_) (fun c43_4 => ?_)
            · refine z_iinc_2 (v := nI (w + 1)) dX3_prepare_66 rfl (zinc _) ?_
              refine z_goto (tgt := 7) dX3_prepare_69 (by decide) ?_
              exact K _
            · exact absurd (by decide) c43_4
  · intro hI y3
    refine z_iload_n dX3_prepare_7 rfl rfl ?_
    refine z_aload_n dX3_prepare_8 rfl rfl ?_
    refine z_get dX3_prepare_9 rfl hiX3_prepare_X3 5 lkX3_prepare_30 (Nat.le_of_ble_eq_true rfl) h40 rfl (by decide) rfl ?_
    refine z_iload_n dX3_prepare_12 rfl rfl ?_
    refine z_iconst (v := nI 1) dX3_prepare_13 rfl (by decide) ?_
    refine z_iadd dX3_prepare_14 rfl ?_
    refine z_ialdN (j := pt + 1) dX3_prepare_15 rfl (Nat.le_of_ble_eq_true rfl) h47 ((zq_add rfl rfl)) (by omega) (by decide) ?_
    refine z_top (show bg (pt + 1) = nI (bN (pt + 1)) from hbg _ (by omega)) ?_
    refine z_icmp_ge (tgt := 72) dX3_prepare_16 rfl (by decide) (fun c16 => ?_) (fun c16 => ?_)
    · exact z_return dX3_prepare_72 rfl (Nat.le_refl _) (Nat.le_refl _) (fun _ => rfl) ⟨rfl, by simp only [X3_prepare_c52, X3_prepare_c53, X3_prepare_c54, X3_prepare_c55, X3_prepare_c56, X3_prepare_c57]⟩
    · exact absurd (nI_le (Nat.le_refl _) (by omega)) c16
abbrev mX3_enter : zM := (cX3_enter, 2, none, RX3, wsX3_enter, "enter")
theorem hiX3_enter_X3 : ∀ w ∈ wsX30, w ∈ wsX3_enter := fun w h => List.mem_cons_of_mem _ (List.mem_append_left _ (List.mem_append_right _ h))
theorem lkX3_enter_26 : Cond.fieldLink RX3 26 "ConfigSearch$Search" "places" "[I" ∈ wsX3_enter := by decide +kernel
theorem okk_X3_prepare : zOk yX3_prepare 1 := by unfold zOk; decide +kernel
def X3_enter_c46 (plc : Nat → Int32) (pt : Nat) : Nat → Int32 := upd plc pt (-1)
def X3_enter_c52 (fld : Int32) (n0 n1 n2 f0 f1 f2 plc lw md p1 p2 l1 : Nat → Int32) (pt : Nat) (bN : Nat → Nat) : Nat → Int32 := X3_prepare_c52 fld n0 n1 n2 f0 f1 f2 (upd plc pt (-1)) lw md p1 p2 l1 pt bN
def X3_enter_c53 (fld : Int32) (n0 n1 n2 f0 f1 f2 plc lw md p1 p2 l1 : Nat → Int32) (pt : Nat) (bN : Nat → Nat) : Nat → Int32 := X3_prepare_c53 fld n0 n1 n2 f0 f1 f2 (upd plc pt (-1)) lw md p1 p2 l1 pt bN
def X3_enter_c54 (fld : Int32) (n0 n1 n2 f0 f1 f2 plc lw md p1 p2 l1 : Nat → Int32) (pt : Nat) (bN : Nat → Nat) : Nat → Int32 := X3_prepare_c54 fld n0 n1 n2 f0 f1 f2 (upd plc pt (-1)) lw md p1 p2 l1 pt bN
def X3_enter_c55 (fld : Int32) (n0 n1 n2 f0 f1 f2 plc lw md p1 p2 l1 : Nat → Int32) (pt : Nat) (bN : Nat → Nat) : Nat → Int32 := X3_prepare_c55 fld n0 n1 n2 f0 f1 f2 (upd plc pt (-1)) lw md p1 p2 l1 pt bN
def X3_enter_c56 (fld : Int32) (n0 n1 n2 f0 f1 f2 plc lw md p1 p2 l1 : Nat → Int32) (pt : Nat) (bN : Nat → Nat) : Nat → Int32 := X3_prepare_c56 fld n0 n1 n2 f0 f1 f2 (upd plc pt (-1)) lw md p1 p2 l1 pt bN
def X3_enter_c57 (fld : Int32) (n0 n1 n2 f0 f1 f2 plc lw md p1 p2 l1 : Nat → Int32) (pt : Nat) (bN : Nat → Nat) : Nat → Int32 := X3_prepare_c57 fld n0 n1 n2 f0 f1 f2 (upd plc pt (-1)) lw md p1 p2 l1 pt bN
set_option maxRecDepth 100000 in
set_option maxHeartbeats 4000000 in
theorem c_X3_enter (G : zG) (ex : Bool) (g : Nat → va_E) (fnd stp : Int32) (fld : Int32) (psz : Nat) (n0 n1 n2 f0 f1 f2 plc bg lw md p1 p2 l1 : Nat → Int32) (pt : Nat) (bN : Nat → Nat) (hpt : pt < 10) (hbg : ∀ j, j ≤ pt + 1 → bg j = nI (bN j)) (hb1 : bN pt ≤ bN (pt + 1)) (hb2 : bN (pt + 1) ≤ 120) (hwl : ∀ w, bN pt ≤ w → w < bN (pt + 1) → vp_in (lw w) 10 ∧ vp_in (md w) 10 ∧ vp_in (upd plc pt (-1) (lw w).toNatClampNeg) 183 ∧ vp_in (upd plc pt (-1) (md w).toNatClampNeg) 183) (h40 : g 40 = (oSch G fnd stp)) (h41 : g 41 = (oPln G fld (nI psz))) (h42 : g 42 = (zR G 3 (zrw G 3 43))) (h43 : g 43 = (zI G 183 n0)) (h44 : g 44 = (zI G 183 n1)) (h45 : g 45 = (zI G 183 n2)) (h51 : g 51 = (zR G 3 (zrw G 3 52))) (h52 : g 52 = (zI G 120 f0)) (h53 : g 53 = (zI G 120 f1)) (h54 : g 54 = (zI G 120 f2)) (h46 : g 46 = (zI G 10 plc)) (h47 : g 47 = (zI G 11 bg)) (h48 : g 48 = (zI G 120 lw)) (h49 : g 49 = (zI G 120 md)) (h55 : g 55 = (zI G 3 p1)) (h56 : g 56 = (zI G 3 p2)) (h57 : g 57 = (zI G 3 l1)) : zC G yX3_enter wsX3_enter (zrm 5 112) ex [.ref (zB G + 40), .int (nI pt)] (zN, g) (fun r h => r = none ∧ h = (zN, zus g [(46, zI G 10 (X3_enter_c46 plc pt)), (52, zI G 120 (X3_enter_c52 fld n0 n1 n2 f0 f1 f2 plc lw md p1 p2 l1 pt bN)), (53, zI G 120 (X3_enter_c53 fld n0 n1 n2 f0 f1 f2 plc lw md p1 p2 l1 pt bN)), (54, zI G 120 (X3_enter_c54 fld n0 n1 n2 f0 f1 f2 plc lw md p1 p2 l1 pt bN)), (55, zI G 3 (X3_enter_c55 fld n0 n1 n2 f0 f1 f2 plc lw md p1 p2 l1 pt bN)), (56, zI G 3 (X3_enter_c56 fld n0 n1 n2 f0 f1 f2 plc lw md p1 p2 l1 pt bN)), (57, zI G 3 (X3_enter_c57 fld n0 n1 n2 f0 f1 f2 plc lw md p1 p2 l1 pt bN))])) := by
  refine zC_of mX3_enter (lv := [some (.ref (zB G + 40)), some (.int (nI pt))]) rfl rfl (by decide) (by intro v hv; simp at hv; rcases hv with rfl | rfl <;> rfl) (Nat.le_of_ble_eq_true rfl) rfl ?_
  refine z_0 ?_
  refine z_heap (g' := zu (zus g []) 46 (zI G 10 plc)) (zu_self (zus g []) 46 _ h46).symm ?_
  refine z_n (L' := [(46, (zI G 10 plc))]) rfl ?_
  refine z_heap (g' := zu (zus g [(46, (zI G 10 plc))]) 52 (zI G 120 f0)) (zu_self (zus g [(46, (zI G 10 plc))]) 52 _ h52).symm ?_
  refine z_n (L' := [(46, (zI G 10 plc)), (52, (zI G 120 f0))]) rfl ?_
  refine z_heap (g' := zu (zus g [(46, (zI G 10 plc)), (52, (zI G 120 f0))]) 53 (zI G 120 f1)) (zu_self (zus g [(46, (zI G 10 plc)), (52, (zI G 120 f0))]) 53 _ h53).symm ?_
  refine z_n (L' := [(46, (zI G 10 plc)), (52, (zI G 120 f0)), (53, (zI G 120 f1))]) rfl ?_
  refine z_heap (g' := zu (zus g [(46, (zI G 10 plc)), (52, (zI G 120 f0)), (53, (zI G 120 f1))]) 54 (zI G 120 f2)) (zu_self (zus g [(46, (zI G 10 plc)), (52, (zI G 120 f0)), (53, (zI G 120 f1))]) 54 _ h54).symm ?_
  refine z_n (L' := [(46, (zI G 10 plc)), (52, (zI G 120 f0)), (53, (zI G 120 f1)), (54, (zI G 120 f2))]) rfl ?_
  refine z_heap (g' := zu (zus g [(46, (zI G 10 plc)), (52, (zI G 120 f0)), (53, (zI G 120 f1)), (54, (zI G 120 f2))]) 55 (zI G 3 p1)) (zu_self (zus g [(46, (zI G 10 plc)), (52, (zI G 120 f0)), (53, (zI G 120 f1)), (54, (zI G 120 f2))]) 55 _ h55).symm ?_
  refine z_n (L' := [(46, (zI G 10 plc)), (52, (zI G 120 f0)), (53, (zI G 120 f1)), (54, (zI G 120 f2)), (55, (zI G 3 p1))]) rfl ?_
  refine z_heap (g' := zu (zus g [(46, (zI G 10 plc)), (52, (zI G 120 f0)), (53, (zI G 120 f1)), (54, (zI G 120 f2)), (55, (zI G 3 p1))]) 56 (zI G 3 p2)) (zu_self (zus g [(46, (zI G 10 plc)), (52, (zI G 120 f0)), (53, (zI G 120 f1)), (54, (zI G 120 f2)), (55, (zI G 3 p1))]) 56 _ h56).symm ?_
  refine z_n (L' := [(46, (zI G 10 plc)), (52, (zI G 120 f0)), (53, (zI G 120 f1)), (54, (zI G 120 f2)), (55, (zI G 3 p1)), (56, (zI G 3 p2))]) rfl ?_
  refine z_heap (g' := zu (zus g [(46, (zI G 10 plc)), (52, (zI G 120 f0)), (53, (zI G 120 f1)), (54, (zI G 120 f2)), (55, (zI G 3 p1)), (56, (zI G 3 p2))]) 57 (zI G 3 l1)) (zu_self (zus g [(46, (zI G 10 plc)), (52, (zI G 120 f0)), (53, (zI G 120 f1)), (54, (zI G 120 f2)), (55, (zI G 3 p1)), (56, (zI G 3 p2))]) 57 _ h57).symm ?_
  refine z_n (L' := [(46, (zI G 10 plc)), (52, (zI G 120 f0)), (53, (zI G 120 f1)), (54, (zI G 120 f2)), (55, (zI G 3 p1)), (56, (zI G 3 p2)), (57, (zI G 3 l1))]) rfl ?_
  refine z_aload_n dX3_enter_0 rfl rfl ?_
  refine z_get dX3_enter_1 rfl hiX3_enter_X3 4 lkX3_enter_26 (Nat.le_of_ble_eq_true rfl) h40 rfl (by decide) rfl ?_
  refine z_iload_n dX3_enter_4 rfl rfl ?_
  refine z_iconst (v := (-1)) dX3_enter_5 rfl (by decide) ?_
  refine z_iastN (j := pt) dX3_enter_6 rfl (Nat.le_of_ble_eq_true rfl) rfl (rfl) (by omega) (by decide) ?_
  refine z_n (L' := [(46, (zI G 10 (upd plc pt (-1)))), (52, (zI G 120 f0)), (53, (zI G 120 f1)), (54, (zI G 120 f2)), (55, (zI G 3 p1)), (56, (zI G 3 p2)), (57, (zI G 3 l1))]) rfl ?_
  refine z_aload_n dX3_enter_7 rfl rfl ?_
  refine z_iload_n dX3_enter_8 rfl rfl ?_
  refine z_callVv (c_X3_prepare G ex _ fnd stp fld psz n0 n1 n2 f0 f1 f2 (upd plc pt (-1)) bg lw md p1 p2 l1 pt bN (by omega) (by assumption) (by omega) (by omega) (by assumption) h40 h41 h42 h43 h44 h45 h51 rfl rfl rfl rfl h47 h48 h49 rfl rfl rfl) gX3_enter_X3_prepare rfl dX3_enter_9 rfl rfl rfl okk_X3_prepare (Nat.le_of_ble_eq_true rfl) h40 rfl ⟨Nat.le_of_ble_eq_true rfl, Nat.le_of_ble_eq_true rfl⟩ ⟨Nat.le_of_ble_eq_true rfl, Nat.le_of_ble_eq_true rfl⟩ (Nat.le_of_ble_eq_true rfl) ?_
  refine z_nn (L' := [(46, (zI G 10 (upd plc pt (-1)))), (52, (zI G 120 (X3_prepare_c52 fld n0 n1 n2 f0 f1 f2 (upd plc pt (-1)) lw md p1 p2 l1 pt bN))), (53, (zI G 120 (X3_prepare_c53 fld n0 n1 n2 f0 f1 f2 (upd plc pt (-1)) lw md p1 p2 l1 pt bN))), (54, (zI G 120 (X3_prepare_c54 fld n0 n1 n2 f0 f1 f2 (upd plc pt (-1)) lw md p1 p2 l1 pt bN))), (55, (zI G 3 (X3_prepare_c55 fld n0 n1 n2 f0 f1 f2 (upd plc pt (-1)) lw md p1 p2 l1 pt bN))), (56, (zI G 3 (X3_prepare_c56 fld n0 n1 n2 f0 f1 f2 (upd plc pt (-1)) lw md p1 p2 l1 pt bN))), (57, (zI G 3 (X3_prepare_c57 fld n0 n1 n2 f0 f1 f2 (upd plc pt (-1)) lw md p1 p2 l1 pt bN)))]) rfl ?_
  exact z_return dX3_enter_12 rfl (Nat.le_refl _) (Nat.le_refl _) (fun _ => rfl) ⟨rfl, by simp only [X3_enter_c46, X3_enter_c52, X3_enter_c53, X3_enter_c54, X3_enter_c55, X3_enter_c56, X3_enter_c57]⟩
abbrev mX3_goes : zM := (cX3_goes, 8, (some .boolean), RX3, wsX3_goes, "goes")
theorem hiX3_goes_X3 : ∀ w ∈ wsX30, w ∈ wsX3_goes := fun w h => List.mem_cons_of_mem _ (List.mem_append_left _ (List.mem_append_right _ h))
theorem lkX3_goes_26 : Cond.fieldLink RX3 26 "ConfigSearch$Search" "places" "[I" ∈ wsX3_goes := by decide +kernel
theorem lkX3_goes_12 : Cond.fieldLink RX3 12 "ConfigSearch$Search" "plane" "LConfigSearch$Plane;" ∈ wsX3_goes := by decide +kernel
theorem hiX3_goes_X2 : ∀ w ∈ wsX20, w ∈ wsX3_goes := fun w h => List.mem_cons_of_mem _ (List.mem_append_right _ h)
theorem lkX3_goes_86 : Cond.fieldLink RX3 86 "ConfigSearch$Plane" "numbers" "[[I" ∈ wsX3_goes := by decide +kernel
theorem lkX3_goes_30 : Cond.fieldLink RX3 30 "ConfigSearch$Search" "begin" "[I" ∈ wsX3_goes := by decide +kernel
theorem lkX3_goes_44 : Cond.fieldLink RX3 44 "ConfigSearch$Search" "factor" "[[I" ∈ wsX3_goes := by decide +kernel
theorem lkX3_goes_39 : Cond.fieldLink RX3 39 "ConfigSearch$Search" "wanted" "[I" ∈ wsX3_goes := by decide +kernel
theorem okk_X3_fits : zOk yX3_fits 2 := by unfold zOk; decide +kernel
def X3_goes_L9_F (plc : Nat → Int32) (pt : Nat) (k : Nat) (a9 : Unit) : Unit := if (plc k) = (plc pt) then () else ()
def X3_goes_L9_B (plc : Nat → Int32) (pt : Nat) (k : Nat) (a9 : Unit) : Option ((Int32)) := if (plc k) = (plc pt) then (some (nI 0)) else none
def X3_goes_L78_F (fld : Int32) (n0 : Nat → Int32) (n1 : Nat → Int32) (n2 : Nat → Int32) (f0 : Nat → Int32) (f1 : Nat → Int32) (f2 : Nat → Int32) (plc : Nat → Int32) (wt : Nat → Int32) (pt : Nat) (w : Nat) (a9 : Unit) : Unit := if (X3_fits_v (X2_rest_v fld ((((n0 (plc pt).toNatClampNeg) * (f0 w)) + ((n1 (plc pt).toNatClampNeg) * (f1 w))) + ((n2 (plc pt).toNatClampNeg) * (f2 w)))) (wt w)) = 0 then () else ()
def X3_goes_L78_B (fld : Int32) (n0 : Nat → Int32) (n1 : Nat → Int32) (n2 : Nat → Int32) (f0 : Nat → Int32) (f1 : Nat → Int32) (f2 : Nat → Int32) (plc : Nat → Int32) (wt : Nat → Int32) (pt : Nat) (w : Nat) (a9 : Unit) : Option ((Int32)) := if (X3_fits_v (X2_rest_v fld ((((n0 (plc pt).toNatClampNeg) * (f0 w)) + ((n1 (plc pt).toNatClampNeg) * (f1 w))) + ((n2 (plc pt).toNatClampNeg) * (f2 w)))) (wt w)) = 0 then (some (nI 0)) else none
def X3_goes_v (fld : Int32) (n0 n1 n2 f0 f1 f2 plc wt : Nat → Int32) (pt : Nat) (bN : Nat → Nat) : Int32 := zpick (zfoldB (X3_goes_L9_B plc pt) (X3_goes_L9_F plc pt) pt 0 ()) (fun b => b) (fun am9 => zpick (zfoldB (X3_goes_L78_B fld n0 n1 n2 f0 f1 f2 plc wt pt) (X3_goes_L78_F fld n0 n1 n2 f0 f1 f2 plc wt pt) ((bN (pt + 1)) - (bN pt)) (bN pt) ()) (fun b => b) (fun am78 => nI 1))
set_option maxRecDepth 100000 in
set_option maxHeartbeats 4000000 in
theorem c_X3_goes (G : zG) (ex : Bool) (g : Nat → va_E) (fnd stp : Int32) (fld : Int32) (psz : Nat) (n0 n1 n2 f0 f1 f2 plc bg wt : Nat → Int32) (pt : Nat) (bN : Nat → Nat) (hpt : pt < 10) (hbg : ∀ j, j ≤ pt + 1 → bg j = nI (bN j)) (hb1 : bN pt ≤ bN (pt + 1)) (hb2 : bN (pt + 1) ≤ 120) (hpc : vp_in (plc pt) 183) (h40 : g 40 = (oSch G fnd stp)) (h41 : g 41 = (oPln G fld (nI psz))) (h42 : g 42 = (zR G 3 (zrw G 3 43))) (h43 : g 43 = (zI G 183 n0)) (h44 : g 44 = (zI G 183 n1)) (h45 : g 45 = (zI G 183 n2)) (h51 : g 51 = (zR G 3 (zrw G 3 52))) (h52 : g 52 = (zI G 120 f0)) (h53 : g 53 = (zI G 120 f1)) (h54 : g 54 = (zI G 120 f2)) (h46 : g 46 = (zI G 10 plc)) (h47 : g 47 = (zI G 11 bg)) (h50 : g 50 = (zI G 120 wt)) : zC G yX3_goes wsX3_goes (zrm 2 43) ex [.ref (zB G + 40), .int (nI pt)] (zN, g) (fun r h => r = some (.int (X3_goes_v fld n0 n1 n2 f0 f1 f2 plc wt pt bN)) ∧ h = (zN, g)) := by
  refine zC_of mX3_goes (lv := [some (.ref (zB G + 40)), some (.int (nI pt)), none, none, none, none, none, none]) rfl rfl (by decide) (by intro v hv; simp at hv; rcases hv with rfl | rfl <;> rfl) (Nat.le_of_ble_eq_true rfl) rfl ?_
  refine z_0 ?_
  refine z_aload_n dX3_goes_0 rfl rfl ?_
  refine z_get dX3_goes_1 rfl hiX3_goes_X3 4 lkX3_goes_26 (Nat.le_of_ble_eq_true rfl) h40 rfl (by decide) rfl ?_
  refine z_iload_n dX3_goes_4 rfl rfl ?_
  refine z_ialdN (j := pt) dX3_goes_5 rfl (Nat.le_of_ble_eq_true rfl) h46 (rfl) (by omega) (by decide) ?_
  refine z_istore_2 dX3_goes_6 rfl ?_
  refine z_iconst (v := nI 0) dX3_goes_7 rfl (by decide) ?_
  refine z_istore_3 dX3_goes_8 rfl ?_
  refine z_forB (head := fun k (st9 : Unit) => Z G mX3_goes (zrm 2 43) ex _ 9 [some (.ref (zB G + 40)), some (.int (nI pt)), some (.int (plc pt)), some (.int (nI k)), none, none, none, none] [] (zN, zus g []) 0 0) (out := fun b _ => (some (Value.int b) = some (Value.int (X3_goes_v fld n0 n1 n2 f0 f1 f2 plc wt pt bN))) ∧ ((zN, zus g []) : zAH) = (zN, g)) (B := (X3_goes_L9_B plc pt)) (F := (X3_goes_L9_F plc pt)) (n := pt) (fun _ _ => True) (fun _ _ _ _ _ => trivial) ?_ pt 0 () (by omega) trivial ?_ ?_
  · intro k _ hi _ Ko K
    refine z_iload_n dX3_goes_9 rfl rfl ?_
    refine z_iload_n dX3_goes_10 rfl rfl ?_
    refine z_icmp_ge (tgt := 32) dX3_goes_11 rfl (by decide) (fun c11 => ?_) (fun c11 => ?_)
    · exact absurd c11 (nI_ge hi (by omega))
    · refine z_aload_n dX3_goes_14 rfl rfl ?_
      refine z_get dX3_goes_15 rfl hiX3_goes_X3 4 lkX3_goes_26 (Nat.le_of_ble_eq_true rfl) h40 rfl (by decide) rfl ?_
      refine z_iload_n dX3_goes_18 rfl rfl ?_
      refine z_ialdN (j := k) dX3_goes_19 rfl (Nat.le_of_ble_eq_true rfl) h46 (rfl) (by omega) (by decide) ?_
      refine z_iload_n dX3_goes_20 rfl rfl ?_
      refine z_icmp_ne (tgt := 26) dX3_goes_21 rfl (by decide) (fun c21 => ?_) (fun c21 => ?_)
      · refine z_iinc_3 (v := nI (k + 1)) dX3_goes_26 rfl (zinc _) ?_
        refine z_goto (tgt := 9) dX3_goes_29 (by decide) ?_
        have K9 := (K (by simp only [X3_goes_L9_B, if_neg c21]))
        try simp only [X3_goes_L9_F, if_neg c21] at K9
        exact K9
      · refine z_iconst (v := nI 0) dX3_goes_24 rfl (by decide) ?_
        exact z_ireturn dX3_goes_25 rfl rfl (Nat.le_refl _) (Nat.le_refl _) (fun _ => rfl) (Ko (nI 0) (by simp only [X3_goes_L9_B, if_pos c21]))
  · intro b a9 hz9
    exact ⟨by simp only [X3_goes_v, hz9, zpick_s], rfl⟩
  · intro _ hz9 _
    refine z_iload_n dX3_goes_9 rfl rfl ?_
    refine z_iload_n dX3_goes_10 rfl rfl ?_
    refine z_icmp_ge (tgt := 32) dX3_goes_11 rfl (by decide) (fun c11 => ?_) (fun c11 => ?_)
    · refine z_aload_n dX3_goes_32 rfl rfl ?_
      refine z_get dX3_goes_33 rfl hiX3_goes_X3 0 lkX3_goes_12 (Nat.le_of_ble_eq_true rfl) h40 rfl (by decide) rfl ?_
      refine z_get dX3_goes_36 rfl hiX3_goes_X2 2 lkX3_goes_86 (Nat.le_of_ble_eq_true rfl) h41 rfl (by decide) rfl ?_
      refine z_iconst (v := nI 0) dX3_goes_39 rfl (by decide) ?_
      refine z_aaldN (j := 0) (a := zB G + 43) dX3_goes_40 rfl (Nat.le_of_ble_eq_true rfl) h42 (rfl) (by omega) (by decide) rfl ?_
      refine z_iload_n dX3_goes_41 rfl rfl ?_
      refine z_iald dX3_goes_42 rfl (Nat.le_of_ble_eq_true rfl) h43 hpc ?_
      refine z_istore_3 dX3_goes_43 rfl ?_
      refine z_aload_n dX3_goes_44 rfl rfl ?_
      refine z_get dX3_goes_45 rfl hiX3_goes_X3 0 lkX3_goes_12 (Nat.le_of_ble_eq_true rfl) h40 rfl (by decide) rfl ?_
      refine z_get dX3_goes_48 rfl hiX3_goes_X2 2 lkX3_goes_86 (Nat.le_of_ble_eq_true rfl) h41 rfl (by decide) rfl ?_
      refine z_iconst (v := nI 1) dX3_goes_51 rfl (by decide) ?_
      refine z_aaldN (j := 1) (a := zB G + 44) dX3_goes_52 rfl (Nat.le_of_ble_eq_true rfl) h42 (rfl) (by omega) (by decide) rfl ?_
      refine z_iload_n dX3_goes_53 rfl rfl ?_
      refine z_iald dX3_goes_54 rfl (Nat.le_of_ble_eq_true rfl) h44 hpc ?_
      refine z_istore_4 dX3_goes_55 rfl ?_
      refine z_aload_n dX3_goes_57 rfl rfl ?_
      refine z_get dX3_goes_58 rfl hiX3_goes_X3 0 lkX3_goes_12 (Nat.le_of_ble_eq_true rfl) h40 rfl (by decide) rfl ?_
      refine z_get dX3_goes_61 rfl hiX3_goes_X2 2 lkX3_goes_86 (Nat.le_of_ble_eq_true rfl) h41 rfl (by decide) rfl ?_
      refine z_iconst (v := nI 2) dX3_goes_64 rfl (by decide) ?_
      refine z_aaldN (j := 2) (a := zB G + 45) dX3_goes_65 rfl (Nat.le_of_ble_eq_true rfl) h42 (rfl) (by omega) (by decide) rfl ?_
      refine z_iload_n dX3_goes_66 rfl rfl ?_
      refine z_iald dX3_goes_67 rfl (Nat.le_of_ble_eq_true rfl) h45 hpc ?_
      refine z_istore_5 dX3_goes_68 rfl ?_
      refine z_aload_n dX3_goes_70 rfl rfl ?_
      refine z_get dX3_goes_71 rfl hiX3_goes_X3 5 lkX3_goes_30 (Nat.le_of_ble_eq_true rfl) h40 rfl (by decide) rfl ?_
      refine z_iload_n dX3_goes_74 rfl rfl ?_
      refine z_ialdN (j := pt) dX3_goes_75 rfl (Nat.le_of_ble_eq_true rfl) h47 (rfl) (by omega) (by decide) ?_
      refine z_top (show bg pt = nI (bN pt) from hbg _ (by omega)) ?_
      refine z_istore_6 dX3_goes_76 rfl ?_
      refine z_forB (head := fun w (st9 : Unit) => ∀ y7 : Option Value, Z G mX3_goes (zrm 2 43) ex _ 78 [some (.ref (zB G + 40)), some (.int (nI pt)), some (.int (plc pt)), some (.int (n0 (plc pt).toNatClampNeg)), some (.int (n1 (plc pt).toNatClampNeg)), some (.int (n2 (plc pt).toNatClampNeg)), some (.int (nI w)), y7] [] (zN, zus g []) 0 0) (out := fun b _ => (some (Value.int b) = some (Value.int (X3_goes_v fld n0 n1 n2 f0 f1 f2 plc wt pt bN))) ∧ ((zN, zus g []) : zAH) = (zN, g)) (B := (X3_goes_L78_B fld n0 n1 n2 f0 f1 f2 plc wt pt)) (F := (X3_goes_L78_F fld n0 n1 n2 f0 f1 f2 plc wt pt)) (n := bN (pt + 1)) (fun _ _ => True) (fun _ _ _ _ _ => trivial) ?_ ((bN (pt + 1)) - (bN pt)) (bN pt) () (by omega) trivial ?_ ?_ _
      · intro w _ hi _ Ko K
        intro y7
        refine z_iload dX3_goes_78 rfl rfl ?_
        refine z_aload_n dX3_goes_80 rfl rfl ?_
        refine z_get dX3_goes_81 rfl hiX3_goes_X3 5 lkX3_goes_30 (Nat.le_of_ble_eq_true rfl) h40 rfl (by decide) rfl ?_
        refine z_iload_n dX3_goes_84 rfl rfl ?_
        refine z_iconst (v := nI 1) dX3_goes_85 rfl (by decide) ?_
        refine z_iadd dX3_goes_86 rfl ?_
        refine z_ialdN (j := pt + 1) dX3_goes_87 rfl (Nat.le_of_ble_eq_true rfl) h47 ((zq_add rfl rfl)) (by omega) (by decide) ?_
        refine z_top (show bg (pt + 1) = nI (bN (pt + 1)) from hbg _ (by omega)) ?_
        refine z_icmp_ge (tgt := 160) dX3_goes_88 rfl (by decide) (fun c88 => ?_) (fun c88 => ?_)
        · exact absurd c88 (nI_ge hi (by omega))
        · refine z_iload_n dX3_goes_91 rfl rfl ?_
          refine z_aload_n dX3_goes_92 rfl rfl ?_
          refine z_get dX3_goes_93 rfl hiX3_goes_X3 9 lkX3_goes_44 (Nat.le_of_ble_eq_true rfl) h40 rfl (by decide) rfl ?_
          refine z_iconst (v := nI 0) dX3_goes_96 rfl (by decide) ?_
          refine z_aaldN (j := 0) (a := zB G + 52) dX3_goes_97 rfl (Nat.le_of_ble_eq_true rfl) h51 (rfl) (by omega) (by decide) rfl ?_
          refine z_iload dX3_goes_98 rfl rfl ?_
          refine z_ialdN (j := w) dX3_goes_100 rfl (Nat.le_of_ble_eq_true rfl) h52 (rfl) (by omega) (by decide) ?_
          refine z_imul dX3_goes_101 rfl ?_
          refine z_iload dX3_goes_102 rfl rfl ?_
          refine z_aload_n dX3_goes_104 rfl rfl ?_
          refine z_get dX3_goes_105 rfl hiX3_goes_X3 9 lkX3_goes_44 (Nat.le_of_ble_eq_true rfl) h40 rfl (by decide) rfl ?_
          refine z_iconst (v := nI 1) dX3_goes_108 rfl (by decide) ?_
          refine z_aaldN (j := 1) (a := zB G + 53) dX3_goes_109 rfl (Nat.le_of_ble_eq_true rfl) h51 (rfl) (by omega) (by decide) rfl ?_
          refine z_iload dX3_goes_110 rfl rfl ?_
          refine z_ialdN (j := w) dX3_goes_112 rfl (Nat.le_of_ble_eq_true rfl) h53 (rfl) (by omega) (by decide) ?_
          refine z_imul dX3_goes_113 rfl ?_
          refine z_iadd dX3_goes_114 rfl ?_
          refine z_iload dX3_goes_115 rfl rfl ?_
          refine z_aload_n dX3_goes_117 rfl rfl ?_
          refine z_get dX3_goes_118 rfl hiX3_goes_X3 9 lkX3_goes_44 (Nat.le_of_ble_eq_true rfl) h40 rfl (by decide) rfl ?_
          refine z_iconst (v := nI 2) dX3_goes_121 rfl (by decide) ?_
          refine z_aaldN (j := 2) (a := zB G + 54) dX3_goes_122 rfl (Nat.le_of_ble_eq_true rfl) h51 (rfl) (by omega) (by decide) rfl ?_
          refine z_iload dX3_goes_123 rfl rfl ?_
          refine z_ialdN (j := w) dX3_goes_125 rfl (Nat.le_of_ble_eq_true rfl) h54 (rfl) (by omega) (by decide) ?_
          refine z_imul dX3_goes_126 rfl ?_
          refine z_iadd dX3_goes_127 rfl ?_
          refine z_istore_7 dX3_goes_128 rfl ?_
          refine z_aload_n dX3_goes_130 rfl rfl ?_
          refine z_get dX3_goes_131 rfl hiX3_goes_X3 0 lkX3_goes_12 (Nat.le_of_ble_eq_true rfl) h40 rfl (by decide) rfl ?_
          refine z_iload dX3_goes_134 rfl rfl ?_
          refine z_callVi (c_X2_rest G ex _ fld psz ((((n0 (plc pt).toNatClampNeg) * (f0 w)) + ((n1 (plc pt).toNatClampNeg) * (f1 w))) + ((n2 (plc pt).toNatClampNeg) * (f2 w))) h41) gX3_goes_X2_rest rfl dX3_goes_136 rfl rfl rfl okk_X2_rest (Nat.le_of_ble_eq_true rfl) h41 rfl ⟨Nat.le_of_ble_eq_true rfl, Nat.le_of_ble_eq_true rfl⟩ ⟨Nat.le_of_ble_eq_true rfl, Nat.le_of_ble_eq_true rfl⟩ (Nat.le_of_ble_eq_true rfl) ?_
          refine z_aload_n dX3_goes_139 rfl rfl ?_
          refine z_get dX3_goes_140 rfl hiX3_goes_X3 8 lkX3_goes_39 (Nat.le_of_ble_eq_true rfl) h40 rfl (by decide) rfl ?_
          refine z_iload dX3_goes_143 rfl rfl ?_
          refine z_ialdN (j := w) dX3_goes_145 rfl (Nat.le_of_ble_eq_true rfl) h50 (rfl) (by omega) (by decide) ?_
          refine z_callSi (c_X3_fits G ex _ (X2_rest_v fld ((((n0 (plc pt).toNatClampNeg) * (f0 w)) + ((n1 (plc pt).toNatClampNeg) * (f1 w))) + ((n2 (plc pt).toNatClampNeg) * (f2 w)))) (wt w)) gX3_goes_X3_fits rfl dX3_goes_146 rfl rfl okk_X3_fits ⟨Nat.le_of_ble_eq_true rfl, Nat.le_of_ble_eq_true rfl⟩ ⟨Nat.le_of_ble_eq_true rfl, Nat.le_of_ble_eq_true rfl⟩ (Nat.le_of_ble_eq_true rfl) ?_
          refine z_if_ne (tgt := 154) dX3_goes_149 rfl (by decide) (fun c149 => ?_) (fun c149 => ?_)
          · refine z_iinc_6 (v := nI (w + 1)) dX3_goes_154 rfl (zinc _) ?_
            refine z_goto (tgt := 78) dX3_goes_157 (by decide) ?_
            have K9 := (K (by simp only [X3_goes_L78_B, if_neg c149]))
            try simp only [X3_goes_L78_F, if_neg c149] at K9
            exact K9 _
          · refine z_iconst (v := nI 0) dX3_goes_152 rfl (by decide) ?_
            exact z_ireturn dX3_goes_153 rfl rfl (Nat.le_refl _) (Nat.le_refl _) (fun _ => rfl) (Ko (nI 0) (by simp only [X3_goes_L78_B, if_pos c149]))
      · intro b a9 hz78
        exact ⟨by simp only [X3_goes_v, hz9, zpick_n, hz78, zpick_s], rfl⟩
      · intro _ hz78 _
        intro y7
        refine z_iload dX3_goes_78 rfl rfl ?_
        refine z_aload_n dX3_goes_80 rfl rfl ?_
        refine z_get dX3_goes_81 rfl hiX3_goes_X3 5 lkX3_goes_30 (Nat.le_of_ble_eq_true rfl) h40 rfl (by decide) rfl ?_
        refine z_iload_n dX3_goes_84 rfl rfl ?_
        refine z_iconst (v := nI 1) dX3_goes_85 rfl (by decide) ?_
        refine z_iadd dX3_goes_86 rfl ?_
        refine z_ialdN (j := pt + 1) dX3_goes_87 rfl (Nat.le_of_ble_eq_true rfl) h47 ((zq_add rfl rfl)) (by omega) (by decide) ?_
        refine z_top (show bg (pt + 1) = nI (bN (pt + 1)) from hbg _ (by omega)) ?_
        refine z_icmp_ge (tgt := 160) dX3_goes_88 rfl (by decide) (fun c88 => ?_) (fun c88 => ?_)
        · refine z_iconst (v := nI 1) dX3_goes_160 rfl (by decide) ?_
          exact z_ireturn dX3_goes_161 rfl rfl (Nat.le_refl _) (Nat.le_refl _) (fun _ => rfl) ⟨by simp only [X3_goes_v, hz9, zpick_n, hz78, zpick_n], rfl⟩
        · exact absurd (nI_le (Nat.le_refl _) (by omega)) c88
    · exact absurd (nI_le (Nat.le_refl _) (by omega)) c11
abbrev mX3_numberOf : zM := (cX3_numberOf, 4, (some .int), RX3, wsX3_numberOf, "numberOf")
theorem hiX3_numberOf_X3 : ∀ w ∈ wsX30, w ∈ wsX3_numberOf := fun w h => List.mem_cons_of_mem _ (List.mem_append_left _ (List.mem_append_right _ h))
theorem lkX3_numberOf_26 : Cond.fieldLink RX3 26 "ConfigSearch$Search" "places" "[I" ∈ wsX3_numberOf := by decide +kernel
theorem lkX3_numberOf_12 : Cond.fieldLink RX3 12 "ConfigSearch$Search" "plane" "LConfigSearch$Plane;" ∈ wsX3_numberOf := by decide +kernel
theorem hiX3_numberOf_X2 : ∀ w ∈ wsX20, w ∈ wsX3_numberOf := fun w h => List.mem_cons_of_mem _ (List.mem_append_right _ h)
theorem lkX3_numberOf_86 : Cond.fieldLink RX3 86 "ConfigSearch$Plane" "numbers" "[[I" ∈ wsX3_numberOf := by decide +kernel
def X3_numberOf_v_0 (n0 plc : Nat → Int32) (pt : Nat) : Int32 := n0 (plc pt).toNatClampNeg
set_option maxRecDepth 100000 in
set_option maxHeartbeats 4000000 in
theorem c_X3_numberOf_0 (G : zG) (ex : Bool) (g : Nat → va_E) (fnd stp : Int32) (fld : Int32) (psz : Nat) (n0 n1 n2 plc : Nat → Int32) (pt : Nat) (hpt : pt < 10) (hpc : vp_in (plc pt) 183) (h40 : g 40 = (oSch G fnd stp)) (h41 : g 41 = (oPln G fld (nI psz))) (h42 : g 42 = (zR G 3 (zrw G 3 43))) (h43 : g 43 = (zI G 183 n0)) (h44 : g 44 = (zI G 183 n1)) (h45 : g 45 = (zI G 183 n2)) (h46 : g 46 = (zI G 10 plc)) : zC G yX3_numberOf wsX3_numberOf (zrm 0 0) ex [.ref (zB G + 40), .int (nI pt), .int (nI 0)] (zN, g) (fun r h => r = some (.int (X3_numberOf_v_0 n0 plc pt)) ∧ h = (zN, g)) := by
  refine zC_of mX3_numberOf (lv := [some (.ref (zB G + 40)), some (.int (nI pt)), some (.int (nI 0)), none]) rfl rfl (by decide) (by intro v hv; simp at hv; rcases hv with rfl | rfl | rfl <;> rfl) (Nat.le_of_ble_eq_true rfl) rfl ?_
  refine z_0 ?_
  refine z_aload_n dX3_numberOf_0 rfl rfl ?_
  refine z_get dX3_numberOf_1 rfl hiX3_numberOf_X3 4 lkX3_numberOf_26 (Nat.le_of_ble_eq_true rfl) h40 rfl (by decide) rfl ?_
  refine z_iload_n dX3_numberOf_4 rfl rfl ?_
  refine z_ialdN (j := pt) dX3_numberOf_5 rfl (Nat.le_of_ble_eq_true rfl) h46 (rfl) (by omega) (by decide) ?_
  refine z_istore_3 dX3_numberOf_6 rfl ?_
  refine z_iload_n dX3_numberOf_7 rfl rfl ?_
  refine z_iconst (v := nI 3) dX3_numberOf_8 rfl (by decide) ?_
  refine z_icmp_ge (tgt := 26) dX3_numberOf_9 rfl (by decide) (fun c9 => ?_) (fun c9 => ?_)
  · exact absurd c9 (by decide)
  · refine z_aload_n dX3_numberOf_12 rfl rfl ?_
    refine z_get dX3_numberOf_13 rfl hiX3_numberOf_X3 0 lkX3_numberOf_12 (Nat.le_of_ble_eq_true rfl) h40 rfl (by decide) rfl ?_
    refine z_get dX3_numberOf_16 rfl hiX3_numberOf_X2 2 lkX3_numberOf_86 (Nat.le_of_ble_eq_true rfl) h41 rfl (by decide) rfl ?_
    refine z_iload_n dX3_numberOf_19 rfl rfl ?_
    refine z_aaldN (j := 0) (a := zB G + 43) dX3_numberOf_20 rfl (Nat.le_of_ble_eq_true rfl) h42 (rfl) (by omega) (by decide) rfl ?_
    refine z_iload_n dX3_numberOf_21 rfl rfl ?_
    refine z_iald dX3_numberOf_22 rfl (Nat.le_of_ble_eq_true rfl) h43 hpc ?_
    refine z_goto (tgt := 27) dX3_numberOf_23 (by decide) ?_
    exact z_ireturn dX3_numberOf_27 rfl rfl (Nat.le_refl _) (Nat.le_refl _) (fun _ => rfl) ⟨by simp only [X3_numberOf_v_0], rfl⟩
def X3_numberOf_v_1 (n1 plc : Nat → Int32) (pt : Nat) : Int32 := n1 (plc pt).toNatClampNeg
set_option maxRecDepth 100000 in
set_option maxHeartbeats 4000000 in
theorem c_X3_numberOf_1 (G : zG) (ex : Bool) (g : Nat → va_E) (fnd stp : Int32) (fld : Int32) (psz : Nat) (n0 n1 n2 plc : Nat → Int32) (pt : Nat) (hpt : pt < 10) (hpc : vp_in (plc pt) 183) (h40 : g 40 = (oSch G fnd stp)) (h41 : g 41 = (oPln G fld (nI psz))) (h42 : g 42 = (zR G 3 (zrw G 3 43))) (h43 : g 43 = (zI G 183 n0)) (h44 : g 44 = (zI G 183 n1)) (h45 : g 45 = (zI G 183 n2)) (h46 : g 46 = (zI G 10 plc)) : zC G yX3_numberOf wsX3_numberOf (zrm 0 0) ex [.ref (zB G + 40), .int (nI pt), .int (nI 1)] (zN, g) (fun r h => r = some (.int (X3_numberOf_v_1 n1 plc pt)) ∧ h = (zN, g)) := by
  refine zC_of mX3_numberOf (lv := [some (.ref (zB G + 40)), some (.int (nI pt)), some (.int (nI 1)), none]) rfl rfl (by decide) (by intro v hv; simp at hv; rcases hv with rfl | rfl | rfl <;> rfl) (Nat.le_of_ble_eq_true rfl) rfl ?_
  refine z_0 ?_
  refine z_aload_n dX3_numberOf_0 rfl rfl ?_
  refine z_get dX3_numberOf_1 rfl hiX3_numberOf_X3 4 lkX3_numberOf_26 (Nat.le_of_ble_eq_true rfl) h40 rfl (by decide) rfl ?_
  refine z_iload_n dX3_numberOf_4 rfl rfl ?_
  refine z_ialdN (j := pt) dX3_numberOf_5 rfl (Nat.le_of_ble_eq_true rfl) h46 (rfl) (by omega) (by decide) ?_
  refine z_istore_3 dX3_numberOf_6 rfl ?_
  refine z_iload_n dX3_numberOf_7 rfl rfl ?_
  refine z_iconst (v := nI 3) dX3_numberOf_8 rfl (by decide) ?_
  refine z_icmp_ge (tgt := 26) dX3_numberOf_9 rfl (by decide) (fun c9 => ?_) (fun c9 => ?_)
  · exact absurd c9 (by decide)
  · refine z_aload_n dX3_numberOf_12 rfl rfl ?_
    refine z_get dX3_numberOf_13 rfl hiX3_numberOf_X3 0 lkX3_numberOf_12 (Nat.le_of_ble_eq_true rfl) h40 rfl (by decide) rfl ?_
    refine z_get dX3_numberOf_16 rfl hiX3_numberOf_X2 2 lkX3_numberOf_86 (Nat.le_of_ble_eq_true rfl) h41 rfl (by decide) rfl ?_
    refine z_iload_n dX3_numberOf_19 rfl rfl ?_
    refine z_aaldN (j := 1) (a := zB G + 44) dX3_numberOf_20 rfl (Nat.le_of_ble_eq_true rfl) h42 (rfl) (by omega) (by decide) rfl ?_
    refine z_iload_n dX3_numberOf_21 rfl rfl ?_
    refine z_iald dX3_numberOf_22 rfl (Nat.le_of_ble_eq_true rfl) h44 hpc ?_
    refine z_goto (tgt := 27) dX3_numberOf_23 (by decide) ?_
    exact z_ireturn dX3_numberOf_27 rfl rfl (Nat.le_refl _) (Nat.le_refl _) (fun _ => rfl) ⟨by simp only [X3_numberOf_v_1], rfl⟩
def X3_numberOf_v_2 (n2 plc : Nat → Int32) (pt : Nat) : Int32 := n2 (plc pt).toNatClampNeg
set_option maxRecDepth 100000 in
set_option maxHeartbeats 4000000 in
theorem c_X3_numberOf_2 (G : zG) (ex : Bool) (g : Nat → va_E) (fnd stp : Int32) (fld : Int32) (psz : Nat) (n0 n1 n2 plc : Nat → Int32) (pt : Nat) (hpt : pt < 10) (hpc : vp_in (plc pt) 183) (h40 : g 40 = (oSch G fnd stp)) (h41 : g 41 = (oPln G fld (nI psz))) (h42 : g 42 = (zR G 3 (zrw G 3 43))) (h43 : g 43 = (zI G 183 n0)) (h44 : g 44 = (zI G 183 n1)) (h45 : g 45 = (zI G 183 n2)) (h46 : g 46 = (zI G 10 plc)) : zC G yX3_numberOf wsX3_numberOf (zrm 0 0) ex [.ref (zB G + 40), .int (nI pt), .int (nI 2)] (zN, g) (fun r h => r = some (.int (X3_numberOf_v_2 n2 plc pt)) ∧ h = (zN, g)) := by
  refine zC_of mX3_numberOf (lv := [some (.ref (zB G + 40)), some (.int (nI pt)), some (.int (nI 2)), none]) rfl rfl (by decide) (by intro v hv; simp at hv; rcases hv with rfl | rfl | rfl <;> rfl) (Nat.le_of_ble_eq_true rfl) rfl ?_
  refine z_0 ?_
  refine z_aload_n dX3_numberOf_0 rfl rfl ?_
  refine z_get dX3_numberOf_1 rfl hiX3_numberOf_X3 4 lkX3_numberOf_26 (Nat.le_of_ble_eq_true rfl) h40 rfl (by decide) rfl ?_
  refine z_iload_n dX3_numberOf_4 rfl rfl ?_
  refine z_ialdN (j := pt) dX3_numberOf_5 rfl (Nat.le_of_ble_eq_true rfl) h46 (rfl) (by omega) (by decide) ?_
  refine z_istore_3 dX3_numberOf_6 rfl ?_
  refine z_iload_n dX3_numberOf_7 rfl rfl ?_
  refine z_iconst (v := nI 3) dX3_numberOf_8 rfl (by decide) ?_
  refine z_icmp_ge (tgt := 26) dX3_numberOf_9 rfl (by decide) (fun c9 => ?_) (fun c9 => ?_)
  · exact absurd c9 (by decide)
  · refine z_aload_n dX3_numberOf_12 rfl rfl ?_
    refine z_get dX3_numberOf_13 rfl hiX3_numberOf_X3 0 lkX3_numberOf_12 (Nat.le_of_ble_eq_true rfl) h40 rfl (by decide) rfl ?_
    refine z_get dX3_numberOf_16 rfl hiX3_numberOf_X2 2 lkX3_numberOf_86 (Nat.le_of_ble_eq_true rfl) h41 rfl (by decide) rfl ?_
    refine z_iload_n dX3_numberOf_19 rfl rfl ?_
    refine z_aaldN (j := 2) (a := zB G + 45) dX3_numberOf_20 rfl (Nat.le_of_ble_eq_true rfl) h42 (rfl) (by omega) (by decide) rfl ?_
    refine z_iload_n dX3_numberOf_21 rfl rfl ?_
    refine z_iald dX3_numberOf_22 rfl (Nat.le_of_ble_eq_true rfl) h45 hpc ?_
    refine z_goto (tgt := 27) dX3_numberOf_23 (by decide) ?_
    exact z_ireturn dX3_numberOf_27 rfl rfl (Nat.le_refl _) (Nat.le_refl _) (fun _ => rfl) ⟨by simp only [X3_numberOf_v_2], rfl⟩
def X3_numberOf_v_3 (plc : Nat → Int32) (pt : Nat) : Int32 := plc pt
set_option maxRecDepth 100000 in
set_option maxHeartbeats 4000000 in
theorem c_X3_numberOf_3 (G : zG) (ex : Bool) (g : Nat → va_E) (fnd stp : Int32) (fld : Int32) (psz : Nat) (n0 n1 n2 plc : Nat → Int32) (pt : Nat) (hpt : pt < 10) (hpc : vp_in (plc pt) 183) (h40 : g 40 = (oSch G fnd stp)) (h41 : g 41 = (oPln G fld (nI psz))) (h42 : g 42 = (zR G 3 (zrw G 3 43))) (h43 : g 43 = (zI G 183 n0)) (h44 : g 44 = (zI G 183 n1)) (h45 : g 45 = (zI G 183 n2)) (h46 : g 46 = (zI G 10 plc)) : zC G yX3_numberOf wsX3_numberOf (zrm 0 0) ex [.ref (zB G + 40), .int (nI pt), .int (nI 3)] (zN, g) (fun r h => r = some (.int (X3_numberOf_v_3 plc pt)) ∧ h = (zN, g)) := by
  refine zC_of mX3_numberOf (lv := [some (.ref (zB G + 40)), some (.int (nI pt)), some (.int (nI 3)), none]) rfl rfl (by decide) (by intro v hv; simp at hv; rcases hv with rfl | rfl | rfl <;> rfl) (Nat.le_of_ble_eq_true rfl) rfl ?_
  refine z_0 ?_
  refine z_aload_n dX3_numberOf_0 rfl rfl ?_
  refine z_get dX3_numberOf_1 rfl hiX3_numberOf_X3 4 lkX3_numberOf_26 (Nat.le_of_ble_eq_true rfl) h40 rfl (by decide) rfl ?_
  refine z_iload_n dX3_numberOf_4 rfl rfl ?_
  refine z_ialdN (j := pt) dX3_numberOf_5 rfl (Nat.le_of_ble_eq_true rfl) h46 (rfl) (by omega) (by decide) ?_
  refine z_istore_3 dX3_numberOf_6 rfl ?_
  refine z_iload_n dX3_numberOf_7 rfl rfl ?_
  refine z_iconst (v := nI 3) dX3_numberOf_8 rfl (by decide) ?_
  refine z_icmp_ge (tgt := 26) dX3_numberOf_9 rfl (by decide) (fun c9 => ?_) (fun c9 => ?_)
  · refine z_iload_n dX3_numberOf_26 rfl rfl ?_
    exact z_ireturn dX3_numberOf_27 rfl rfl (Nat.le_refl _) (Nat.le_refl _) (fun _ => rfl) ⟨by simp only [X3_numberOf_v_3], rfl⟩
  · exact absurd (by decide) c9
abbrev mX3_placeOnBoth : zM := (cX3_placeOnBoth, 3, (some .int), RX3, wsX3_placeOnBoth, "placeOnBoth")
theorem hiX3_placeOnBoth_X3 : ∀ w ∈ wsX30, w ∈ wsX3_placeOnBoth := fun w h => List.mem_cons_of_mem _ (List.mem_append_left _ (List.mem_append_right _ h))
theorem lkX3_placeOnBoth_53 : Cond.fieldLink RX3 53 "ConfigSearch$Search" "oneLine" "[I" ∈ wsX3_placeOnBoth := by decide +kernel
theorem lkX3_placeOnBoth_56 : Cond.fieldLink RX3 56 "ConfigSearch$Search" "otherLine" "[I" ∈ wsX3_placeOnBoth := by decide +kernel
theorem lkX3_placeOnBoth_47 : Cond.fieldLink RX3 47 "ConfigSearch$Search" "onePlace" "[I" ∈ wsX3_placeOnBoth := by decide +kernel
theorem lkX3_placeOnBoth_12 : Cond.fieldLink RX3 12 "ConfigSearch$Search" "plane" "LConfigSearch$Plane;" ∈ wsX3_placeOnBoth := by decide +kernel
theorem okk_X2_placeAt : zOk yX2_placeAt 1 := by unfold zOk; decide +kernel
def X3_placeOnBoth_v (fd : Nat) (n0 n1 n2 plc p1 p2 l1 l2 wa wb : Nat → Int32) : Int32 := X2_placeAt_v fd (X3_cross_c55_55 (nI fd) (X3_joinPoints_c57_57 (nI fd) n0 n1 n2 plc p1 p2 l1 ((wa 0).toNatClampNeg) ((wa 1).toNatClampNeg)) (X3_joinPoints_c58_58 (nI fd) n0 n1 n2 plc (X3_joinPoints_c55_57 n0 n1 n2 plc p1 ((wa 0).toNatClampNeg)) (X3_joinPoints_c56_57 n0 n1 n2 plc p2 ((wa 1).toNatClampNeg)) l2 ((wb 0).toNatClampNeg) ((wb 1).toNatClampNeg)) (X3_joinPoints_c55_58 n0 n1 n2 plc (X3_joinPoints_c55_57 n0 n1 n2 plc p1 ((wa 0).toNatClampNeg)) ((wb 0).toNatClampNeg)))
def X3_placeOnBoth_c55 (fd : Nat) (n0 n1 n2 plc p1 p2 l1 l2 wa wb : Nat → Int32) : Nat → Int32 := X3_cross_c55_55 (nI fd) (X3_joinPoints_c57_57 (nI fd) n0 n1 n2 plc p1 p2 l1 ((wa 0).toNatClampNeg) ((wa 1).toNatClampNeg)) (X3_joinPoints_c58_58 (nI fd) n0 n1 n2 plc (X3_joinPoints_c55_57 n0 n1 n2 plc p1 ((wa 0).toNatClampNeg)) (X3_joinPoints_c56_57 n0 n1 n2 plc p2 ((wa 1).toNatClampNeg)) l2 ((wb 0).toNatClampNeg) ((wb 1).toNatClampNeg)) (X3_joinPoints_c55_58 n0 n1 n2 plc (X3_joinPoints_c55_57 n0 n1 n2 plc p1 ((wa 0).toNatClampNeg)) ((wb 0).toNatClampNeg))
def X3_placeOnBoth_c56 (n0 n1 n2 plc p2 wa wb : Nat → Int32) : Nat → Int32 := X3_joinPoints_c56_58 n0 n1 n2 plc (X3_joinPoints_c56_57 n0 n1 n2 plc p2 ((wa 1).toNatClampNeg)) ((wb 1).toNatClampNeg)
def X3_placeOnBoth_c57 (fd : Nat) (n0 n1 n2 plc p1 p2 l1 wa : Nat → Int32) : Nat → Int32 := X3_joinPoints_c57_57 (nI fd) n0 n1 n2 plc p1 p2 l1 ((wa 0).toNatClampNeg) ((wa 1).toNatClampNeg)
def X3_placeOnBoth_c58 (fd : Nat) (n0 n1 n2 plc p1 p2 l2 wa wb : Nat → Int32) : Nat → Int32 := X3_joinPoints_c58_58 (nI fd) n0 n1 n2 plc (X3_joinPoints_c55_57 n0 n1 n2 plc p1 ((wa 0).toNatClampNeg)) (X3_joinPoints_c56_57 n0 n1 n2 plc p2 ((wa 1).toNatClampNeg)) l2 ((wb 0).toNatClampNeg) ((wb 1).toNatClampNeg)
set_option maxRecDepth 100000 in
set_option maxHeartbeats 4000000 in
theorem c_X3_placeOnBoth (G : zG) (ex : Bool) (g : Nat → va_E) (fnd stp : Int32) (fd psz : Nat) (n0 n1 n2 plc p1 p2 l1 l2 wa wb : Nat → Int32) (kw ko : Nat) (hk_kw : kw < zN) (hk_ko : ko < zN) (hkw9 : kw < 36) (hko9 : ko < 36) (hp1 : 1 ≤ fd) (hp : fd ≤ 13) (ha0 : vp_in (wa 0) 10) (ha1 : vp_in (wa 1) 10) (hb0 : vp_in (wb 0) 10) (hb1 : vp_in (wb 1) 10) (hc1 : vp_in (plc (wa 0).toNatClampNeg) 183) (hc2 : vp_in (plc (wa 1).toNatClampNeg) 183) (hc3 : vp_in (plc (wb 0).toNatClampNeg) 183) (hc4 : vp_in (plc (wb 1).toNatClampNeg) 183) (h40 : g 40 = (oSch G fnd stp)) (h41 : g 41 = (oPln G (nI fd) (nI psz))) (h42 : g 42 = (zR G 3 (zrw G 3 43))) (h43 : g 43 = (zI G 183 n0)) (h44 : g 44 = (zI G 183 n1)) (h45 : g 45 = (zI G 183 n2)) (h46 : g 46 = (zI G 10 plc)) (h55 : g 55 = (zI G 3 p1)) (h56 : g 56 = (zI G 3 p2)) (h57 : g 57 = (zI G 3 l1)) (h58 : g 58 = (zI G 3 l2)) (hkw : g kw = (zI G 5 wa)) (hko : g ko = (zI G 5 wb)) : zC G yX3_placeOnBoth wsX3_placeOnBoth (zrm 4 89) ex [.ref (zB G + 40), .ref (zB G + kw), .ref (zB G + ko)] (zN, g) (fun r h => r = some (.int (X3_placeOnBoth_v fd n0 n1 n2 plc p1 p2 l1 l2 wa wb)) ∧ h = (zN, zus g [(55, zI G 3 (X3_placeOnBoth_c55 fd n0 n1 n2 plc p1 p2 l1 l2 wa wb)), (56, zI G 3 (X3_placeOnBoth_c56 n0 n1 n2 plc p2 wa wb)), (57, zI G 3 (X3_placeOnBoth_c57 fd n0 n1 n2 plc p1 p2 l1 wa)), (58, zI G 3 (X3_placeOnBoth_c58 fd n0 n1 n2 plc p1 p2 l2 wa wb))])) := by
  refine zC_of mX3_placeOnBoth (lv := [some (.ref (zB G + 40)), some (.ref (zB G + kw)), some (.ref (zB G + ko))]) rfl rfl (by decide) (by intro v hv; simp at hv; rcases hv with rfl | rfl | rfl <;> rfl) (Nat.le_of_ble_eq_true rfl) rfl ?_
  refine z_0 ?_
  refine z_heap (g' := zu (zus g []) 55 (zI G 3 p1)) (zu_self (zus g []) 55 _ h55).symm ?_
  refine z_n (L' := [(55, (zI G 3 p1))]) rfl ?_
  refine z_heap (g' := zu (zus g [(55, (zI G 3 p1))]) 56 (zI G 3 p2)) (zu_self (zus g [(55, (zI G 3 p1))]) 56 _ h56).symm ?_
  refine z_n (L' := [(55, (zI G 3 p1)), (56, (zI G 3 p2))]) rfl ?_
  refine z_heap (g' := zu (zus g [(55, (zI G 3 p1)), (56, (zI G 3 p2))]) 57 (zI G 3 l1)) (zu_self (zus g [(55, (zI G 3 p1)), (56, (zI G 3 p2))]) 57 _ h57).symm ?_
  refine z_n (L' := [(55, (zI G 3 p1)), (56, (zI G 3 p2)), (57, (zI G 3 l1))]) rfl ?_
  refine z_heap (g' := zu (zus g [(55, (zI G 3 p1)), (56, (zI G 3 p2)), (57, (zI G 3 l1))]) 58 (zI G 3 l2)) (zu_self (zus g [(55, (zI G 3 p1)), (56, (zI G 3 p2)), (57, (zI G 3 l1))]) 58 _ h58).symm ?_
  refine z_n (L' := [(55, (zI G 3 p1)), (56, (zI G 3 p2)), (57, (zI G 3 l1)), (58, (zI G 3 l2))]) rfl ?_
  refine z_aload_n dX3_placeOnBoth_0 rfl rfl ?_
  refine z_aload_n dX3_placeOnBoth_1 rfl rfl ?_
  refine z_iconst (v := nI 0) dX3_placeOnBoth_2 rfl (by decide) ?_
  refine z_ialdN (j := 0) dX3_placeOnBoth_3 rfl hk_kw (zus_out (by intro q hq; simp at hq; omega) hkw) (rfl) (by omega) (by decide) ?_
  refine z_top (show wa 0 = nI ((wa 0).toNatClampNeg) from zvin ha0) ?_
  refine z_aload_n dX3_placeOnBoth_4 rfl rfl ?_
  refine z_iconst (v := nI 1) dX3_placeOnBoth_5 rfl (by decide) ?_
  refine z_ialdN (j := 1) dX3_placeOnBoth_6 rfl hk_kw (zus_out (by intro q hq; simp at hq; omega) hkw) (rfl) (by omega) (by decide) ?_
  refine z_top (show wa 1 = nI ((wa 1).toNatClampNeg) from zvin ha1) ?_
  refine z_aload_n dX3_placeOnBoth_7 rfl rfl ?_
  refine z_get dX3_placeOnBoth_8 rfl hiX3_placeOnBoth_X3 12 lkX3_placeOnBoth_53 (Nat.le_of_ble_eq_true rfl) h40 rfl (by decide) rfl ?_
  refine z_callVv (c_X3_joinPoints_57 G ex _ fnd stp (nI fd) psz n0 n1 n2 plc p1 p2 l1 ((wa 0).toNatClampNeg) ((wa 1).toNatClampNeg) (zvlt ha0) (zvlt ha1) hc1 hc2 h40 h41 h42 h43 h44 h45 h46 rfl rfl rfl) gX3_placeOnBoth_X3_joinPoints rfl dX3_placeOnBoth_11 rfl rfl rfl okk_X3_joinPoints (Nat.le_of_ble_eq_true rfl) h40 rfl ⟨Nat.le_of_ble_eq_true rfl, Nat.le_of_ble_eq_true rfl⟩ ⟨Nat.le_of_ble_eq_true rfl, Nat.le_of_ble_eq_true rfl⟩ (Nat.le_of_ble_eq_true rfl) ?_
  refine z_nn (L' := [(55, (zI G 3 (X3_joinPoints_c55_57 n0 n1 n2 plc p1 ((wa 0).toNatClampNeg)))), (56, (zI G 3 (X3_joinPoints_c56_57 n0 n1 n2 plc p2 ((wa 1).toNatClampNeg)))), (57, (zI G 3 (X3_joinPoints_c57_57 (nI fd) n0 n1 n2 plc p1 p2 l1 ((wa 0).toNatClampNeg) ((wa 1).toNatClampNeg)))), (58, (zI G 3 l2))]) rfl ?_
  refine z_aload_n dX3_placeOnBoth_14 rfl rfl ?_
  refine z_aload_n dX3_placeOnBoth_15 rfl rfl ?_
  refine z_iconst (v := nI 0) dX3_placeOnBoth_16 rfl (by decide) ?_
  refine z_ialdN (j := 0) dX3_placeOnBoth_17 rfl hk_ko (zus_out (by intro q hq; simp at hq; omega) hko) (rfl) (by omega) (by decide) ?_
  refine z_top (show wb 0 = nI ((wb 0).toNatClampNeg) from zvin hb0) ?_
  refine z_aload_n dX3_placeOnBoth_18 rfl rfl ?_
  refine z_iconst (v := nI 1) dX3_placeOnBoth_19 rfl (by decide) ?_
  refine z_ialdN (j := 1) dX3_placeOnBoth_20 rfl hk_ko (zus_out (by intro q hq; simp at hq; omega) hko) (rfl) (by omega) (by decide) ?_
  refine z_top (show wb 1 = nI ((wb 1).toNatClampNeg) from zvin hb1) ?_
  refine z_aload_n dX3_placeOnBoth_21 rfl rfl ?_
  refine z_get dX3_placeOnBoth_22 rfl hiX3_placeOnBoth_X3 13 lkX3_placeOnBoth_56 (Nat.le_of_ble_eq_true rfl) h40 rfl (by decide) rfl ?_
  refine z_callVv (c_X3_joinPoints_58 G ex _ fnd stp (nI fd) psz n0 n1 n2 plc (X3_joinPoints_c55_57 n0 n1 n2 plc p1 ((wa 0).toNatClampNeg)) (X3_joinPoints_c56_57 n0 n1 n2 plc p2 ((wa 1).toNatClampNeg)) l2 ((wb 0).toNatClampNeg) ((wb 1).toNatClampNeg) (zvlt hb0) (zvlt hb1) hc3 hc4 h40 h41 h42 h43 h44 h45 h46 rfl rfl rfl) gX3_placeOnBoth_X3_joinPoints rfl dX3_placeOnBoth_25 rfl rfl rfl okk_X3_joinPoints (Nat.le_of_ble_eq_true rfl) h40 rfl ⟨Nat.le_of_ble_eq_true rfl, Nat.le_of_ble_eq_true rfl⟩ ⟨Nat.le_of_ble_eq_true rfl, Nat.le_of_ble_eq_true rfl⟩ (Nat.le_of_ble_eq_true rfl) ?_
  refine z_nn (L' := [(55, (zI G 3 (X3_joinPoints_c55_58 n0 n1 n2 plc (X3_joinPoints_c55_57 n0 n1 n2 plc p1 ((wa 0).toNatClampNeg)) ((wb 0).toNatClampNeg)))), (56, (zI G 3 (X3_joinPoints_c56_58 n0 n1 n2 plc (X3_joinPoints_c56_57 n0 n1 n2 plc p2 ((wa 1).toNatClampNeg)) ((wb 1).toNatClampNeg)))), (57, (zI G 3 (X3_joinPoints_c57_57 (nI fd) n0 n1 n2 plc p1 p2 l1 ((wa 0).toNatClampNeg) ((wa 1).toNatClampNeg)))), (58, (zI G 3 (X3_joinPoints_c58_58 (nI fd) n0 n1 n2 plc (X3_joinPoints_c55_57 n0 n1 n2 plc p1 ((wa 0).toNatClampNeg)) (X3_joinPoints_c56_57 n0 n1 n2 plc p2 ((wa 1).toNatClampNeg)) l2 ((wb 0).toNatClampNeg) ((wb 1).toNatClampNeg))))]) rfl ?_
  refine z_aload_n dX3_placeOnBoth_28 rfl rfl ?_
  refine z_aload_n dX3_placeOnBoth_29 rfl rfl ?_
  refine z_get dX3_placeOnBoth_30 rfl hiX3_placeOnBoth_X3 12 lkX3_placeOnBoth_53 (Nat.le_of_ble_eq_true rfl) h40 rfl (by decide) rfl ?_
  refine z_aload_n dX3_placeOnBoth_33 rfl rfl ?_
  refine z_get dX3_placeOnBoth_34 rfl hiX3_placeOnBoth_X3 13 lkX3_placeOnBoth_56 (Nat.le_of_ble_eq_true rfl) h40 rfl (by decide) rfl ?_
  refine z_aload_n dX3_placeOnBoth_37 rfl rfl ?_
  refine z_get dX3_placeOnBoth_38 rfl hiX3_placeOnBoth_X3 10 lkX3_placeOnBoth_47 (Nat.le_of_ble_eq_true rfl) h40 rfl (by decide) rfl ?_
  refine z_callVv (c_X3_cross_55 G ex _ fnd stp (nI fd) psz (X3_joinPoints_c57_57 (nI fd) n0 n1 n2 plc p1 p2 l1 ((wa 0).toNatClampNeg) ((wa 1).toNatClampNeg)) (X3_joinPoints_c58_58 (nI fd) n0 n1 n2 plc (X3_joinPoints_c55_57 n0 n1 n2 plc p1 ((wa 0).toNatClampNeg)) (X3_joinPoints_c56_57 n0 n1 n2 plc p2 ((wa 1).toNatClampNeg)) l2 ((wb 0).toNatClampNeg) ((wb 1).toNatClampNeg)) (X3_joinPoints_c55_58 n0 n1 n2 plc (X3_joinPoints_c55_57 n0 n1 n2 plc p1 ((wa 0).toNatClampNeg)) ((wb 0).toNatClampNeg)) h40 h41 rfl rfl rfl) gX3_placeOnBoth_X3_cross rfl dX3_placeOnBoth_41 rfl rfl rfl okk_X3_cross (Nat.le_of_ble_eq_true rfl) h40 rfl ⟨Nat.le_of_ble_eq_true rfl, Nat.le_of_ble_eq_true rfl⟩ ⟨Nat.le_of_ble_eq_true rfl, Nat.le_of_ble_eq_true rfl⟩ (Nat.le_of_ble_eq_true rfl) ?_
  refine z_nn (L' := [(55, (zI G 3 (X3_cross_c55_55 (nI fd) (X3_joinPoints_c57_57 (nI fd) n0 n1 n2 plc p1 p2 l1 ((wa 0).toNatClampNeg) ((wa 1).toNatClampNeg)) (X3_joinPoints_c58_58 (nI fd) n0 n1 n2 plc (X3_joinPoints_c55_57 n0 n1 n2 plc p1 ((wa 0).toNatClampNeg)) (X3_joinPoints_c56_57 n0 n1 n2 plc p2 ((wa 1).toNatClampNeg)) l2 ((wb 0).toNatClampNeg) ((wb 1).toNatClampNeg)) (X3_joinPoints_c55_58 n0 n1 n2 plc (X3_joinPoints_c55_57 n0 n1 n2 plc p1 ((wa 0).toNatClampNeg)) ((wb 0).toNatClampNeg))))), (56, (zI G 3 (X3_joinPoints_c56_58 n0 n1 n2 plc (X3_joinPoints_c56_57 n0 n1 n2 plc p2 ((wa 1).toNatClampNeg)) ((wb 1).toNatClampNeg)))), (57, (zI G 3 (X3_joinPoints_c57_57 (nI fd) n0 n1 n2 plc p1 p2 l1 ((wa 0).toNatClampNeg) ((wa 1).toNatClampNeg)))), (58, (zI G 3 (X3_joinPoints_c58_58 (nI fd) n0 n1 n2 plc (X3_joinPoints_c55_57 n0 n1 n2 plc p1 ((wa 0).toNatClampNeg)) (X3_joinPoints_c56_57 n0 n1 n2 plc p2 ((wa 1).toNatClampNeg)) l2 ((wb 0).toNatClampNeg) ((wb 1).toNatClampNeg))))]) rfl ?_
  refine z_aload_n dX3_placeOnBoth_44 rfl rfl ?_
  refine z_get dX3_placeOnBoth_45 rfl hiX3_placeOnBoth_X3 0 lkX3_placeOnBoth_12 (Nat.le_of_ble_eq_true rfl) h40 rfl (by decide) rfl ?_
  refine z_aload_n dX3_placeOnBoth_48 rfl rfl ?_
  refine z_get dX3_placeOnBoth_49 rfl hiX3_placeOnBoth_X3 10 lkX3_placeOnBoth_47 (Nat.le_of_ble_eq_true rfl) h40 rfl (by decide) rfl ?_
  refine z_callVi (c_X2_placeAt G ex _ fd psz (X3_cross_c55_55 (nI fd) (X3_joinPoints_c57_57 (nI fd) n0 n1 n2 plc p1 p2 l1 ((wa 0).toNatClampNeg) ((wa 1).toNatClampNeg)) (X3_joinPoints_c58_58 (nI fd) n0 n1 n2 plc (X3_joinPoints_c55_57 n0 n1 n2 plc p1 ((wa 0).toNatClampNeg)) (X3_joinPoints_c56_57 n0 n1 n2 plc p2 ((wa 1).toNatClampNeg)) l2 ((wb 0).toNatClampNeg) ((wb 1).toNatClampNeg)) (X3_joinPoints_c55_58 n0 n1 n2 plc (X3_joinPoints_c55_57 n0 n1 n2 plc p1 ((wa 0).toNatClampNeg)) ((wb 0).toNatClampNeg))) (by omega) (by omega) h41 rfl) gX3_placeOnBoth_X2_placeAt rfl dX3_placeOnBoth_52 rfl rfl rfl okk_X2_placeAt (Nat.le_of_ble_eq_true rfl) h41 rfl ⟨Nat.le_of_ble_eq_true rfl, Nat.le_of_ble_eq_true rfl⟩ ⟨Nat.le_of_ble_eq_true rfl, Nat.le_of_ble_eq_true rfl⟩ (Nat.le_of_ble_eq_true rfl) ?_
  exact z_ireturn dX3_placeOnBoth_55 rfl rfl (Nat.le_refl _) (Nat.le_refl _) (fun _ => rfl) ⟨by simp only [X3_placeOnBoth_v], by simp only [X3_placeOnBoth_c55, X3_placeOnBoth_c56, X3_placeOnBoth_c57, X3_placeOnBoth_c58]⟩
