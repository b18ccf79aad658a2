abbrev mX1_forget : zM := (cX1_forget, 1, none, RX1, wsX1_forget, "forget")
theorem hiX1_forget_X1 : ∀ w ∈ wsX10, w ∈ wsX1_forget := fun w h => List.mem_cons_of_mem _ (List.mem_append_right _ h)
theorem lkX1_forget_18 : Cond.fieldLink RX1 18 "ConfigSearch$Forms" "studied" "Z" ∈ wsX1_forget := by decide +kernel
def X1_forget_p67_0 : Nat := 0
set_option maxRecDepth 100000 in
set_option maxHeartbeats 4000000 in
theorem c_X1_forget (G : zG) (ex : Bool) (g : Nat → va_E) (sd : Int32)  (h67 : g 67 = (oFrm G sd)) : zC G yX1_forget wsX1_forget (zrm 0 0) ex [.ref (zB G + 67)] (zN, g) (fun r h => r = none ∧ h = (zN, zus g [(67, (oFrm G (nI X1_forget_p67_0)))])) := by
  refine zC_of mX1_forget (lv := [some (.ref (zB G + 67))]) rfl rfl (by decide) (by intro v hv; simp at hv; subst hv; rfl) (Nat.le_of_ble_eq_true rfl) rfl ?_
  refine z_0 ?_
  refine z_heap (g' := zu (zus g []) 67 (oFrm G sd)) (zu_self (zus g []) 67 _ h67).symm ?_
  refine z_n (L' := [(67, (oFrm G sd))]) rfl ?_
  refine z_aload_n dX1_forget_0 rfl rfl ?_
  refine z_iconst (v := nI 0) dX1_forget_1 rfl (by decide) ?_
  refine z_putN (e9 := (oFrm G (nI 0))) tyX1 tyX1_ok nmX1 dX1_forget_2 rfl hiX1_forget_X1 2 lkX1_forget_18 rfl (by decide +kernel) (Nat.le_of_ble_eq_true rfl) rfl rfl (by decide) (Nat.le_of_ble_eq_true rfl) rfl rfl rfl ?_
  refine z_n (L' := [(67, (oFrm G (nI 0)))]) rfl ?_
  exact z_return dX1_forget_5 rfl (Nat.le_refl _) (Nat.le_refl _) (fun _ => rfl) ⟨rfl, by simp only [X1_forget_p67_0]⟩
abbrev mX1_exchange : zM := (cX1_exchange, 4, none, RX1, wsX1_exchange, "exchange")
theorem hiX1_exchange_X1 : ∀ w ∈ wsX10, w ∈ wsX1_exchange := fun w h => List.mem_cons_of_mem _ (List.mem_append_right _ h)
theorem lkX1_exchange_28 : Cond.fieldLink RX1 28 "ConfigSearch$Forms" "renaming" "[I" ∈ wsX1_exchange := by decide +kernel
def X1_exchange_c72 (f : Nat → Int32) (i j : Nat) : Nat → Int32 := upd (upd f i (f j)) j (f i)
set_option maxRecDepth 100000 in
set_option maxHeartbeats 4000000 in
theorem c_X1_exchange (G : zG) (ex : Bool) (g : Nat → va_E) (sd : Int32) (f : Nat → Int32) (i j : Nat) (hi : i < 7) (hj : j < 7) (h67 : g 67 = (oFrm G sd)) (h72 : g 72 = (zI G 7 f)) : zC G yX1_exchange wsX1_exchange (zrm 0 0) ex [.ref (zB G + 67), .int (nI i), .int (nI j)] (zN, g) (fun r h => r = none ∧ h = (zN, zus g [(72, zI G 7 (X1_exchange_c72 f i j))])) := by
  refine zC_of mX1_exchange (lv := [some (.ref (zB G + 67)), some (.int (nI i)), some (.int (nI j)), none]) rfl rfl (by decide) (by intro v hv; simp at hv; rcases hv with rfl | rfl | rfl <;> rfl) (Nat.le_of_ble_eq_true rfl) rfl ?_
  refine z_0 ?_
  refine z_heap (g' := zu (zus g []) 72 (zI G 7 f)) (zu_self (zus g []) 72 _ h72).symm ?_
  refine z_n (L' := [(72, (zI G 7 f))]) rfl ?_
  refine z_aload_n dX1_exchange_0 rfl rfl ?_
  refine z_get dX1_exchange_1 rfl hiX1_exchange_X1 5 lkX1_exchange_28 (Nat.le_of_ble_eq_true rfl) h67 rfl (by decide) rfl ?_
  refine z_iload_n dX1_exchange_4 rfl rfl ?_
  refine z_ialdN (j := i) dX1_exchange_5 rfl (Nat.le_of_ble_eq_true rfl) rfl (rfl) (by omega) (by decide) ?_
  refine z_istore_3 dX1_exchange_6 rfl ?_
  refine z_aload_n dX1_exchange_7 rfl rfl ?_
  refine z_get dX1_exchange_8 rfl hiX1_exchange_X1 5 lkX1_exchange_28 (Nat.le_of_ble_eq_true rfl) h67 rfl (by decide) rfl ?_
  refine z_iload_n dX1_exchange_11 rfl rfl ?_
  refine z_aload_n dX1_exchange_12 rfl rfl ?_
  refine z_get dX1_exchange_13 rfl hiX1_exchange_X1 5 lkX1_exchange_28 (Nat.le_of_ble_eq_true rfl) h67 rfl (by decide) rfl ?_
  refine z_iload_n dX1_exchange_16 rfl rfl ?_
  refine z_ialdN (j := j) dX1_exchange_17 rfl (Nat.le_of_ble_eq_true rfl) rfl (rfl) (by omega) (by decide) ?_
  refine z_iastN (j := i) dX1_exchange_18 rfl (Nat.le_of_ble_eq_true rfl) rfl (rfl) (by omega) (by decide) ?_
  refine z_n (L' := [(72, (zI G 7 (upd f i (f j))))]) rfl ?_
  refine z_aload_n dX1_exchange_19 rfl rfl ?_
  refine z_get dX1_exchange_20 rfl hiX1_exchange_X1 5 lkX1_exchange_28 (Nat.le_of_ble_eq_true rfl) h67 rfl (by decide) rfl ?_
  refine z_iload_n dX1_exchange_23 rfl rfl ?_
  refine z_iload_n dX1_exchange_24 rfl rfl ?_
  refine z_iastN (j := j) dX1_exchange_25 rfl (Nat.le_of_ble_eq_true rfl) rfl (rfl) (by omega) (by decide) ?_
  refine z_n (L' := [(72, (zI G 7 (upd (upd f i (f j)) j (f i))))]) rfl ?_
  exact z_return dX1_exchange_26 rfl (Nat.le_refl _) (Nat.le_refl _) (fun _ => rfl) ⟨rfl, by simp only [X1_exchange_c72]⟩
abbrev mX1_startRenaming : zM := (cX1_startRenaming, 2, none, RX1, wsX1_startRenaming, "startRenaming")
theorem hiX1_startRenaming_X1 : ∀ w ∈ wsX10, w ∈ wsX1_startRenaming := fun w h => List.mem_cons_of_mem _ (List.mem_append_right _ h)
theorem lkX1_startRenaming_28 : Cond.fieldLink RX1 28 "ConfigSearch$Forms" "renaming" "[I" ∈ wsX1_startRenaming := by decide +kernel
def X1_startRenaming_L2_F (i : Nat) (a9 : (Nat → Int32)) : (Nat → Int32) := upd a9 i (nI i)
def X1_startRenaming_c72 (f : Nat → Int32) : Nat → Int32 := (zfold (X1_startRenaming_L2_F) 7 0 f)
set_option maxRecDepth 100000 in
set_option maxHeartbeats 4000000 in
theorem c_X1_startRenaming (G : zG) (ex : Bool) (g : Nat → va_E) (sd : Int32) (f : Nat → Int32)  (h67 : g 67 = (oFrm G sd)) (h72 : g 72 = (zI G 7 f)) : zC G yX1_startRenaming wsX1_startRenaming (zrm 0 0) ex [.ref (zB G + 67)] (zN, g) (fun r h => r = none ∧ h = (zN, zus g [(72, zI G 7 (X1_startRenaming_c72 f))])) := by
  refine zC_of mX1_startRenaming (lv := [some (.ref (zB G + 67)), none]) rfl rfl (by decide) (by intro v hv; simp at hv; subst hv; rfl) (Nat.le_of_ble_eq_true rfl) rfl ?_
  refine z_0 ?_
  refine z_heap (g' := zu (zus g []) 72 (zI G 7 f)) (zu_self (zus g []) 72 _ h72).symm ?_
  refine z_n (L' := [(72, (zI G 7 f))]) rfl ?_
  refine z_iconst (v := nI 0) dX1_startRenaming_0 rfl (by decide) ?_
  refine z_istore_1 dX1_startRenaming_1 rfl ?_
  refine z_forI (head := fun i (st9 : (Nat → Int32)) => Z G mX1_startRenaming (zrm 0 0) ex _ 2 [some (.ref (zB G + 67)), some (.int (nI i))] [] (zN, zus g [(72, (zI G 7 st9))]) 0 0) (F := (X1_startRenaming_L2_F)) (n := 7) (fun _ _ => True) (fun _ _ _ _ => trivial) ?_ 7 0 f (by omega) trivial ?_
  · intro i f1 hi _ K
    refine z_iload_n dX1_startRenaming_2 rfl rfl ?_
    refine z_bipush (v := nI 7) dX1_startRenaming_3 rfl (by decide) ?_
    refine z_icmp_ge (tgt := 21) dX1_startRenaming_5 rfl (by decide) (fun c5 => ?_) (fun c5 => ?_)
    · exact absurd c5 (nI_ge hi (by omega))
    · refine z_aload_n dX1_startRenaming_8 rfl rfl ?_
      refine z_get dX1_startRenaming_9 rfl hiX1_startRenaming_X1 5 lkX1_startRenaming_28 (Nat.le_of_ble_eq_true rfl) h67 rfl (by decide) rfl ?_
      refine z_iload_n dX1_startRenaming_12 rfl rfl ?_
      refine z_iload_n dX1_startRenaming_13 rfl rfl ?_
      refine z_iastN (j := i) dX1_startRenaming_14 rfl (Nat.le_of_ble_eq_true rfl) rfl (rfl) (by omega) (by decide) ?_
      refine z_n (L' := [(72, (zI G 7 (upd f1 i (nI i))))]) rfl ?_
      refine z_iinc_1 (v := nI (i + 1)) dX1_startRenaming_15 rfl (zinc _) ?_
      refine z_goto (tgt := 2) dX1_startRenaming_18 (by decide) ?_
      exact K
  · intro _
    refine z_iload_n dX1_startRenaming_2 rfl rfl ?_
    refine z_bipush (v := nI 7) dX1_startRenaming_3 rfl (by decide) ?_
    refine z_icmp_ge (tgt := 21) dX1_startRenaming_5 rfl (by decide) (fun c5 => ?_) (fun c5 => ?_)
    · exact z_return dX1_startRenaming_21 rfl (Nat.le_refl _) (Nat.le_refl _) (fun _ => rfl) ⟨rfl, by simp only [X1_startRenaming_c72]⟩
    · exact absurd (nI_le (Nat.le_refl _) (by omega)) c5
abbrev mX1_factorial : zM := (cX1_factorial, 3, (some .int), RX1, wsX1_factorial, "factorial")
def X1_factorial_L4_F (i : Nat) (a9 : (Nat)) : (Nat) := a9 * i
def X1_factorial_n (n : Nat) : Nat := (zfold (X1_factorial_L4_F) (n - 1) 2 1)
set_option maxRecDepth 100000 in
set_option maxHeartbeats 4000000 in
theorem c_X1_factorial (G : zG) (ex : Bool) (g : Nat → va_E) (n : Nat) (h1 : 1 ≤ n) (h2 : n ≤ 7)  : zC G yX1_factorial wsX1_factorial (zrm 0 0) ex [.int (nI n)] (zN, g) (fun r h => r = some (.int (nI (X1_factorial_n n))) ∧ h = (zN, g)) := by
  refine zC_of mX1_factorial (lv := [some (.int (nI n)), none, none]) rfl rfl (by decide) (by intro v hv; simp at hv; subst hv; rfl) (Nat.le_of_ble_eq_true rfl) rfl ?_
  refine z_0 ?_
  refine z_iconst (v := nI 1) dX1_factorial_0 rfl (by decide) ?_
  refine z_istore_1 dX1_factorial_1 rfl ?_
  refine z_iconst (v := nI 2) dX1_factorial_2 rfl (by decide) ?_
  refine z_istore_2 dX1_factorial_3 rfl ?_
  refine z_forI (head := fun i (st9 : (Nat)) => Z G mX1_factorial (zrm 0 0) ex _ 4 [some (.int (nI n)), some (.int (nI st9)), some (.int (nI i))] [] (zN, zus g []) 0 0) (F := (X1_factorial_L4_F)) (n := n + 1) (fun _ _ => True) (fun _ _ _ _ => trivial) ?_ (n - 1) 2 1 (by omega) trivial ?_
  · intro i p hi _ K
    refine z_iload_n dX1_factorial_4 rfl rfl ?_
    refine z_iload_n dX1_factorial_5 rfl rfl ?_
    refine z_icmp_gt (tgt := 19) dX1_factorial_6 rfl (by decide) (fun c6 => ?_) (fun c6 => ?_)
    · exact absurd c6 (nI_nlt (by omega) (by omega))
    · refine z_iload_n dX1_factorial_9 rfl rfl ?_
      refine z_iload_n dX1_factorial_10 rfl rfl ?_
      refine z_imul dX1_factorial_11 rfl ?_
      refine z_top (show (nI p) * (nI i) = nI (p * i) from (zq_mul rfl rfl)) ?_
      refine z_istore_1 dX1_factorial_12 rfl ?_
      refine z_iinc_2 (v := nI (i + 1)) dX1_factorial_13 rfl (zinc _) ?_
      refine z_goto (tgt := 4) dX1_factorial_16 (by decide) ?_
      exact K
  · intro _
    refine z_iload_n dX1_factorial_4 rfl rfl ?_
    refine z_iload_n dX1_factorial_5 rfl rfl ?_
    refine z_icmp_gt (tgt := 19) dX1_factorial_6 rfl (by decide) (fun c6 => ?_) (fun c6 => ?_)
    · refine z_iload_n dX1_factorial_19 rfl rfl ?_
      exact z_ireturn dX1_factorial_20 rfl rfl (Nat.le_refl _) (Nat.le_refl _) (fun _ => rfl) ⟨by simp only [X1_factorial_n], rfl⟩
    · exact absurd (nI_lt (by omega) (by omega)) c6
abbrev mX1_compareRows : zM := (cX1_compareRows, 4, (some .int), RX1, wsX1_compareRows, "compareRows")
theorem okk_J6_compare_7cf53 : zOk yJ6_compare_7cf53 2 := by unfold zOk; decide +kernel
def X1_compareRows_L2_F (f1 : Nat → Int32) (f2 : Nat → Int32) (i : Nat) (a9 : Unit) : Unit := if (f1 i) = (f2 i) then () else ()
def X1_compareRows_L2_B (f1 : Nat → Int32) (f2 : Nat → Int32) (i : Nat) (a9 : Unit) : Option ((Int32)) := if (f1 i) = (f2 i) then none else (some (icmp (f1 i) (f2 i)))
def X1_compareRows_v (n : Nat) (f1 f2 : Nat → Int32) : Int32 := zpick (zfoldB (X1_compareRows_L2_B f1 f2) (X1_compareRows_L2_F f1 f2) n 0 ()) (fun b => b) (fun am2 => nI 0)
set_option maxRecDepth 100000 in
set_option maxHeartbeats 4000000 in
theorem c_X1_compareRows (G : zG) (ex : Bool) (g : Nat → va_E) (ka kb Na Nb n : Nat) (f1 f2 : Nat → Int32) (hk_ka : ka < zN) (hk_kb : kb < zN) (hNa : n ≤ Na) (hNb : n ≤ Nb) (hNa9 : Na < 2147483648) (hNb9 : Nb < 2147483648) (hka : g ka = (zI G Na f1)) (hkb : g kb = (zI G Nb f2)) : zC G yX1_compareRows wsX1_compareRows (zrm 1 21) ex [.ref (zB G + ka), .ref (zB G + kb), .int (nI n)] (zN, g) (fun r h => r = some (.int (X1_compareRows_v n f1 f2)) ∧ h = (zN, g)) := by
  refine zC_of mX1_compareRows (lv := [some (.ref (zB G + ka)), some (.ref (zB G + kb)), some (.int (nI n)), none]) rfl rfl (by decide) (by intro v hv; simp at hv; rcases hv with rfl | rfl | rfl <;> rfl) (Nat.le_of_ble_eq_true rfl) rfl ?_
  refine z_0 ?_
  refine z_iconst (v := nI 0) dX1_compareRows_0 rfl (by decide) ?_
  refine z_istore_3 dX1_compareRows_1 rfl ?_
  refine z_forB (head := fun i (st9 : Unit) => Z G mX1_compareRows (zrm 1 21) ex _ 2 [some (.ref (zB G + ka)), some (.ref (zB G + kb)), some (.int (nI n)), some (.int (nI i))] [] (zN, zus g []) 0 0) (out := fun b _ => (some (Value.int b) = some (Value.int (X1_compareRows_v n f1 f2))) ∧ ((zN, zus g []) : zAH) = (zN, g)) (B := (X1_compareRows_L2_B f1 f2)) (F := (X1_compareRows_L2_F f1 f2)) (n := n) (fun _ _ => True) (fun _ _ _ _ _ => trivial) ?_ n 0 () (by omega) trivial ?_ ?_
  · intro i _ hi _ Ko K
    refine z_iload_n dX1_compareRows_2 rfl rfl ?_
    refine z_iload_n dX1_compareRows_3 rfl rfl ?_
    refine z_icmp_ge (tgt := 32) dX1_compareRows_4 rfl (by decide) (fun c4 => ?_) (fun c4 => ?_)
    · exact absurd c4 (nI_ge hi (by omega))
    · refine z_aload_n dX1_compareRows_7 rfl rfl ?_
      refine z_iload_n dX1_compareRows_8 rfl rfl ?_
      refine z_ialdN (j := i) dX1_compareRows_9 rfl hk_ka hka (rfl) (by omega) (by omega) ?_
      refine z_aload_n dX1_compareRows_10 rfl rfl ?_
      refine z_iload_n dX1_compareRows_11 rfl rfl ?_
      refine z_ialdN (j := i) dX1_compareRows_12 rfl hk_kb hkb (rfl) (by omega) (by omega) ?_
      refine z_icmp_eq (tgt := 26) dX1_compareRows_13 rfl (by decide) (fun c13 => ?_) (fun c13 => ?_)
      · refine z_iinc_3 (v := nI (i + 1)) dX1_compareRows_26 rfl (zinc _) ?_
        refine z_goto (tgt := 2) dX1_compareRows_29 (by decide) ?_
        have K9 := (K (by simp only [X1_compareRows_L2_B, if_pos c13]))
        try simp only [X1_compareRows_L2_F, if_pos c13] at K9
        exact K9
      · refine z_aload_n dX1_compareRows_16 rfl rfl ?_
        refine z_iload_n dX1_compareRows_17 rfl rfl ?_
        refine z_ialdN (j := i) dX1_compareRows_18 rfl hk_ka hka (rfl) (by omega) (by omega) ?_
        refine z_aload_n dX1_compareRows_19 rfl rfl ?_
        refine z_iload_n dX1_compareRows_20 rfl rfl ?_
        refine z_ialdN (j := i) dX1_compareRows_21 rfl hk_kb hkb (rfl) (by omega) (by omega) ?_
        refine z_callSi (c_compare G ex _ (f1 i) (f2 i)) gX1_compareRows_J6_compare_7cf53 rfl dX1_compareRows_22 rfl rfl okk_J6_compare_7cf53 ⟨Nat.le_of_ble_eq_true rfl, Nat.le_of_ble_eq_true rfl⟩ ⟨Nat.le_of_ble_eq_true rfl, Nat.le_of_ble_eq_true rfl⟩ (Nat.le_of_ble_eq_true rfl) ?_
        exact z_ireturn dX1_compareRows_25 rfl rfl (Nat.le_refl _) (Nat.le_refl _) (fun _ => rfl) (Ko (icmp (f1 i) (f2 i)) (by simp only [X1_compareRows_L2_B, if_neg c13]))
  · intro b a9 hz2
    exact ⟨by simp only [X1_compareRows_v, hz2, zpick_s], rfl⟩
  · intro _ hz2 _
    refine z_iload_n dX1_compareRows_2 rfl rfl ?_
    refine z_iload_n dX1_compareRows_3 rfl rfl ?_
    refine z_icmp_ge (tgt := 32) dX1_compareRows_4 rfl (by decide) (fun c4 => ?_) (fun c4 => ?_)
    · refine z_iconst (v := nI 0) dX1_compareRows_32 rfl (by decide) ?_
      exact z_ireturn dX1_compareRows_33 rfl rfl (Nat.le_refl _) (Nat.le_refl _) (fun _ => rfl) ⟨by simp only [X1_compareRows_v, hz2, zpick_n], rfl⟩
    · exact absurd (nI_le (Nat.le_refl _) (by omega)) c4
abbrev mX1_rename : zM := (cX1_rename, 6, none, RX1, wsX1_rename, "rename")
theorem hiX1_rename_X1 : ∀ w ∈ wsX10, w ∈ wsX1_rename := fun w h => List.mem_cons_of_mem _ (List.mem_append_right _ h)
theorem lkX1_rename_28 : Cond.fieldLink RX1 28 "ConfigSearch$Forms" "renaming" "[I" ∈ wsX1_rename := by decide +kernel
theorem lkX1_rename_25 : Cond.fieldLink RX1 25 "ConfigSearch$Forms" "image" "[I" ∈ wsX1_rename := by decide +kernel
theorem okk_X1_sort : zOk yX1_sort 2 := by unfold zOk; decide +kernel
def X1_rename_L13_70_F (ren : Nat → Int32) (ff : Nat → Int32) (i : Nat) (j : Nat) (a9 : (Int32)) : (Int32) := a9 ||| ((((ff i) >>> ((nI j) &&& 31)) &&& (nI 1)) <<< ((ren j) &&& 31))
def X1_rename_L2_70_F (ren : Nat → Int32) (ff : Nat → Int32) (i : Nat) (a9 : (Nat → Int32)) : (Nat → Int32) := upd a9 i (zfold (X1_rename_L13_70_F ren ff i) 7 0 (nI 0))
def X1_rename_c71_70 (ren im ff : Nat → Int32) (n : Nat) : Nat → Int32 := srtF (zfold (X1_rename_L2_70_F ren ff) n 0 im) n
set_option maxRecDepth 100000 in
set_option maxHeartbeats 4000000 in
theorem c_X1_rename_70 (G : zG) (ex : Bool) (g : Nat → va_E) (sd : Int32) (ren im ff : Nat → Int32) (n : Nat) (hn : n ≤ 12) (h67 : g 67 = (oFrm G sd)) (h72 : g 72 = (zI G 7 ren)) (h71 : g 71 = (zI G 12 im)) (h70 : g 70 = (zI G 12 ff)) : zC G yX1_rename wsX1_rename (zrm 1 24) ex [.ref (zB G + 67), .ref (zB G + 70), .int (nI n)] (zN, g) (fun r h => r = none ∧ h = (zN, zus g [(71, zI G 12 (X1_rename_c71_70 ren im ff n))])) := by
  refine zC_of mX1_rename (lv := [some (.ref (zB G + 67)), some (.ref (zB G + 70)), some (.int (nI n)), none, none, none]) rfl rfl (by decide) (by intro v hv; simp at hv; rcases hv with rfl | rfl | rfl <;> rfl) (Nat.le_of_ble_eq_true rfl) rfl ?_
  refine z_0 ?_
  refine z_heap (g' := zu (zus g []) 71 (zI G 12 im)) (zu_self (zus g []) 71 _ h71).symm ?_
  refine z_n (L' := [(71, (zI G 12 im))]) rfl ?_
  refine z_iconst (v := nI 0) dX1_rename_0 rfl (by decide) ?_
  refine z_istore_3 dX1_rename_1 rfl ?_
  refine z_forI (head := fun i (st9 : (Nat → Int32)) => ∀ y4 y5 : Option Value, Z G mX1_rename (zrm 1 24) ex _ 2 [some (.ref (zB G + 67)), some (.ref (zB G + 70)), some (.int (nI n)), some (.int (nI i)), y4, y5] [] (zN, zus g [(71, (zI G 12 st9))]) 0 0) (F := (X1_rename_L2_70_F ren ff)) (n := n) (fun _ _ => True) (fun _ _ _ _ => trivial) ?_ n 0 im (by omega) trivial ?_ _ _
  · intro i im1 hi _ K
    intro y4 y5
    refine z_iload_n dX1_rename_2 rfl rfl ?_
    refine z_iload_n dX1_rename_3 rfl rfl ?_
    refine z_icmp_ge (tgt := 61) dX1_rename_4 rfl (by decide) (fun c4 => ?_) (fun c4 => ?_)
    · exact absurd c4 (nI_ge hi (by omega))
    · refine z_iconst (v := nI 0) dX1_rename_7 rfl (by decide) ?_
      refine z_istore_4 dX1_rename_8 rfl ?_
      refine z_iconst (v := nI 0) dX1_rename_10 rfl (by decide) ?_
      refine z_istore_5 dX1_rename_11 rfl ?_
      refine z_forI (head := fun j (st9 : (Int32)) => Z G mX1_rename (zrm 1 24) ex _ 13 [some (.ref (zB G + 67)), some (.ref (zB G + 70)), some (.int (nI n)), some (.int (nI i)), some (.int st9), some (.int (nI j))] [] (zN, zus g [(71, (zI G 12 im1))]) 0 0) (F := (X1_rename_L13_70_F ren ff i)) (n := 7) (fun _ _ => True) (fun _ _ _ _ => trivial) ?_ 7 0 (nI 0) (by omega) trivial ?_
      · intro j sm hi _ K
        refine z_iload dX1_rename_13 rfl rfl ?_
        refine z_bipush (v := nI 7) dX1_rename_15 rfl (by decide) ?_
        refine z_icmp_ge (tgt := 47) dX1_rename_17 rfl (by decide) (fun c17 => ?_) (fun c17 => ?_)
        · exact absurd c17 (nI_ge hi (by omega))
        · refine z_iload dX1_rename_20 rfl rfl ?_
          refine z_aload_n dX1_rename_22 rfl rfl ?_
          refine z_iload_n dX1_rename_23 rfl rfl ?_
          refine z_ialdN (j := i) dX1_rename_24 rfl (Nat.le_of_ble_eq_true rfl) h70 (rfl) (by omega) (by decide) ?_
          refine z_iload dX1_rename_25 rfl rfl ?_
          refine z_ishr dX1_rename_27 rfl ?_
          refine z_iconst (v := nI 1) dX1_rename_28 rfl (by decide) ?_
          refine z_iand dX1_rename_29 rfl ?_
          refine z_aload_n dX1_rename_30 rfl rfl ?_
          refine z_get dX1_rename_31 rfl hiX1_rename_X1 5 lkX1_rename_28 (Nat.le_of_ble_eq_true rfl) h67 rfl (by decide) rfl ?_
          refine z_iload dX1_rename_34 rfl rfl ?_
          refine z_ialdN (j := j) dX1_rename_36 rfl (Nat.le_of_ble_eq_true rfl) h72 (rfl) (by omega) (by decide) ?_
          refine z_ishl dX1_rename_37 rfl ?_
          refine z_ior dX1_rename_38 rfl ?_
          refine z_istore_4 dX1_rename_39 rfl ?_
          refine z_iinc_5 (v := nI (j + 1)) dX1_rename_41 rfl (zinc _) ?_
          refine z_goto (tgt := 13) dX1_rename_44 (by decide) ?_
          exact K
      · intro _
        refine z_iload dX1_rename_13 rfl rfl ?_
        refine z_bipush (v := nI 7) dX1_rename_15 rfl (by decide) ?_
        refine z_icmp_ge (tgt := 47) dX1_rename_17 rfl (by decide) (fun c17 => ?_) (fun c17 => ?_)
        · refine z_aload_n dX1_rename_47 rfl rfl ?_
          refine z_get dX1_rename_48 rfl hiX1_rename_X1 4 lkX1_rename_25 (Nat.le_of_ble_eq_true rfl) h67 rfl (by decide) rfl ?_
          refine z_iload_n dX1_rename_51 rfl rfl ?_
          refine z_iload dX1_rename_52 rfl rfl ?_
          refine z_iastN (j := i) dX1_rename_54 rfl (Nat.le_of_ble_eq_true rfl) rfl (rfl) (by omega) (by decide) ?_
          refine z_n (L' := [(71, (zI G 12 (upd im1 i (zfold (X1_rename_L13_70_F ren ff i) 7 0 (nI 0)))))]) rfl ?_
          refine z_iinc_3 (v := nI (i + 1)) dX1_rename_55 rfl (zinc _) ?_
          refine z_goto (tgt := 2) dX1_rename_58 (by decide) ?_
          exact K _ _
        · exact absurd (nI_le (Nat.le_refl _) (by omega)) c17
  · intro _ y4 y5
    refine z_iload_n dX1_rename_2 rfl rfl ?_
    refine z_iload_n dX1_rename_3 rfl rfl ?_
    refine z_icmp_ge (tgt := 61) dX1_rename_4 rfl (by decide) (fun c4 => ?_) (fun c4 => ?_)
    · refine z_aload_n dX1_rename_61 rfl rfl ?_
      refine z_get dX1_rename_62 rfl hiX1_rename_X1 4 lkX1_rename_25 (Nat.le_of_ble_eq_true rfl) h67 rfl (by decide) rfl ?_
      refine z_iload_n dX1_rename_65 rfl rfl ?_
      refine z_callSv (c_X1_sort_71 G ex _ (zfold (X1_rename_L2_70_F ren ff) n 0 im) n (by omega) rfl) gX1_rename_X1_sort rfl dX1_rename_66 rfl rfl okk_X1_sort ⟨Nat.le_of_ble_eq_true rfl, Nat.le_of_ble_eq_true rfl⟩ ⟨Nat.le_of_ble_eq_true rfl, Nat.le_of_ble_eq_true rfl⟩ (Nat.le_of_ble_eq_true rfl) ?_
      refine z_nn (L' := [(71, (zI G 12 (srtF (zfold (X1_rename_L2_70_F ren ff) n 0 im) n)))]) rfl ?_
      exact z_return dX1_rename_69 rfl (Nat.le_refl _) (Nat.le_refl _) (fun _ => rfl) ⟨rfl, by simp only [X1_rename_c71_70]⟩
    · exact absurd (nI_le (Nat.le_refl _) (by omega)) c4
def X1_rename_L13_74_F (ren : Nat → Int32) (ff : Nat → Int32) (i : Nat) (j : Nat) (a9 : (Int32)) : (Int32) := a9 ||| ((((ff i) >>> ((nI j) &&& 31)) &&& (nI 1)) <<< ((ren j) &&& 31))
def X1_rename_L2_74_F (ren : Nat → Int32) (ff : Nat → Int32) (i : Nat) (a9 : (Nat → Int32)) : (Nat → Int32) := upd a9 i (zfold (X1_rename_L13_74_F ren ff i) 7 0 (nI 0))
def X1_rename_c71_74 (ren im ff : Nat → Int32) (n : Nat) : Nat → Int32 := srtF (zfold (X1_rename_L2_74_F ren ff) n 0 im) n
set_option maxRecDepth 100000 in
set_option maxHeartbeats 4000000 in
theorem c_X1_rename_74 (G : zG) (ex : Bool) (g : Nat → va_E) (sd : Int32) (ren im ff : Nat → Int32) (n : Nat) (hn : n ≤ 4) (h67 : g 67 = (oFrm G sd)) (h72 : g 72 = (zI G 7 ren)) (h71 : g 71 = (zI G 12 im)) (h74 : g 74 = (zI G 4 ff)) : zC G yX1_rename wsX1_rename (zrm 1 24) ex [.ref (zB G + 67), .ref (zB G + 74), .int (nI n)] (zN, g) (fun r h => r = none ∧ h = (zN, zus g [(71, zI G 12 (X1_rename_c71_74 ren im ff n))])) := by
  refine zC_of mX1_rename (lv := [some (.ref (zB G + 67)), some (.ref (zB G + 74)), some (.int (nI n)), none, none, none]) rfl rfl (by decide) (by intro v hv; simp at hv; rcases hv with rfl | rfl | rfl <;> rfl) (Nat.le_of_ble_eq_true rfl) rfl ?_
  refine z_0 ?_
  refine z_heap (g' := zu (zus g []) 71 (zI G 12 im)) (zu_self (zus g []) 71 _ h71).symm ?_
  refine z_n (L' := [(71, (zI G 12 im))]) rfl ?_
  refine z_iconst (v := nI 0) dX1_rename_0 rfl (by decide) ?_
  refine z_istore_3 dX1_rename_1 rfl ?_
  refine z_forI (head := fun i (st9 : (Nat → Int32)) => ∀ y4 y5 : Option Value, Z G mX1_rename (zrm 1 24) ex _ 2 [some (.ref (zB G + 67)), some (.ref (zB G + 74)), some (.int (nI n)), some (.int (nI i)), y4, y5] [] (zN, zus g [(71, (zI G 12 st9))]) 0 0) (F := (X1_rename_L2_74_F ren ff)) (n := n) (fun _ _ => True) (fun _ _ _ _ => trivial) ?_ n 0 im (by omega) trivial ?_ _ _
  · intro i im1 hi _ K
    intro y4 y5
    refine z_iload_n dX1_rename_2 rfl rfl ?_
    refine z_iload_n dX1_rename_3 rfl rfl ?_
    refine z_icmp_ge (tgt := 61) dX1_rename_4 rfl (by decide) (fun c4 => ?_) (fun c4 => ?_)
    · exact absurd c4 (nI_ge hi (by omega))
    · refine z_iconst (v := nI 0) dX1_rename_7 rfl (by decide) ?_
      refine z_istore_4 dX1_rename_8 rfl ?_
      refine z_iconst (v := nI 0) dX1_rename_10 rfl (by decide) ?_
      refine z_istore_5 dX1_rename_11 rfl ?_
      refine z_forI (head := fun j (st9 : (Int32)) => Z G mX1_rename (zrm 1 24) ex _ 13 [some (.ref (zB G + 67)), some (.ref (zB G + 74)), some (.int (nI n)), some (.int (nI i)), some (.int st9), some (.int (nI j))] [] (zN, zus g [(71, (zI G 12 im1))]) 0 0) (F := (X1_rename_L13_74_F ren ff i)) (n := 7) (fun _ _ => True) (fun _ _ _ _ => trivial) ?_ 7 0 (nI 0) (by omega) trivial ?_
      · intro j sm hi _ K
        refine z_iload dX1_rename_13 rfl rfl ?_
        refine z_bipush (v := nI 7) dX1_rename_15 rfl (by decide) ?_
        refine z_icmp_ge (tgt := 47) dX1_rename_17 rfl (by decide) (fun c17 => ?_) (fun c17 => ?_)
        · exact absurd c17 (nI_ge hi (by omega))
        · refine z_iload dX1_rename_20 rfl rfl ?_
          refine z_aload_n dX1_rename_22 rfl rfl ?_
          refine z_iload_n dX1_rename_23 rfl rfl ?_
          refine z_ialdN (j := i) dX1_rename_24 rfl (Nat.le_of_ble_eq_true rfl) h74 (rfl) (by omega) (by decide) ?_
          refine z_iload dX1_rename_25 rfl rfl ?_
          refine z_ishr dX1_rename_27 rfl ?_
          refine z_iconst (v := nI 1) dX1_rename_28 rfl (by decide) ?_
          refine z_iand dX1_rename_29 rfl ?_
          refine z_aload_n dX1_rename_30 rfl rfl ?_
          refine z_get dX1_rename_31 rfl hiX1_rename_X1 5 lkX1_rename_28 (Nat.le_of_ble_eq_true rfl) h67 rfl (by decide) rfl ?_
          refine z_iload dX1_rename_34 rfl rfl ?_
          refine z_ialdN (j := j) dX1_rename_36 rfl (Nat.le_of_ble_eq_true rfl) h72 (rfl) (by omega) (by decide) ?_
          refine z_ishl dX1_rename_37 rfl ?_
          refine z_ior dX1_rename_38 rfl ?_
          refine z_istore_4 dX1_rename_39 rfl ?_
          refine z_iinc_5 (v := nI (j + 1)) dX1_rename_41 rfl (zinc _) ?_
          refine z_goto (tgt := 13) dX1_rename_44 (by decide) ?_
          exact K
      · intro _
        refine z_iload dX1_rename_13 rfl rfl ?_
        refine z_bipush (v := nI 7) dX1_rename_15 rfl (by decide) ?_
        refine z_icmp_ge (tgt := 47) dX1_rename_17 rfl (by decide) (fun c17 => ?_) (fun c17 => ?_)
        · refine z_aload_n dX1_rename_47 rfl rfl ?_
          refine z_get dX1_rename_48 rfl hiX1_rename_X1 4 lkX1_rename_25 (Nat.le_of_ble_eq_true rfl) h67 rfl (by decide) rfl ?_
          refine z_iload_n dX1_rename_51 rfl rfl ?_
          refine z_iload dX1_rename_52 rfl rfl ?_
          refine z_iastN (j := i) dX1_rename_54 rfl (Nat.le_of_ble_eq_true rfl) rfl (rfl) (by omega) (by decide) ?_
          refine z_n (L' := [(71, (zI G 12 (upd im1 i (zfold (X1_rename_L13_74_F ren ff i) 7 0 (nI 0)))))]) rfl ?_
          refine z_iinc_3 (v := nI (i + 1)) dX1_rename_55 rfl (zinc _) ?_
          refine z_goto (tgt := 2) dX1_rename_58 (by decide) ?_
          exact K _ _
        · exact absurd (nI_le (Nat.le_refl _) (by omega)) c17
  · intro _ y4 y5
    refine z_iload_n dX1_rename_2 rfl rfl ?_
    refine z_iload_n dX1_rename_3 rfl rfl ?_
    refine z_icmp_ge (tgt := 61) dX1_rename_4 rfl (by decide) (fun c4 => ?_) (fun c4 => ?_)
    · refine z_aload_n dX1_rename_61 rfl rfl ?_
      refine z_get dX1_rename_62 rfl hiX1_rename_X1 4 lkX1_rename_25 (Nat.le_of_ble_eq_true rfl) h67 rfl (by decide) rfl ?_
      refine z_iload_n dX1_rename_65 rfl rfl ?_
      refine z_callSv (c_X1_sort_71 G ex _ (zfold (X1_rename_L2_74_F ren ff) n 0 im) n (by omega) rfl) gX1_rename_X1_sort rfl dX1_rename_66 rfl rfl okk_X1_sort ⟨Nat.le_of_ble_eq_true rfl, Nat.le_of_ble_eq_true rfl⟩ ⟨Nat.le_of_ble_eq_true rfl, Nat.le_of_ble_eq_true rfl⟩ (Nat.le_of_ble_eq_true rfl) ?_
      refine z_nn (L' := [(71, (zI G 12 (srtF (zfold (X1_rename_L2_74_F ren ff) n 0 im) n)))]) rfl ?_
      exact z_return dX1_rename_69 rfl (Nat.le_refl _) (Nat.le_refl _) (fun _ => rfl) ⟨rfl, by simp only [X1_rename_c71_74]⟩
    · exact absurd (nI_le (Nat.le_refl _) (by omega)) c4
