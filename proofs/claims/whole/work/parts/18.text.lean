/-- a row of number l among rows -/
def updR (w : Nat → Nat → Int32) (l : Nat) (r : Nat → Int32) : Nat → Nat → Int32 := fun j => if j = l then r else w j
theorem zw12 {P : Nat → Prop} (p0 : P 0) (p1 : P 1) (p2 : P 2) (p3 : P 3) (p4 : P 4) (p5 : P 5) (p6 : P 6) (p7 : P 7) (p8 : P 8) (p9 : P 9) (p10 : P 10) (p11 : P 11) : ∀ l, l < 12 → P l := fun l h => by
  rcases (show l = 0 ∨ l = 1 ∨ l = 2 ∨ l = 3 ∨ l = 4 ∨ l = 5 ∨ l = 6 ∨ l = 7 ∨ l = 8 ∨ l = 9 ∨ l = 10 ∨ l = 11 by omega) with rfl | rfl | rfl | rfl | rfl | rfl | rfl | rfl | rfl | rfl | rfl | rfl <;> assumption
theorem zk12 {b l : Nat} (h : l < 12) (hb : b + 12 ≤ zN) : b + l < zN := by omega
abbrev mX4_hasPoint : zM := (cX4_hasPoint, 2, (some .boolean), RX4, wsX4_hasPoint, "hasPoint")
theorem hiX4_hasPoint_X4 : ∀ w ∈ wsX40, w ∈ wsX4_hasPoint := fun w h => List.mem_cons_of_mem _ (List.mem_append_right _ h)
theorem lkX4_hasPoint_9 : Cond.fieldLink RX4 9 "ConfigSearch$Text" "points" "I" ∈ wsX4_hasPoint := by decide +kernel
def X4_hasPoint_v (pts : Nat) (p : Int32) : Int32 := if p < 0 then (nI 0) else (if (nI pts) ≤ p then (nI 0) else (nI 1))
set_option maxRecDepth 100000 in
set_option maxHeartbeats 4000000 in
theorem c_X4_hasPoint_2 (G : zG) (ex : Bool) (g : Nat → va_E) (pts lns ltr : Nat) (inw : Int32) (p : Int32)  (h2 : g 2 = (oTxt G 2 (nI pts) (nI lns) (nI ltr) inw)) : zC G yX4_hasPoint wsX4_hasPoint (zrm 0 0) ex [.ref (zB G + 2), .int p] (zN, g) (fun r h => r = some (.int (X4_hasPoint_v pts p)) ∧ h = (zN, g)) := by
  refine zC_of mX4_hasPoint (lv := [some (.ref (zB G + 2)), some (.int p)]) rfl rfl (by decide) (by intro v hv; simp at hv; rcases hv with rfl | rfl <;> rfl) (Nat.le_of_ble_eq_true rfl) rfl ?_
  refine z_0 ?_
  refine z_iload_n dX4_hasPoint_0 rfl rfl ?_
  refine z_if_lt (tgt := 16) dX4_hasPoint_1 rfl (by decide) (fun c1 => ?_) (fun c1 => ?_)
  · refine z_iconst (v := nI 0) dX4_hasPoint_16 rfl (by decide) ?_
    exact z_ireturn dX4_hasPoint_17 rfl rfl (Nat.le_refl _) (Nat.le_refl _) (fun _ => rfl) ⟨by simp only [X4_hasPoint_v, if_pos c1], rfl⟩
  · refine z_iload_n dX4_hasPoint_4 rfl rfl ?_
    refine z_aload_n dX4_hasPoint_5 rfl rfl ?_
    refine z_get dX4_hasPoint_6 rfl hiX4_hasPoint_X4 0 lkX4_hasPoint_9 (Nat.le_of_ble_eq_true rfl) h2 rfl (by decide) rfl ?_
    refine z_icmp_ge (tgt := 16) dX4_hasPoint_9 rfl (by decide) (fun c9 => ?_) (fun c9 => ?_)
    · refine z_iconst (v := nI 0) dX4_hasPoint_16 rfl (by decide) ?_
      exact z_ireturn dX4_hasPoint_17 rfl rfl (Nat.le_refl _) (Nat.le_refl _) (fun _ => rfl) ⟨by simp only [X4_hasPoint_v, if_neg c1, if_pos c9], rfl⟩
    · refine z_iconst (v := nI 1) dX4_hasPoint_12 rfl (by decide) ?_
      refine z_goto (tgt := 17) dX4_hasPoint_13 (by decide) ?_
      exact z_ireturn dX4_hasPoint_17 rfl rfl (Nat.le_refl _) (Nat.le_refl _) (fun _ => rfl) ⟨by simp only [X4_hasPoint_v, if_neg c1, if_neg c9], rfl⟩
abbrev mX4_hasLine : zM := (cX4_hasLine, 2, (some .boolean), RX4, wsX4_hasLine, "hasLine")
theorem hiX4_hasLine_X4 : ∀ w ∈ wsX40, w ∈ wsX4_hasLine := fun w h => List.mem_cons_of_mem _ (List.mem_append_right _ h)
theorem lkX4_hasLine_15 : Cond.fieldLink RX4 15 "ConfigSearch$Text" "lines" "I" ∈ wsX4_hasLine := by decide +kernel
def X4_hasLine_v (lns : Nat) (p : Int32) : Int32 := if p < 0 then (nI 0) else (if (nI lns) ≤ p then (nI 0) else (nI 1))
set_option maxRecDepth 100000 in
set_option maxHeartbeats 4000000 in
theorem c_X4_hasLine_2 (G : zG) (ex : Bool) (g : Nat → va_E) (pts lns ltr : Nat) (inw : Int32) (p : Int32)  (h2 : g 2 = (oTxt G 2 (nI pts) (nI lns) (nI ltr) inw)) : zC G yX4_hasLine wsX4_hasLine (zrm 0 0) ex [.ref (zB G + 2), .int p] (zN, g) (fun r h => r = some (.int (X4_hasLine_v lns p)) ∧ h = (zN, g)) := by
  refine zC_of mX4_hasLine (lv := [some (.ref (zB G + 2)), some (.int p)]) rfl rfl (by decide) (by intro v hv; simp at hv; rcases hv with rfl | rfl <;> rfl) (Nat.le_of_ble_eq_true rfl) rfl ?_
  refine z_0 ?_
  refine z_iload_n dX4_hasLine_0 rfl rfl ?_
  refine z_if_lt (tgt := 16) dX4_hasLine_1 rfl (by decide) (fun c1 => ?_) (fun c1 => ?_)
  · refine z_iconst (v := nI 0) dX4_hasLine_16 rfl (by decide) ?_
    exact z_ireturn dX4_hasLine_17 rfl rfl (Nat.le_refl _) (Nat.le_refl _) (fun _ => rfl) ⟨by simp only [X4_hasLine_v, if_pos c1], rfl⟩
  · refine z_iload_n dX4_hasLine_4 rfl rfl ?_
    refine z_aload_n dX4_hasLine_5 rfl rfl ?_
    refine z_get dX4_hasLine_6 rfl hiX4_hasLine_X4 1 lkX4_hasLine_15 (Nat.le_of_ble_eq_true rfl) h2 rfl (by decide) rfl ?_
    refine z_icmp_ge (tgt := 16) dX4_hasLine_9 rfl (by decide) (fun c9 => ?_) (fun c9 => ?_)
    · refine z_iconst (v := nI 0) dX4_hasLine_16 rfl (by decide) ?_
      exact z_ireturn dX4_hasLine_17 rfl rfl (Nat.le_refl _) (Nat.le_refl _) (fun _ => rfl) ⟨by simp only [X4_hasLine_v, if_neg c1, if_pos c9], rfl⟩
    · refine z_iconst (v := nI 1) dX4_hasLine_12 rfl (by decide) ?_
      refine z_goto (tgt := 17) dX4_hasLine_13 (by decide) ?_
      exact z_ireturn dX4_hasLine_17 rfl rfl (Nat.le_refl _) (Nat.le_refl _) (fun _ => rfl) ⟨by simp only [X4_hasLine_v, if_neg c1, if_neg c9], rfl⟩
abbrev mX4_isTriple : zM := (cX4_isTriple, 4, (some .boolean), RX4, wsX4_isTriple, "isTriple")
theorem okk_X4_hasPoint : zOk yX4_hasPoint 1 := by unfold zOk; decide +kernel
def X4_isTriple_v (pts : Nat) (a b c : Int32) : Int32 := if (X4_hasPoint_v pts a) = 0 then (nI 0) else (if (X4_hasPoint_v pts b) = 0 then (nI 0) else (if (X4_hasPoint_v pts c) = 0 then (nI 0) else (if a = b then (nI 0) else (if a = c then (nI 0) else (if b = c then (nI 0) else (nI 1))))))
set_option maxRecDepth 100000 in
set_option maxHeartbeats 4000000 in
theorem c_X4_isTriple_2 (G : zG) (ex : Bool) (g : Nat → va_E) (pts lns ltr : Nat) (inw : Int32) (a b c : Int32)  (h2 : g 2 = (oTxt G 2 (nI pts) (nI lns) (nI ltr) inw)) : zC G yX4_isTriple wsX4_isTriple (zrm 1 21) ex [.ref (zB G + 2), .int a, .int b, .int c] (zN, g) (fun r h => r = some (.int (X4_isTriple_v pts a b c)) ∧ h = (zN, g)) := by
  refine zC_of mX4_isTriple (lv := [some (.ref (zB G + 2)), some (.int a), some (.int b), some (.int c)]) rfl rfl (by decide) (by intro v hv; simp at hv; rcases hv with rfl | rfl | rfl | rfl <;> rfl) (Nat.le_of_ble_eq_true rfl) rfl ?_
  refine z_0 ?_
  refine z_aload_n dX4_isTriple_0 rfl rfl ?_
  refine z_iload_n dX4_isTriple_1 rfl rfl ?_
  refine z_callVi (c_X4_hasPoint_2 G ex _ pts lns ltr inw a h2) gX4_isTriple_X4_hasPoint rfl dX4_isTriple_2 rfl rfl rfl okk_X4_hasPoint (Nat.le_of_ble_eq_true rfl) h2 rfl ⟨Nat.le_of_ble_eq_true rfl, Nat.le_of_ble_eq_true rfl⟩ ⟨Nat.le_of_ble_eq_true rfl, Nat.le_of_ble_eq_true rfl⟩ (Nat.le_of_ble_eq_true rfl) ?_
  refine z_if_eq (tgt := 43) dX4_isTriple_5 rfl (by decide) (fun c5 => ?_) (fun c5 => ?_)
  · refine z_iconst (v := nI 0) dX4_isTriple_43 rfl (by decide) ?_
    exact z_ireturn dX4_isTriple_44 rfl rfl (Nat.le_refl _) (Nat.le_refl _) (fun _ => rfl) ⟨by simp only [X4_isTriple_v, if_pos c5], rfl⟩
  · refine z_aload_n dX4_isTriple_8 rfl rfl ?_
    refine z_iload_n dX4_isTriple_9 rfl rfl ?_
    refine z_callVi (c_X4_hasPoint_2 G ex _ pts lns ltr inw b h2) gX4_isTriple_X4_hasPoint rfl dX4_isTriple_10 rfl rfl rfl okk_X4_hasPoint (Nat.le_of_ble_eq_true rfl) h2 rfl ⟨Nat.le_of_ble_eq_true rfl, Nat.le_of_ble_eq_true rfl⟩ ⟨Nat.le_of_ble_eq_true rfl, Nat.le_of_ble_eq_true rfl⟩ (Nat.le_of_ble_eq_true rfl) ?_
    refine z_if_eq (tgt := 43) dX4_isTriple_13 rfl (by decide) (fun c13 => ?_) (fun c13 => ?_)
    · refine z_iconst (v := nI 0) dX4_isTriple_43 rfl (by decide) ?_
      exact z_ireturn dX4_isTriple_44 rfl rfl (Nat.le_refl _) (Nat.le_refl _) (fun _ => rfl) ⟨by simp only [X4_isTriple_v, if_neg c5, if_pos c13], rfl⟩
    · refine z_aload_n dX4_isTriple_16 rfl rfl ?_
      refine z_iload_n dX4_isTriple_17 rfl rfl ?_
      refine z_callVi (c_X4_hasPoint_2 G ex _ pts lns ltr inw c h2) gX4_isTriple_X4_hasPoint rfl dX4_isTriple_18 rfl rfl rfl okk_X4_hasPoint (Nat.le_of_ble_eq_true rfl) h2 rfl ⟨Nat.le_of_ble_eq_true rfl, Nat.le_of_ble_eq_true rfl⟩ ⟨Nat.le_of_ble_eq_true rfl, Nat.le_of_ble_eq_true rfl⟩ (Nat.le_of_ble_eq_true rfl) ?_
      refine z_if_eq (tgt := 43) dX4_isTriple_21 rfl (by decide) (fun c21 => ?_) (fun c21 => ?_)
      · refine z_iconst (v := nI 0) dX4_isTriple_43 rfl (by decide) ?_
        exact z_ireturn dX4_isTriple_44 rfl rfl (Nat.le_refl _) (Nat.le_refl _) (fun _ => rfl) ⟨by simp only [X4_isTriple_v, if_neg c5, if_neg c13, if_pos c21], rfl⟩
      · refine z_iload_n dX4_isTriple_24 rfl rfl ?_
        refine z_iload_n dX4_isTriple_25 rfl rfl ?_
        refine z_icmp_eq (tgt := 43) dX4_isTriple_26 rfl (by decide) (fun c26 => ?_) (fun c26 => ?_)
        · refine z_iconst (v := nI 0) dX4_isTriple_43 rfl (by decide) ?_
          exact z_ireturn dX4_isTriple_44 rfl rfl (Nat.le_refl _) (Nat.le_refl _) (fun _ => rfl) ⟨by simp only [X4_isTriple_v, if_neg c5, if_neg c13, if_neg c21, if_pos c26], rfl⟩
        · refine z_iload_n dX4_isTriple_29 rfl rfl ?_
          refine z_iload_n dX4_isTriple_30 rfl rfl ?_
          refine z_icmp_eq (tgt := 43) dX4_isTriple_31 rfl (by decide) (fun c31 => ?_) (fun c31 => ?_)
          · refine z_iconst (v := nI 0) dX4_isTriple_43 rfl (by decide) ?_
            exact z_ireturn dX4_isTriple_44 rfl rfl (Nat.le_refl _) (Nat.le_refl _) (fun _ => rfl) ⟨by simp only [X4_isTriple_v, if_neg c5, if_neg c13, if_neg c21, if_neg c26, if_pos c31], rfl⟩
          · refine z_iload_n dX4_isTriple_34 rfl rfl ?_
            refine z_iload_n dX4_isTriple_35 rfl rfl ?_
            refine z_icmp_eq (tgt := 43) dX4_isTriple_36 rfl (by decide) (fun c36 => ?_) (fun c36 => ?_)
            · refine z_iconst (v := nI 0) dX4_isTriple_43 rfl (by decide) ?_
              exact z_ireturn dX4_isTriple_44 rfl rfl (Nat.le_refl _) (Nat.le_refl _) (fun _ => rfl) ⟨by simp only [X4_isTriple_v, if_neg c5, if_neg c13, if_neg c21, if_neg c26, if_neg c31, if_pos c36], rfl⟩
            · refine z_iconst (v := nI 1) dX4_isTriple_39 rfl (by decide) ?_
              refine z_goto (tgt := 44) dX4_isTriple_40 (by decide) ?_
              exact z_ireturn dX4_isTriple_44 rfl rfl (Nat.le_refl _) (Nat.le_refl _) (fun _ => rfl) ⟨by simp only [X4_isTriple_v, if_neg c5, if_neg c13, if_neg c21, if_neg c26, if_neg c31, if_neg c36], rfl⟩
abbrev mX4_endsWord : zM := (cX4_endsWord, 1, (some .boolean), RX4, wsX4_endsWord, "endsWord")
theorem hiX4_endsWord_X4 : ∀ w ∈ wsX40, w ∈ wsX4_endsWord := fun w h => List.mem_cons_of_mem _ (List.mem_append_right _ h)
theorem lkX4_endsWord_36 : Cond.fieldLink RX4 36 "ConfigSearch$Text" "inWord" "Z" ∈ wsX4_endsWord := by decide +kernel
theorem lkX4_endsWord_25 : Cond.fieldLink RX4 25 "ConfigSearch$Text" "size" "[I" ∈ wsX4_endsWord := by decide +kernel
theorem lkX4_endsWord_15 : Cond.fieldLink RX4 15 "ConfigSearch$Text" "lines" "I" ∈ wsX4_endsWord := by decide +kernel
def X4_endsWord_v (lns : Nat) (inw : Int32) (sz : Nat → Int32) : Int32 := if inw = 0 then (nI 1) else (if (nI 3) ≤ (sz (lns - 1)) then (nI 1) else (nI 0))
def X4_endsWord_pT0_3 (lns : Nat) (inw : Int32) (sz : Nat → Int32) : Int32 := if inw = 0 then (nI 0) else (if (nI 3) ≤ (sz (lns - 1)) then (nI 0) else inw)
set_option maxRecDepth 100000 in
set_option maxHeartbeats 4000000 in
theorem c_X4_endsWord_2 (G : zG) (ex : Bool) (g : Nat → va_E) (pts lns ltr : Nat) (inw : Int32) (sz : Nat → Int32) (hl : lns ≤ 12) (hinw : ¬ inw = 0 → 1 ≤ lns) (h2 : g 2 = (oTxt G 2 (nI pts) (nI lns) (nI ltr) inw)) (h4 : g 4 = (zI G 12 sz)) : zC G yX4_endsWord wsX4_endsWord (zrm 0 0) ex [.ref (zB G + 2)] (zN, g) (fun r h => r = some (.int (X4_endsWord_v lns inw sz)) ∧ h = (zN, zus g [(2, (oTxt G 2 (nI pts) (nI lns) (nI ltr) (X4_endsWord_pT0_3 lns inw sz)))])) := by
  refine zC_of mX4_endsWord (lv := [some (.ref (zB G + 2))]) rfl rfl (by decide) (by intro v hv; simp at hv; subst hv; rfl) (Nat.le_of_ble_eq_true rfl) rfl ?_
  refine z_0 ?_
  refine z_heap (g' := zu (zus g []) 2 (oTxt G 2 (nI pts) (nI lns) (nI ltr) inw)) (zu_self (zus g []) 2 _ h2).symm ?_
  refine z_n (L' := [(2, (oTxt G 2 (nI pts) (nI lns) (nI ltr) inw))]) rfl ?_
  refine z_aload_n dX4_endsWord_0 rfl rfl ?_
  refine z_get dX4_endsWord_1 rfl hiX4_endsWord_X4 7 lkX4_endsWord_36 (Nat.le_of_ble_eq_true rfl) rfl rfl (by decide) rfl ?_
  refine z_if_eq (tgt := 24) dX4_endsWord_4 rfl (by decide) (fun c4 => ?_) (fun c4 => ?_)
  · refine z_aload_n dX4_endsWord_24 rfl rfl ?_
    refine z_iconst (v := nI 0) dX4_endsWord_25 rfl (by decide) ?_
    refine z_putN (e9 := (oTxt G 2 (nI pts) (nI lns) (nI ltr) (nI 0))) tyX4 tyX4_ok nmX4 dX4_endsWord_26 rfl hiX4_endsWord_X4 7 lkX4_endsWord_36 rfl (by decide +kernel) (Nat.le_of_ble_eq_true rfl) rfl rfl (by decide) (Nat.le_of_ble_eq_true rfl) rfl rfl rfl ?_
    refine z_n (L' := [(2, (oTxt G 2 (nI pts) (nI lns) (nI ltr) (nI 0)))]) rfl ?_
    refine z_iconst (v := nI 1) dX4_endsWord_29 rfl (by decide) ?_
    exact z_ireturn dX4_endsWord_30 rfl rfl (Nat.le_refl _) (Nat.le_refl _) (fun _ => rfl) ⟨by simp only [X4_endsWord_v, if_pos c4], by simp only [X4_endsWord_pT0_3, if_pos c4]⟩
  · have hl1 : 1 ≤ lns := hinw c4
    refine z_aload_n dX4_endsWord_7 rfl rfl ?_
    refine z_get dX4_endsWord_8 rfl hiX4_endsWord_X4 4 lkX4_endsWord_25 (Nat.le_of_ble_eq_true rfl) rfl rfl (by decide) rfl ?_
    refine z_aload_n dX4_endsWord_11 rfl rfl ?_
    refine z_get dX4_endsWord_12 rfl hiX4_endsWord_X4 1 lkX4_endsWord_15 (Nat.le_of_ble_eq_true rfl) rfl rfl (by decide) rfl ?_
    refine z_iconst (v := nI 1) dX4_endsWord_15 rfl (by decide) ?_
    refine z_isub dX4_endsWord_16 rfl ?_
    refine z_ialdN (j := lns - 1) dX4_endsWord_17 rfl (Nat.le_of_ble_eq_true rfl) h4 ((zq_sub rfl rfl (by omega))) (by omega) (by decide) ?_
    refine z_iconst (v := nI 3) dX4_endsWord_18 rfl (by decide) ?_
    refine z_icmp_ge (tgt := 24) dX4_endsWord_19 rfl (by decide) (fun c19 => ?_) (fun c19 => ?_)
    · refine z_aload_n dX4_endsWord_24 rfl rfl ?_
      refine z_iconst (v := nI 0) dX4_endsWord_25 rfl (by decide) ?_
      refine z_putN (e9 := (oTxt G 2 (nI pts) (nI lns) (nI ltr) (nI 0))) tyX4 tyX4_ok nmX4 dX4_endsWord_26 rfl hiX4_endsWord_X4 7 lkX4_endsWord_36 rfl (by decide +kernel) (Nat.le_of_ble_eq_true rfl) rfl rfl (by decide) (Nat.le_of_ble_eq_true rfl) rfl rfl rfl ?_
      refine z_n (L' := [(2, (oTxt G 2 (nI pts) (nI lns) (nI ltr) (nI 0)))]) rfl ?_
      refine z_iconst (v := nI 1) dX4_endsWord_29 rfl (by decide) ?_
      exact z_ireturn dX4_endsWord_30 rfl rfl (Nat.le_refl _) (Nat.le_refl _) (fun _ => rfl) ⟨by simp only [X4_endsWord_v, if_neg c4, if_pos c19], by simp only [X4_endsWord_pT0_3, if_neg c4, if_pos c19]⟩
    · refine z_iconst (v := nI 0) dX4_endsWord_22 rfl (by decide) ?_
      exact z_ireturn dX4_endsWord_23 rfl rfl (Nat.le_refl _) (Nat.le_refl _) (fun _ => rfl) ⟨by simp only [X4_endsWord_v, if_neg c4, if_neg c19], by simp only [X4_endsWord_pT0_3, if_neg c4, if_neg c19]⟩
abbrev mX4_startsWord : zM := (cX4_startsWord, 1, (some .boolean), RX4, wsX4_startsWord, "startsWord")
theorem hiX4_startsWord_X4 : ∀ w ∈ wsX40, w ∈ wsX4_startsWord := fun w h => List.mem_cons_of_mem _ (List.mem_append_right _ h)
theorem lkX4_startsWord_15 : Cond.fieldLink RX4 15 "ConfigSearch$Text" "lines" "I" ∈ wsX4_startsWord := by decide +kernel
theorem lkX4_startsWord_25 : Cond.fieldLink RX4 25 "ConfigSearch$Text" "size" "[I" ∈ wsX4_startsWord := by decide +kernel
theorem lkX4_startsWord_33 : Cond.fieldLink RX4 33 "ConfigSearch$Text" "mask" "[I" ∈ wsX4_startsWord := by decide +kernel
theorem lkX4_startsWord_36 : Cond.fieldLink RX4 36 "ConfigSearch$Text" "inWord" "Z" ∈ wsX4_startsWord := by decide +kernel
def X4_startsWord_v (lns : Nat) : Int32 := if (nI lns) < (nI 12) then (nI 1) else (nI 0)
def X4_startsWord_pT0_1 (lns : Nat) : Nat := if (nI lns) < (nI 12) then (lns + 1) else lns
def X4_startsWord_pT0_3 (lns : Nat) (inw : Int32) : Int32 := if (nI lns) < (nI 12) then (nI 1) else inw
def X4_startsWord_cT2 (lns : Nat) (sz : Nat → Int32) : Nat → Int32 := if (nI lns) < (nI 12) then (upd sz lns (nI 0)) else sz
def X4_startsWord_cT16 (lns : Nat) (msk : Nat → Int32) : Nat → Int32 := if (nI lns) < (nI 12) then (upd msk lns (nI 0)) else msk
set_option maxRecDepth 100000 in
set_option maxHeartbeats 4000000 in
theorem c_X4_startsWord_2 (G : zG) (ex : Bool) (g : Nat → va_E) (pts lns ltr : Nat) (inw : Int32) (sz msk : Nat → Int32) (hl : lns ≤ 12) (h2 : g 2 = (oTxt G 2 (nI pts) (nI lns) (nI ltr) inw)) (h4 : g 4 = (zI G 12 sz)) (h18 : g 18 = (zI G 12 msk)) : zC G yX4_startsWord wsX4_startsWord (zrm 0 0) ex [.ref (zB G + 2)] (zN, g) (fun r h => r = some (.int (X4_startsWord_v lns)) ∧ h = (zN, zus g [(2, (oTxt G 2 (nI pts) (nI (X4_startsWord_pT0_1 lns)) (nI ltr) (X4_startsWord_pT0_3 lns inw))), (4, zI G 12 (X4_startsWord_cT2 lns sz)), (18, zI G 12 (X4_startsWord_cT16 lns msk))])) := by
  refine zC_of mX4_startsWord (lv := [some (.ref (zB G + 2))]) rfl rfl (by decide) (by intro v hv; simp at hv; subst hv; rfl) (Nat.le_of_ble_eq_true rfl) rfl ?_
  refine z_0 ?_
  refine z_heap (g' := zu (zus g []) 2 (oTxt G 2 (nI pts) (nI lns) (nI ltr) inw)) (zu_self (zus g []) 2 _ h2).symm ?_
  refine z_n (L' := [(2, (oTxt G 2 (nI pts) (nI lns) (nI ltr) inw))]) rfl ?_
  refine z_heap (g' := zu (zus g [(2, (oTxt G 2 (nI pts) (nI lns) (nI ltr) inw))]) 4 (zI G 12 sz)) (zu_self (zus g [(2, (oTxt G 2 (nI pts) (nI lns) (nI ltr) inw))]) 4 _ h4).symm ?_
  refine z_n (L' := [(2, (oTxt G 2 (nI pts) (nI lns) (nI ltr) inw)), (4, (zI G 12 sz))]) rfl ?_
  refine z_heap (g' := zu (zus g [(2, (oTxt G 2 (nI pts) (nI lns) (nI ltr) inw)), (4, (zI G 12 sz))]) 18 (zI G 12 msk)) (zu_self (zus g [(2, (oTxt G 2 (nI pts) (nI lns) (nI ltr) inw)), (4, (zI G 12 sz))]) 18 _ h18).symm ?_
  refine z_n (L' := [(2, (oTxt G 2 (nI pts) (nI lns) (nI ltr) inw)), (4, (zI G 12 sz)), (18, (zI G 12 msk))]) rfl ?_
  refine z_aload_n dX4_startsWord_0 rfl rfl ?_
  refine z_get dX4_startsWord_1 rfl hiX4_startsWord_X4 1 lkX4_startsWord_15 (Nat.le_of_ble_eq_true rfl) rfl rfl (by decide) rfl ?_
  refine z_bipush (v := nI 12) dX4_startsWord_4 rfl (by decide) ?_
  refine z_icmp_lt (tgt := 11) dX4_startsWord_6 rfl (by decide) (fun c6 => ?_) (fun c6 => ?_)
  · have hl12 : lns < 12 := Nat.lt_of_not_le (fun q => absurd c6 (nI_nlt q (by omega)))
    refine z_aload_n dX4_startsWord_11 rfl rfl ?_
    refine z_get dX4_startsWord_12 rfl hiX4_startsWord_X4 4 lkX4_startsWord_25 (Nat.le_of_ble_eq_true rfl) rfl rfl (by decide) rfl ?_
    refine z_aload_n dX4_startsWord_15 rfl rfl ?_
    refine z_get dX4_startsWord_16 rfl hiX4_startsWord_X4 1 lkX4_startsWord_15 (Nat.le_of_ble_eq_true rfl) rfl rfl (by decide) rfl ?_
    refine z_iconst (v := nI 0) dX4_startsWord_19 rfl (by decide) ?_
    refine z_iastN (j := lns) dX4_startsWord_20 rfl (Nat.le_of_ble_eq_true rfl) rfl (rfl) (by omega) (by decide) ?_
    refine z_n (L' := [(2, (oTxt G 2 (nI pts) (nI lns) (nI ltr) inw)), (4, (zI G 12 (upd sz lns (nI 0)))), (18, (zI G 12 msk))]) rfl ?_
    refine z_aload_n dX4_startsWord_21 rfl rfl ?_
    refine z_get dX4_startsWord_22 rfl hiX4_startsWord_X4 6 lkX4_startsWord_33 (Nat.le_of_ble_eq_true rfl) rfl rfl (by decide) rfl ?_
    refine z_aload_n dX4_startsWord_25 rfl rfl ?_
    refine z_get dX4_startsWord_26 rfl hiX4_startsWord_X4 1 lkX4_startsWord_15 (Nat.le_of_ble_eq_true rfl) rfl rfl (by decide) rfl ?_
    refine z_iconst (v := nI 0) dX4_startsWord_29 rfl (by decide) ?_
    refine z_iastN (j := lns) dX4_startsWord_30 rfl (Nat.le_of_ble_eq_true rfl) rfl (rfl) (by omega) (by decide) ?_
    refine z_n (L' := [(2, (oTxt G 2 (nI pts) (nI lns) (nI ltr) inw)), (4, (zI G 12 (upd sz lns (nI 0)))), (18, (zI G 12 (upd msk lns (nI 0))))]) rfl ?_
    refine z_aload_n dX4_startsWord_31 rfl rfl ?_
    refine z_dup dX4_startsWord_32 rfl rfl ?_
    refine z_get dX4_startsWord_33 rfl hiX4_startsWord_X4 1 lkX4_startsWord_15 (Nat.le_of_ble_eq_true rfl) rfl rfl (by decide) rfl ?_
    refine z_iconst (v := nI 1) dX4_startsWord_36 rfl (by decide) ?_
    refine z_iadd dX4_startsWord_37 rfl ?_
    refine z_top (show (nI lns) + (nI 1) = nI (lns + 1) from (zq_add rfl rfl)) ?_
    refine z_putN (e9 := (oTxt G 2 (nI pts) (nI (lns + 1)) (nI ltr) inw)) tyX4 tyX4_ok nmX4 dX4_startsWord_38 rfl hiX4_startsWord_X4 1 lkX4_startsWord_15 rfl (by decide +kernel) (Nat.le_of_ble_eq_true rfl) rfl rfl (by decide) (Nat.le_of_ble_eq_true rfl) rfl rfl rfl ?_
    refine z_n (L' := [(2, (oTxt G 2 (nI pts) (nI (lns + 1)) (nI ltr) inw)), (4, (zI G 12 (upd sz lns (nI 0)))), (18, (zI G 12 (upd msk lns (nI 0))))]) rfl ?_
    refine z_aload_n dX4_startsWord_41 rfl rfl ?_
    refine z_iconst (v := nI 1) dX4_startsWord_42 rfl (by decide) ?_
    refine z_putN (e9 := (oTxt G 2 (nI pts) (nI (lns + 1)) (nI ltr) (nI 1))) tyX4 tyX4_ok nmX4 dX4_startsWord_43 rfl hiX4_startsWord_X4 7 lkX4_startsWord_36 rfl (by decide +kernel) (Nat.le_of_ble_eq_true rfl) rfl rfl (by decide) (Nat.le_of_ble_eq_true rfl) rfl rfl rfl ?_
    refine z_n (L' := [(2, (oTxt G 2 (nI pts) (nI (lns + 1)) (nI ltr) (nI 1))), (4, (zI G 12 (upd sz lns (nI 0)))), (18, (zI G 12 (upd msk lns (nI 0))))]) rfl ?_
    refine z_iconst (v := nI 1) dX4_startsWord_46 rfl (by decide) ?_
    exact z_ireturn dX4_startsWord_47 rfl rfl (Nat.le_refl _) (Nat.le_refl _) (fun _ => rfl) ⟨by simp only [X4_startsWord_v, if_pos c6], by simp only [X4_startsWord_pT0_1, X4_startsWord_pT0_3, X4_startsWord_cT2, X4_startsWord_cT16, if_pos c6]⟩
  · refine z_iconst (v := nI 0) dX4_startsWord_9 rfl (by decide) ?_
    exact z_ireturn dX4_startsWord_10 rfl rfl (Nat.le_refl _) (Nat.le_refl _) (fun _ => rfl) ⟨by simp only [X4_startsWord_v, if_neg c6], by simp only [X4_startsWord_pT0_1, X4_startsWord_pT0_3, X4_startsWord_cT2, X4_startsWord_cT16, if_neg c6]⟩
abbrev mX4_pointOf : zM := (cX4_pointOf, 3, (some .int), RX4, wsX4_pointOf, "pointOf")
theorem hiX4_pointOf_X4 : ∀ w ∈ wsX40, w ∈ wsX4_pointOf := fun w h => List.mem_cons_of_mem _ (List.mem_append_right _ h)
theorem lkX4_pointOf_9 : Cond.fieldLink RX4 9 "ConfigSearch$Text" "points" "I" ∈ wsX4_pointOf := by decide +kernel
theorem lkX4_pointOf_21 : Cond.fieldLink RX4 21 "ConfigSearch$Text" "letterOf" "[I" ∈ wsX4_pointOf := by decide +kernel
def X4_pointOf_L2_F (lo : Nat → Int32) (lt : Int32) (k : Nat) (a9 : Unit) : Unit := if (lo k) = lt then () else ()
def X4_pointOf_L2_B (pts : Nat) (lo : Nat → Int32) (lt : Int32) (k : Nat) (a9 : Unit) : Option ((Int32) × (Nat) × (Nat → Int32)) := if (lo k) = lt then (some (nI k, pts, lo)) else none
def X4_pointOf_v (pts lns ltr : Nat) (inw : Int32) (lo : Nat → Int32) (lt : Int32) : Int32 := zpick (zfoldB (X4_pointOf_L2_B pts lo lt) (X4_pointOf_L2_F lo lt) pts 0 ()) (fun b => b.1) (fun am2 => nI ((pts + 1) - 1))
def X4_pointOf_pT0_0 (pts lns ltr : Nat) (inw : Int32) (lo : Nat → Int32) (lt : Int32) : Nat := zpick (zfoldB (X4_pointOf_L2_B pts lo lt) (X4_pointOf_L2_F lo lt) pts 0 ()) (fun b => b.2.1) (fun am2 => pts + 1)
def X4_pointOf_cT1 (pts lns ltr : Nat) (inw : Int32) (lo : Nat → Int32) (lt : Int32) : Nat → Int32 := zpick (zfoldB (X4_pointOf_L2_B pts lo lt) (X4_pointOf_L2_F lo lt) pts 0 ()) (fun b => b.2.2) (fun am2 => upd lo pts lt)
set_option maxRecDepth 100000 in
set_option maxHeartbeats 4000000 in
theorem c_X4_pointOf_2 (G : zG) (ex : Bool) (g : Nat → va_E) (pts lns ltr : Nat) (inw : Int32) (lo : Nat → Int32) (lt : Int32) (hp : pts ≤ 10) (hroom : (∀ j, j < pts → ¬ lo j = lt) → pts < 10) (h2 : g 2 = (oTxt G 2 (nI pts) (nI lns) (nI ltr) inw)) (h3 : g 3 = (zI G 10 lo)) : zC G yX4_pointOf wsX4_pointOf (zrm 0 0) ex [.ref (zB G + 2), .int lt] (zN, g) (fun r h => r = some (.int (X4_pointOf_v pts lns ltr inw lo lt)) ∧ h = (zN, zus g [(2, (oTxt G 2 (nI (X4_pointOf_pT0_0 pts lns ltr inw lo lt)) (nI lns) (nI ltr) inw)), (3, zI G 10 (X4_pointOf_cT1 pts lns ltr inw lo lt))])) := by
  refine zC_of mX4_pointOf (lv := [some (.ref (zB G + 2)), some (.int lt), none]) rfl rfl (by decide) (by intro v hv; simp at hv; rcases hv with rfl | rfl <;> rfl) (Nat.le_of_ble_eq_true rfl) rfl ?_
  refine z_0 ?_
  refine z_heap (g' := zu (zus g []) 2 (oTxt G 2 (nI pts) (nI lns) (nI ltr) inw)) (zu_self (zus g []) 2 _ h2).symm ?_
  refine z_n (L' := [(2, (oTxt G 2 (nI pts) (nI lns) (nI ltr) inw))]) rfl ?_
  refine z_heap (g' := zu (zus g [(2, (oTxt G 2 (nI pts) (nI lns) (nI ltr) inw))]) 3 (zI G 10 lo)) (zu_self (zus g [(2, (oTxt G 2 (nI pts) (nI lns) (nI ltr) inw))]) 3 _ h3).symm ?_
  refine z_n (L' := [(2, (oTxt G 2 (nI pts) (nI lns) (nI ltr) inw)), (3, (zI G 10 lo))]) rfl ?_
  refine z_iconst (v := nI 0) dX4_pointOf_0 rfl (by decide) ?_
  refine z_istore_2 dX4_pointOf_1 rfl ?_
  refine z_forB (head := fun k (st9 : Unit) => Z G mX4_pointOf (zrm 0 0) ex _ 2 [some (.ref (zB G + 2)), some (.int lt), some (.int (nI k))] [] (zN, zus g [(2, (oTxt G 2 (nI pts) (nI lns) (nI ltr) inw)), (3, (zI G 10 lo))]) 0 0) (out := fun b _ => (some (Value.int b.1) = some (Value.int (X4_pointOf_v pts lns ltr inw lo lt))) ∧ ((zN, zus g [(2, (oTxt G 2 (nI b.2.1) (nI lns) (nI ltr) inw)), (3, (zI G 10 b.2.2))]) : zAH) = (zN, zus g [(2, (oTxt G 2 (nI (X4_pointOf_pT0_0 pts lns ltr inw lo lt)) (nI lns) (nI ltr) inw)), (3, zI G 10 (X4_pointOf_cT1 pts lns ltr inw lo lt))])) (B := (X4_pointOf_L2_B pts lo lt)) (F := (X4_pointOf_L2_F lo lt)) (n := pts) (fun i _ => ∀ j, j < i → ¬ lo j = lt) (fun i a hi h hB j hj => by
        unfold X4_pointOf_L2_B at hB
        split at hB
        · cases hB
        · rename_i c
          rcases Nat.lt_succ_iff_lt_or_eq.mp hj with q | q
          · exact h j q
          · rw [q]; exact c) ?_ pts 0 () (by omega) (fun j h => absurd h (Nat.not_lt_zero j)) ?_ ?_
  · intro k _ hi hI Ko K
    refine z_iload_n dX4_pointOf_2 rfl rfl ?_
    refine z_aload_n dX4_pointOf_3 rfl rfl ?_
    refine z_get dX4_pointOf_4 rfl hiX4_pointOf_X4 0 lkX4_pointOf_9 (Nat.le_of_ble_eq_true rfl) rfl rfl (by decide) rfl ?_
    refine z_icmp_ge (tgt := 28) dX4_pointOf_7 rfl (by decide) (fun c7 => ?_) (fun c7 => ?_)
    · exact absurd c7 (nI_ge hi (by omega))
    · refine z_aload_n dX4_pointOf_10 rfl rfl ?_
      refine z_get dX4_pointOf_11 rfl hiX4_pointOf_X4 3 lkX4_pointOf_21 (Nat.le_of_ble_eq_true rfl) rfl rfl (by decide) rfl ?_
      refine z_iload_n dX4_pointOf_14 rfl rfl ?_
      refine z_ialdN (j := k) dX4_pointOf_15 rfl (Nat.le_of_ble_eq_true rfl) rfl (rfl) (by omega) (by decide) ?_
      refine z_iload_n dX4_pointOf_16 rfl rfl ?_
      refine z_icmp_ne (tgt := 22) dX4_pointOf_17 rfl (by decide) (fun c17 => ?_) (fun c17 => ?_)
      · refine z_iinc_2 (v := nI (k + 1)) dX4_pointOf_22 rfl (zinc _) ?_
        refine z_goto (tgt := 2) dX4_pointOf_25 (by decide) ?_
        have K9 := (K (by simp only [X4_pointOf_L2_B, if_neg c17]))
        try simp only [X4_pointOf_L2_F, if_neg c17] at K9
        exact K9
      · refine z_iload_n dX4_pointOf_20 rfl rfl ?_
        exact z_ireturn dX4_pointOf_21 rfl rfl (Nat.le_refl _) (Nat.le_refl _) (fun _ => rfl) (Ko (nI k, pts, lo) (by simp only [X4_pointOf_L2_B, if_pos c17]))
  · intro b a9 hz2
    exact ⟨by simp only [X4_pointOf_v, hz2, zpick_s], by simp only [X4_pointOf_pT0_0, X4_pointOf_cT1, hz2, zpick_s]⟩
  · intro _ hz2 hI
    have hp9 : pts < 10 := hroom hI
    refine z_iload_n dX4_pointOf_2 rfl rfl ?_
    refine z_aload_n dX4_pointOf_3 rfl rfl ?_
    refine z_get dX4_pointOf_4 rfl hiX4_pointOf_X4 0 lkX4_pointOf_9 (Nat.le_of_ble_eq_true rfl) rfl rfl (by decide) rfl ?_
    refine z_icmp_ge (tgt := 28) dX4_pointOf_7 rfl (by decide) (fun c7 => ?_) (fun c7 => ?_)
    · refine z_aload_n dX4_pointOf_28 rfl rfl ?_
      refine z_get dX4_pointOf_29 rfl hiX4_pointOf_X4 3 lkX4_pointOf_21 (Nat.le_of_ble_eq_true rfl) rfl rfl (by decide) rfl ?_
      refine z_aload_n dX4_pointOf_32 rfl rfl ?_
      refine z_get dX4_pointOf_33 rfl hiX4_pointOf_X4 0 lkX4_pointOf_9 (Nat.le_of_ble_eq_true rfl) rfl rfl (by decide) rfl ?_
      refine z_iload_n dX4_pointOf_36 rfl rfl ?_
      refine z_iastN (j := pts) dX4_pointOf_37 rfl (Nat.le_of_ble_eq_true rfl) rfl (rfl) (by omega) (by decide) ?_
      refine z_n (L' := [(2, (oTxt G 2 (nI pts) (nI lns) (nI ltr) inw)), (3, (zI G 10 (upd lo pts lt)))]) rfl ?_
      refine z_aload_n dX4_pointOf_38 rfl rfl ?_
      refine z_dup dX4_pointOf_39 rfl rfl ?_
      refine z_get dX4_pointOf_40 rfl hiX4_pointOf_X4 0 lkX4_pointOf_9 (Nat.le_of_ble_eq_true rfl) rfl rfl (by decide) rfl ?_
      refine z_iconst (v := nI 1) dX4_pointOf_43 rfl (by decide) ?_
      refine z_iadd dX4_pointOf_44 rfl ?_
      refine z_top (show (nI pts) + (nI 1) = nI (pts + 1) from (zq_add rfl rfl)) ?_
      refine z_putN (e9 := (oTxt G 2 (nI (pts + 1)) (nI lns) (nI ltr) inw)) tyX4 tyX4_ok nmX4 dX4_pointOf_45 rfl hiX4_pointOf_X4 0 lkX4_pointOf_9 rfl (by decide +kernel) (Nat.le_of_ble_eq_true rfl) rfl rfl (by decide) (Nat.le_of_ble_eq_true rfl) rfl rfl rfl ?_
      refine z_n (L' := [(2, (oTxt G 2 (nI (pts + 1)) (nI lns) (nI ltr) inw)), (3, (zI G 10 (upd lo pts lt)))]) rfl ?_
      refine z_aload_n dX4_pointOf_48 rfl rfl ?_
      refine z_get dX4_pointOf_49 rfl hiX4_pointOf_X4 0 lkX4_pointOf_9 (Nat.le_of_ble_eq_true rfl) rfl rfl (by decide) rfl ?_
      refine z_iconst (v := nI 1) dX4_pointOf_52 rfl (by decide) ?_
      refine z_isub dX4_pointOf_53 rfl ?_
      refine z_top (show (nI (pts + 1)) - (nI 1) = nI ((pts + 1) - 1) from (zq_sub rfl rfl (by omega))) ?_
      exact z_ireturn dX4_pointOf_54 rfl rfl (Nat.le_refl _) (Nat.le_refl _) (fun _ => rfl) ⟨by simp only [X4_pointOf_v, hz2, zpick_n], by simp only [X4_pointOf_pT0_0, X4_pointOf_cT1, hz2, zpick_n]⟩
    · exact absurd (nI_le (Nat.le_refl _) (by omega)) c7
abbrev mX4_clashes : zM := (cX4_clashes, 5, (some .boolean), RX4, wsX4_clashes, "clashes")
theorem hiX4_clashes_X4 : ∀ w ∈ wsX40, w ∈ wsX4_clashes := fun w h => List.mem_cons_of_mem _ (List.mem_append_right _ h)
theorem lkX4_clashes_33 : Cond.fieldLink RX4 33 "ConfigSearch$Text" "mask" "[I" ∈ wsX4_clashes := by decide +kernel
def X4_clashes_L25_F (msk : Nat → Int32) (ln : Nat) (bt : Int32) (k : Nat) (a9 : Unit) : Unit := if (bcnt ((msk k) &&& ((msk ln) ||| bt))) ≤ (nI 1) then () else ()
def X4_clashes_L25_B (msk : Nat → Int32) (ln : Nat) (bt : Int32) (k : Nat) (a9 : Unit) : Option ((Int32)) := if (bcnt ((msk k) &&& ((msk ln) ||| bt))) ≤ (nI 1) then none else (some (nI 1))
def X4_clashes_v (msk : Nat → Int32) (ln : Nat) (bt : Int32) : Int32 := if ((msk ln) &&& bt) = 0 then (zpick (zfoldB (X4_clashes_L25_B msk ln bt) (X4_clashes_L25_F msk ln bt) ln 0 ()) (fun b => b) (fun am25 => nI 0)) else (nI 1)
set_option maxRecDepth 100000 in
set_option maxHeartbeats 4000000 in
theorem c_X4_clashes_2 (G : zG) (ex : Bool) (g : Nat → va_E) (pts lns ltr : Nat) (inw : Int32) (msk : Nat → Int32) (ln : Nat) (bt : Int32) (hln : ln < 12) (h2 : g 2 = (oTxt G 2 (nI pts) (nI lns) (nI ltr) inw)) (h18 : g 18 = (zI G 12 msk)) : zC G yX4_clashes wsX4_clashes (zrm 1 20) ex [.ref (zB G + 2), .int (nI ln), .int bt] (zN, g) (fun r h => r = some (.int (X4_clashes_v msk ln bt)) ∧ h = (zN, g)) := by
  refine zC_of mX4_clashes (lv := [some (.ref (zB G + 2)), some (.int (nI ln)), some (.int bt), none, none]) rfl rfl (by decide) (by intro v hv; simp at hv; rcases hv with rfl | rfl | rfl <;> rfl) (Nat.le_of_ble_eq_true rfl) rfl ?_
  refine z_0 ?_
  refine z_aload_n dX4_clashes_0 rfl rfl ?_
  refine z_get dX4_clashes_1 rfl hiX4_clashes_X4 6 lkX4_clashes_33 (Nat.le_of_ble_eq_true rfl) h2 rfl (by decide) rfl ?_
  refine z_iload_n dX4_clashes_4 rfl rfl ?_
  refine z_ialdN (j := ln) dX4_clashes_5 rfl (Nat.le_of_ble_eq_true rfl) h18 (rfl) (by omega) (by decide) ?_
  refine z_iload_n dX4_clashes_6 rfl rfl ?_
  refine z_iand dX4_clashes_7 rfl ?_
  refine z_if_eq (tgt := 13) dX4_clashes_8 rfl (by decide) (fun c8 => ?_) (fun c8 => ?_)
  · refine z_aload_n dX4_clashes_13 rfl rfl ?_
    refine z_get dX4_clashes_14 rfl hiX4_clashes_X4 6 lkX4_clashes_33 (Nat.le_of_ble_eq_true rfl) h2 rfl (by decide) rfl ?_
    refine z_iload_n dX4_clashes_17 rfl rfl ?_
    refine z_ialdN (j := ln) dX4_clashes_18 rfl (Nat.le_of_ble_eq_true rfl) h18 (rfl) (by omega) (by decide) ?_
    refine z_iload_n dX4_clashes_19 rfl rfl ?_
    refine z_ior dX4_clashes_20 rfl ?_
    refine z_istore_3 dX4_clashes_21 rfl ?_
    refine z_iconst (v := nI 0) dX4_clashes_22 rfl (by decide) ?_
    refine z_istore_4 dX4_clashes_23 rfl ?_
    refine z_forB (head := fun k (st9 : Unit) => Z G mX4_clashes (zrm 1 20) ex _ 25 [some (.ref (zB G + 2)), some (.int (nI ln)), some (.int bt), some (.int ((msk ln) ||| bt)), some (.int (nI k))] [] (zN, zus g []) 0 0) (out := fun b _ => (some (Value.int b) = some (Value.int (X4_clashes_v msk ln bt))) ∧ ((zN, zus g []) : zAH) = (zN, g)) (B := (X4_clashes_L25_B msk ln bt)) (F := (X4_clashes_L25_F msk ln bt)) (n := ln) (fun _ _ => True) (fun _ _ _ _ _ => trivial) ?_ ln 0 () (by omega) trivial ?_ ?_
    · intro k _ hi _ Ko K
      refine z_iload dX4_clashes_25 rfl rfl ?_
      refine z_iload_n dX4_clashes_27 rfl rfl ?_
      refine z_icmp_ge (tgt := 55) dX4_clashes_28 rfl (by decide) (fun c28 => ?_) (fun c28 => ?_)
      · exact absurd c28 (nI_ge hi (by omega))
      · refine z_aload_n dX4_clashes_31 rfl rfl ?_
        refine z_get dX4_clashes_32 rfl hiX4_clashes_X4 6 lkX4_clashes_33 (Nat.le_of_ble_eq_true rfl) h2 rfl (by decide) rfl ?_
        refine z_iload dX4_clashes_35 rfl rfl ?_
        refine z_ialdN (j := k) dX4_clashes_37 rfl (Nat.le_of_ble_eq_true rfl) h18 (rfl) (by omega) (by decide) ?_
        refine z_iload_n dX4_clashes_38 rfl rfl ?_
        refine z_iand dX4_clashes_39 rfl ?_
        refine z_callSi (c_bitCount G ex _ ((msk k) &&& ((msk ln) ||| bt))) gX4_clashes_J6_bitCount_0f7a4 rfl dX4_clashes_40 rfl rfl okk_J6_bitCount_0f7a4 ⟨Nat.le_of_ble_eq_true rfl, Nat.le_of_ble_eq_true rfl⟩ ⟨Nat.le_of_ble_eq_true rfl, Nat.le_of_ble_eq_true rfl⟩ (Nat.le_of_ble_eq_true rfl) ?_
        refine z_iconst (v := nI 1) dX4_clashes_43 rfl (by decide) ?_
        refine z_icmp_le (tgt := 49) dX4_clashes_44 rfl (by decide) (fun c44 => ?_) (fun c44 => ?_)
        · refine z_iinc_4 (v := nI (k + 1)) dX4_clashes_49 rfl (zinc _) ?_
          refine z_goto (tgt := 25) dX4_clashes_52 (by decide) ?_
          have K9 := (K (by simp only [X4_clashes_L25_B, if_pos c44]))
          try simp only [X4_clashes_L25_F, if_pos c44] at K9
          exact K9
        · refine z_iconst (v := nI 1) dX4_clashes_47 rfl (by decide) ?_
          exact z_ireturn dX4_clashes_48 rfl rfl (Nat.le_refl _) (Nat.le_refl _) (fun _ => rfl) (Ko (nI 1) (by simp only [X4_clashes_L25_B, if_neg c44]))
    · intro b a9 hz25
      exact ⟨by simp only [X4_clashes_v, if_pos c8, hz25, zpick_s], rfl⟩
    · intro _ hz25 _
      refine z_iload dX4_clashes_25 rfl rfl ?_
      refine z_iload_n dX4_clashes_27 rfl rfl ?_
      refine z_icmp_ge (tgt := 55) dX4_clashes_28 rfl (by decide) (fun c28 => ?_) (fun c28 => ?_)
      · refine z_iconst (v := nI 0) dX4_clashes_55 rfl (by decide) ?_
        exact z_ireturn dX4_clashes_56 rfl rfl (Nat.le_refl _) (Nat.le_refl _) (fun _ => rfl) ⟨by simp only [X4_clashes_v, if_pos c8, hz25, zpick_n], rfl⟩
      · exact absurd (nI_le (Nat.le_refl _) (by omega)) c28
  · refine z_iconst (v := nI 1) dX4_clashes_11 rfl (by decide) ?_
    exact z_ireturn dX4_clashes_12 rfl rfl (Nat.le_refl _) (Nat.le_refl _) (fun _ => rfl) ⟨by simp only [X4_clashes_v, if_neg c8], rfl⟩
theorem startsWord_ok {lns : Nat} (hl : lns ≤ 12) (h : ¬ X4_startsWord_v lns = 0) : lns < 12 := by
  unfold X4_startsWord_v at h
  split at h
  · rename_i c
    exact Nat.lt_of_not_le (fun q => absurd c (nI_nlt q (by omega)))
  · exact absurd rfl h
theorem startsWord_l {lns : Nat} (h : lns < 12) : X4_startsWord_pT0_1 lns = lns + 1 := by
  unfold X4_startsWord_pT0_1
  rw [if_pos (nI_lt h (by decide))]
theorem startsWord_w {lns : Nat} {inw : Int32} (h : lns < 12) : X4_startsWord_pT0_3 lns inw = nI 1 := by
  unfold X4_startsWord_pT0_3
  rw [if_pos (nI_lt h (by decide))]
theorem startsWord_s {lns : Nat} {sz : Nat → Int32} (h : lns < 12) : X4_startsWord_cT2 lns sz = upd sz lns (nI 0) := by
  unfold X4_startsWord_cT2
  rw [if_pos (nI_lt h (by decide))]
theorem startsWord_m {lns : Nat} {msk : Nat → Int32} (h : lns < 12) : X4_startsWord_cT16 lns msk = upd msk lns (nI 0) := by
  unfold X4_startsWord_cT16
  rw [if_pos (nI_lt h (by decide))]
theorem vp_in5 {x : Int32} (h : vp_in x 6) (h5 : ¬ nI 5 ≤ x) : vp_in x 5 := fun q => by
  refine h5 ?_
  have e := zvin h
  have l := zvlt h
  rcases q with q | q
  · exact absurd (Or.inl q) h
  · have : x.toNatClampNeg = 5 := by omega
    rw [e, this]
    decide
abbrev mX4_addsLetter : zM := (cX4_addsLetter, 4, (some .boolean), RX4, wsX4_addsLetter, "addsLetter")
theorem hiX4_addsLetter_X4 : ∀ w ∈ wsX40, w ∈ wsX4_addsLetter := fun w h => List.mem_cons_of_mem _ (List.mem_append_right _ h)
theorem lkX4_addsLetter_36 : Cond.fieldLink RX4 36 "ConfigSearch$Text" "inWord" "Z" ∈ wsX4_addsLetter := by decide +kernel
theorem lkX4_addsLetter_15 : Cond.fieldLink RX4 15 "ConfigSearch$Text" "lines" "I" ∈ wsX4_addsLetter := by decide +kernel
theorem okk_X4_pointOf : zOk yX4_pointOf 1 := by unfold zOk; decide +kernel
theorem lkX4_addsLetter_25 : Cond.fieldLink RX4 25 "ConfigSearch$Text" "size" "[I" ∈ wsX4_addsLetter := by decide +kernel
theorem okk_X4_clashes : zOk yX4_clashes 2 := by unfold zOk; decide +kernel
theorem lkX4_addsLetter_30 : Cond.fieldLink RX4 30 "ConfigSearch$Text" "word" "[[I" ∈ wsX4_addsLetter := by decide +kernel
theorem lkX4_addsLetter_33 : Cond.fieldLink RX4 33 "ConfigSearch$Text" "mask" "[I" ∈ wsX4_addsLetter := by decide +kernel
theorem lkX4_addsLetter_18 : Cond.fieldLink RX4 18 "ConfigSearch$Text" "letters" "I" ∈ wsX4_addsLetter := by decide +kernel
theorem okk_X4_startsWord : zOk yX4_startsWord 0 := by unfold zOk; decide +kernel
def X4_addsLetter_v (pts lns ltr : Nat) (inw : Int32) (lo sz : Nat → Int32) (msk : Nat → Int32) (lt : Int32) : Int32 := if lt < (nI 97) then (nI 0) else (if (nI 106) < lt then (nI 0) else (if inw = 0 then (if (X4_startsWord_v lns) = 0 then (nI 0) else (if (nI 5) ≤ ((upd sz lns (nI 0)) ((lns + 1) - 1)) then (nI 0) else (if (X4_clashes_v (upd msk lns (nI 0)) ((lns + 1) - 1) ((nI 1) <<< ((X4_pointOf_v pts (lns + 1) ltr (nI 1) lo lt) &&& 31))) = 0 then (nI 1) else (nI 0)))) else (if (nI 5) ≤ (sz (lns - 1)) then (nI 0) else (if (X4_clashes_v msk (lns - 1) ((nI 1) <<< ((X4_pointOf_v pts lns ltr inw lo lt) &&& 31))) = 0 then (nI 1) else (nI 0)))))
def X4_addsLetter_pT0_0 (pts lns ltr : Nat) (inw : Int32) (lo sz : Nat → Int32) (msk : Nat → Int32) (lt : Int32) : Nat := if lt < (nI 97) then pts else (if (nI 106) < lt then pts else (if inw = 0 then (if (X4_startsWord_v lns) = 0 then pts else (if (nI 5) ≤ ((upd sz lns (nI 0)) ((lns + 1) - 1)) then (X4_pointOf_pT0_0 pts (lns + 1) ltr (nI 1) lo lt) else (if (X4_clashes_v (upd msk lns (nI 0)) ((lns + 1) - 1) ((nI 1) <<< ((X4_pointOf_v pts (lns + 1) ltr (nI 1) lo lt) &&& 31))) = 0 then (X4_pointOf_pT0_0 pts (lns + 1) ltr (nI 1) lo lt) else (X4_pointOf_pT0_0 pts (lns + 1) ltr (nI 1) lo lt)))) else (if (nI 5) ≤ (sz (lns - 1)) then (X4_pointOf_pT0_0 pts lns ltr inw lo lt) else (if (X4_clashes_v msk (lns - 1) ((nI 1) <<< ((X4_pointOf_v pts lns ltr inw lo lt) &&& 31))) = 0 then (X4_pointOf_pT0_0 pts lns ltr inw lo lt) else (X4_pointOf_pT0_0 pts lns ltr inw lo lt)))))
def X4_addsLetter_pT0_1 (pts lns ltr : Nat) (inw : Int32) (lo sz : Nat → Int32) (msk : Nat → Int32) (lt : Int32) : Nat := if lt < (nI 97) then lns else (if (nI 106) < lt then lns else (if inw = 0 then (if (X4_startsWord_v lns) = 0 then (X4_startsWord_pT0_1 lns) else (if (nI 5) ≤ ((upd sz lns (nI 0)) ((lns + 1) - 1)) then (lns + 1) else (if (X4_clashes_v (upd msk lns (nI 0)) ((lns + 1) - 1) ((nI 1) <<< ((X4_pointOf_v pts (lns + 1) ltr (nI 1) lo lt) &&& 31))) = 0 then (lns + 1) else (lns + 1)))) else (if (nI 5) ≤ (sz (lns - 1)) then lns else (if (X4_clashes_v msk (lns - 1) ((nI 1) <<< ((X4_pointOf_v pts lns ltr inw lo lt) &&& 31))) = 0 then lns else lns))))
def X4_addsLetter_pT0_2 (pts lns ltr : Nat) (inw : Int32) (lo sz : Nat → Int32) (msk : Nat → Int32) (lt : Int32) : Nat := if lt < (nI 97) then ltr else (if (nI 106) < lt then ltr else (if inw = 0 then (if (X4_startsWord_v lns) = 0 then ltr else (if (nI 5) ≤ ((upd sz lns (nI 0)) ((lns + 1) - 1)) then ltr else (if (X4_clashes_v (upd msk lns (nI 0)) ((lns + 1) - 1) ((nI 1) <<< ((X4_pointOf_v pts (lns + 1) ltr (nI 1) lo lt) &&& 31))) = 0 then (ltr + 1) else ltr))) else (if (nI 5) ≤ (sz (lns - 1)) then ltr else (if (X4_clashes_v msk (lns - 1) ((nI 1) <<< ((X4_pointOf_v pts lns ltr inw lo lt) &&& 31))) = 0 then (ltr + 1) else ltr))))
def X4_addsLetter_pT0_3 (pts lns ltr : Nat) (inw : Int32) (lo sz : Nat → Int32) (msk : Nat → Int32) (lt : Int32) : Int32 := if lt < (nI 97) then inw else (if (nI 106) < lt then inw else (if inw = 0 then (if (X4_startsWord_v lns) = 0 then (X4_startsWord_pT0_3 lns inw) else (if (nI 5) ≤ ((upd sz lns (nI 0)) ((lns + 1) - 1)) then (nI 1) else (if (X4_clashes_v (upd msk lns (nI 0)) ((lns + 1) - 1) ((nI 1) <<< ((X4_pointOf_v pts (lns + 1) ltr (nI 1) lo lt) &&& 31))) = 0 then (nI 1) else (nI 1)))) else (if (nI 5) ≤ (sz (lns - 1)) then inw else (if (X4_clashes_v msk (lns - 1) ((nI 1) <<< ((X4_pointOf_v pts lns ltr inw lo lt) &&& 31))) = 0 then inw else inw))))
def X4_addsLetter_cT1 (pts lns ltr : Nat) (inw : Int32) (lo sz : Nat → Int32) (msk : Nat → Int32) (lt : Int32) : Nat → Int32 := if lt < (nI 97) then lo else (if (nI 106) < lt then lo else (if inw = 0 then (if (X4_startsWord_v lns) = 0 then lo else (if (nI 5) ≤ ((upd sz lns (nI 0)) ((lns + 1) - 1)) then (X4_pointOf_cT1 pts (lns + 1) ltr (nI 1) lo lt) else (if (X4_clashes_v (upd msk lns (nI 0)) ((lns + 1) - 1) ((nI 1) <<< ((X4_pointOf_v pts (lns + 1) ltr (nI 1) lo lt) &&& 31))) = 0 then (X4_pointOf_cT1 pts (lns + 1) ltr (nI 1) lo lt) else (X4_pointOf_cT1 pts (lns + 1) ltr (nI 1) lo lt)))) else (if (nI 5) ≤ (sz (lns - 1)) then (X4_pointOf_cT1 pts lns ltr inw lo lt) else (if (X4_clashes_v msk (lns - 1) ((nI 1) <<< ((X4_pointOf_v pts lns ltr inw lo lt) &&& 31))) = 0 then (X4_pointOf_cT1 pts lns ltr inw lo lt) else (X4_pointOf_cT1 pts lns ltr inw lo lt)))))
def X4_addsLetter_cT2 (pts lns ltr : Nat) (inw : Int32) (lo sz : Nat → Int32) (msk : Nat → Int32) (lt : Int32) : Nat → Int32 := if lt < (nI 97) then sz else (if (nI 106) < lt then sz else (if inw = 0 then (if (X4_startsWord_v lns) = 0 then (X4_startsWord_cT2 lns sz) else (if (nI 5) ≤ ((upd sz lns (nI 0)) ((lns + 1) - 1)) then (upd sz lns (nI 0)) else (if (X4_clashes_v (upd msk lns (nI 0)) ((lns + 1) - 1) ((nI 1) <<< ((X4_pointOf_v pts (lns + 1) ltr (nI 1) lo lt) &&& 31))) = 0 then (upd (upd sz lns (nI 0)) ((lns + 1) - 1) (((upd sz lns (nI 0)) ((lns + 1) - 1)) + (nI 1))) else (upd sz lns (nI 0))))) else (if (nI 5) ≤ (sz (lns - 1)) then sz else (if (X4_clashes_v msk (lns - 1) ((nI 1) <<< ((X4_pointOf_v pts lns ltr inw lo lt) &&& 31))) = 0 then (upd sz (lns - 1) ((sz (lns - 1)) + (nI 1))) else sz))))
def X4_addsLetter_cT4 (pts lns ltr : Nat) (inw : Int32) (lo sz : Nat → Int32) (wd : Nat → Nat → Int32) (msk : Nat → Int32) (lt : Int32) : Nat → Nat → Int32 := if lt < (nI 97) then wd else (if (nI 106) < lt then wd else (if inw = 0 then (if (X4_startsWord_v lns) = 0 then wd else (if (nI 5) ≤ ((upd sz lns (nI 0)) ((lns + 1) - 1)) then wd else (if (X4_clashes_v (upd msk lns (nI 0)) ((lns + 1) - 1) ((nI 1) <<< ((X4_pointOf_v pts (lns + 1) ltr (nI 1) lo lt) &&& 31))) = 0 then (updR wd ((lns + 1) - 1) (upd (wd ((lns + 1) - 1)) ((upd sz lns (nI 0)) ((lns + 1) - 1)).toNatClampNeg (X4_pointOf_v pts (lns + 1) ltr (nI 1) lo lt))) else wd))) else (if (nI 5) ≤ (sz (lns - 1)) then wd else (if (X4_clashes_v msk (lns - 1) ((nI 1) <<< ((X4_pointOf_v pts lns ltr inw lo lt) &&& 31))) = 0 then (updR wd (lns - 1) (upd (wd (lns - 1)) (sz (lns - 1)).toNatClampNeg (X4_pointOf_v pts lns ltr inw lo lt))) else wd))))
def X4_addsLetter_cT16 (pts lns ltr : Nat) (inw : Int32) (lo sz : Nat → Int32) (msk : Nat → Int32) (lt : Int32) : Nat → Int32 := if lt < (nI 97) then msk else (if (nI 106) < lt then msk else (if inw = 0 then (if (X4_startsWord_v lns) = 0 then (X4_startsWord_cT16 lns msk) else (if (nI 5) ≤ ((upd sz lns (nI 0)) ((lns + 1) - 1)) then (upd msk lns (nI 0)) else (if (X4_clashes_v (upd msk lns (nI 0)) ((lns + 1) - 1) ((nI 1) <<< ((X4_pointOf_v pts (lns + 1) ltr (nI 1) lo lt) &&& 31))) = 0 then (upd (upd msk lns (nI 0)) ((lns + 1) - 1) (((upd msk lns (nI 0)) ((lns + 1) - 1)) ||| ((nI 1) <<< ((X4_pointOf_v pts (lns + 1) ltr (nI 1) lo lt) &&& 31)))) else (upd msk lns (nI 0))))) else (if (nI 5) ≤ (sz (lns - 1)) then msk else (if (X4_clashes_v msk (lns - 1) ((nI 1) <<< ((X4_pointOf_v pts lns ltr inw lo lt) &&& 31))) = 0 then (upd msk (lns - 1) ((msk (lns - 1)) ||| ((nI 1) <<< ((X4_pointOf_v pts lns ltr inw lo lt) &&& 31)))) else msk))))
set_option maxRecDepth 100000 in
set_option maxHeartbeats 4000000 in
theorem c_X4_addsLetter_2 (G : zG) (ex : Bool) (g : Nat → va_E) (pts lns ltr : Nat) (inw : Int32) (lo sz : Nat → Int32) (wd : Nat → Nat → Int32) (msk : Nat → Int32) (lt : Int32) (hp : pts ≤ 10) (hl : lns ≤ 12) (hinw : ¬ inw = 0 → 1 ≤ lns) (hsz : ∀ l, l < lns → vp_in (sz l) 6) (hroom : 97 ≤ lt → lt ≤ 106 → (∀ j, j < pts → ¬ lo j = lt) → pts < 10) (h2 : g 2 = (oTxt G 2 (nI pts) (nI lns) (nI ltr) inw)) (h3 : g 3 = (zI G 10 lo)) (h4 : g 4 = (zI G 12 sz)) (h5 : g 5 = (zR G 12 (zrw G 12 6))) (h6 : ∀ l9, l9 < 12 → g (6 + l9) = zI G 5 (wd l9)) (h18 : g 18 = (zI G 12 msk)) : zC G yX4_addsLetter wsX4_addsLetter (zrm 2 44) ex [.ref (zB G + 2), .int lt] (zN, g) (fun r h => r = some (.int (X4_addsLetter_v pts lns ltr inw lo sz msk lt)) ∧ h = (zN, zus g [(2, (oTxt G 2 (nI (X4_addsLetter_pT0_0 pts lns ltr inw lo sz msk lt)) (nI (X4_addsLetter_pT0_1 pts lns ltr inw lo sz msk lt)) (nI (X4_addsLetter_pT0_2 pts lns ltr inw lo sz msk lt)) (X4_addsLetter_pT0_3 pts lns ltr inw lo sz msk lt))), (3, zI G 10 (X4_addsLetter_cT1 pts lns ltr inw lo sz msk lt)), (4, zI G 12 (X4_addsLetter_cT2 pts lns ltr inw lo sz msk lt)), (6, zI G 5 ((X4_addsLetter_cT4 pts lns ltr inw lo sz wd msk lt) 0)), (7, zI G 5 ((X4_addsLetter_cT4 pts lns ltr inw lo sz wd msk lt) 1)), (8, zI G 5 ((X4_addsLetter_cT4 pts lns ltr inw lo sz wd msk lt) 2)), (9, zI G 5 ((X4_addsLetter_cT4 pts lns ltr inw lo sz wd msk lt) 3)), (10, zI G 5 ((X4_addsLetter_cT4 pts lns ltr inw lo sz wd msk lt) 4)), (11, zI G 5 ((X4_addsLetter_cT4 pts lns ltr inw lo sz wd msk lt) 5)), (12, zI G 5 ((X4_addsLetter_cT4 pts lns ltr inw lo sz wd msk lt) 6)), (13, zI G 5 ((X4_addsLetter_cT4 pts lns ltr inw lo sz wd msk lt) 7)), (14, zI G 5 ((X4_addsLetter_cT4 pts lns ltr inw lo sz wd msk lt) 8)), (15, zI G 5 ((X4_addsLetter_cT4 pts lns ltr inw lo sz wd msk lt) 9)), (16, zI G 5 ((X4_addsLetter_cT4 pts lns ltr inw lo sz wd msk lt) 10)), (17, zI G 5 ((X4_addsLetter_cT4 pts lns ltr inw lo sz wd msk lt) 11)), (18, zI G 12 (X4_addsLetter_cT16 pts lns ltr inw lo sz msk lt))])) := by
  refine zC_of mX4_addsLetter (lv := [some (.ref (zB G + 2)), some (.int lt), none, none]) rfl rfl (by decide) (by intro v hv; simp at hv; rcases hv with rfl | rfl <;> rfl) (Nat.le_of_ble_eq_true rfl) rfl ?_
  refine z_0 ?_
  refine z_heap (g' := zu (zus g []) 2 (oTxt G 2 (nI pts) (nI lns) (nI ltr) inw)) (zu_self (zus g []) 2 _ h2).symm ?_
  refine z_n (L' := [(2, (oTxt G 2 (nI pts) (nI lns) (nI ltr) inw))]) rfl ?_
  refine z_heap (g' := zu (zus g [(2, (oTxt G 2 (nI pts) (nI lns) (nI ltr) inw))]) 3 (zI G 10 lo)) (zu_self (zus g [(2, (oTxt G 2 (nI pts) (nI lns) (nI ltr) inw))]) 3 _ h3).symm ?_
  refine z_n (L' := [(2, (oTxt G 2 (nI pts) (nI lns) (nI ltr) inw)), (3, (zI G 10 lo))]) rfl ?_
  refine z_heap (g' := zu (zus g [(2, (oTxt G 2 (nI pts) (nI lns) (nI ltr) inw)), (3, (zI G 10 lo))]) 4 (zI G 12 sz)) (zu_self (zus g [(2, (oTxt G 2 (nI pts) (nI lns) (nI ltr) inw)), (3, (zI G 10 lo))]) 4 _ h4).symm ?_
  refine z_n (L' := [(2, (oTxt G 2 (nI pts) (nI lns) (nI ltr) inw)), (3, (zI G 10 lo)), (4, (zI G 12 sz))]) rfl ?_
  refine z_heap (g' := zu (zus g [(2, (oTxt G 2 (nI pts) (nI lns) (nI ltr) inw)), (3, (zI G 10 lo)), (4, (zI G 12 sz))]) 6 (zI G 5 (wd 0))) (zu_self (zus g [(2, (oTxt G 2 (nI pts) (nI lns) (nI ltr) inw)), (3, (zI G 10 lo)), (4, (zI G 12 sz))]) 6 _ (h6 0 (by decide))).symm ?_
  refine z_n (L' := [(2, (oTxt G 2 (nI pts) (nI lns) (nI ltr) inw)), (3, (zI G 10 lo)), (4, (zI G 12 sz)), (6, (zI G 5 (wd 0)))]) rfl ?_
  refine z_heap (g' := zu (zus g [(2, (oTxt G 2 (nI pts) (nI lns) (nI ltr) inw)), (3, (zI G 10 lo)), (4, (zI G 12 sz)), (6, (zI G 5 (wd 0)))]) 7 (zI G 5 (wd 1))) (zu_self (zus g [(2, (oTxt G 2 (nI pts) (nI lns) (nI ltr) inw)), (3, (zI G 10 lo)), (4, (zI G 12 sz)), (6, (zI G 5 (wd 0)))]) 7 _ (h6 1 (by decide))).symm ?_
  refine z_n (L' := [(2, (oTxt G 2 (nI pts) (nI lns) (nI ltr) inw)), (3, (zI G 10 lo)), (4, (zI G 12 sz)), (6, (zI G 5 (wd 0))), (7, (zI G 5 (wd 1)))]) rfl ?_
  refine z_heap (g' := zu (zus g [(2, (oTxt G 2 (nI pts) (nI lns) (nI ltr) inw)), (3, (zI G 10 lo)), (4, (zI G 12 sz)), (6, (zI G 5 (wd 0))), (7, (zI G 5 (wd 1)))]) 8 (zI G 5 (wd 2))) (zu_self (zus g [(2, (oTxt G 2 (nI pts) (nI lns) (nI ltr) inw)), (3, (zI G 10 lo)), (4, (zI G 12 sz)), (6, (zI G 5 (wd 0))), (7, (zI G 5 (wd 1)))]) 8 _ (h6 2 (by decide))).symm ?_
  refine z_n (L' := [(2, (oTxt G 2 (nI pts) (nI lns) (nI ltr) inw)), (3, (zI G 10 lo)), (4, (zI G 12 sz)), (6, (zI G 5 (wd 0))), (7, (zI G 5 (wd 1))), (8, (zI G 5 (wd 2)))]) rfl ?_
  refine z_heap (g' := zu (zus g [(2, (oTxt G 2 (nI pts) (nI lns) (nI ltr) inw)), (3, (zI G 10 lo)), (4, (zI G 12 sz)), (6, (zI G 5 (wd 0))), (7, (zI G 5 (wd 1))), (8, (zI G 5 (wd 2)))]) 9 (zI G 5 (wd 3))) (zu_self (zus g [(2, (oTxt G 2 (nI pts) (nI lns) (nI ltr) inw)), (3, (zI G 10 lo)), (4, (zI G 12 sz)), (6, (zI G 5 (wd 0))), (7, (zI G 5 (wd 1))), (8, (zI G 5 (wd 2)))]) 9 _ (h6 3 (by decide))).symm ?_
  refine z_n (L' := [(2, (oTxt G 2 (nI pts) (nI lns) (nI ltr) inw)), (3, (zI G 10 lo)), (4, (zI G 12 sz)), (6, (zI G 5 (wd 0))), (7, (zI G 5 (wd 1))), (8, (zI G 5 (wd 2))), (9, (zI G 5 (wd 3)))]) rfl ?_
  refine z_heap (g' := zu (zus g [(2, (oTxt G 2 (nI pts) (nI lns) (nI ltr) inw)), (3, (zI G 10 lo)), (4, (zI G 12 sz)), (6, (zI G 5 (wd 0))), (7, (zI G 5 (wd 1))), (8, (zI G 5 (wd 2))), (9, (zI G 5 (wd 3)))]) 10 (zI G 5 (wd 4))) (zu_self (zus g [(2, (oTxt G 2 (nI pts) (nI lns) (nI ltr) inw)), (3, (zI G 10 lo)), (4, (zI G 12 sz)), (6, (zI G 5 (wd 0))), (7, (zI G 5 (wd 1))), (8, (zI G 5 (wd 2))), (9, (zI G 5 (wd 3)))]) 10 _ (h6 4 (by decide))).symm ?_
  refine z_n (L' := [(2, (oTxt G 2 (nI pts) (nI lns) (nI ltr) inw)), (3, (zI G 10 lo)), (4, (zI G 12 sz)), (6, (zI G 5 (wd 0))), (7, (zI G 5 (wd 1))), (8, (zI G 5 (wd 2))), (9, (zI G 5 (wd 3))), (10, (zI G 5 (wd 4)))]) rfl ?_
  refine z_heap (g' := zu (zus g [(2, (oTxt G 2 (nI pts) (nI lns) (nI ltr) inw)), (3, (zI G 10 lo)), (4, (zI G 12 sz)), (6, (zI G 5 (wd 0))), (7, (zI G 5 (wd 1))), (8, (zI G 5 (wd 2))), (9, (zI G 5 (wd 3))), (10, (zI G 5 (wd 4)))]) 11 (zI G 5 (wd 5))) (zu_self (zus g [(2, (oTxt G 2 (nI pts) (nI lns) (nI ltr) inw)), (3, (zI G 10 lo)), (4, (zI G 12 sz)), (6, (zI G 5 (wd 0))), (7, (zI G 5 (wd 1))), (8, (zI G 5 (wd 2))), (9, (zI G 5 (wd 3))), (10, (zI G 5 (wd 4)))]) 11 _ (h6 5 (by decide))).symm ?_
  refine z_n (L' := [(2, (oTxt G 2 (nI pts) (nI lns) (nI ltr) inw)), (3, (zI G 10 lo)), (4, (zI G 12 sz)), (6, (zI G 5 (wd 0))), (7, (zI G 5 (wd 1))), (8, (zI G 5 (wd 2))), (9, (zI G 5 (wd 3))), (10, (zI G 5 (wd 4))), (11, (zI G 5 (wd 5)))]) rfl ?_
  refine z_heap (g' := zu (zus g [(2, (oTxt G 2 (nI pts) (nI lns) (nI ltr) inw)), (3, (zI G 10 lo)), (4, (zI G 12 sz)), (6, (zI G 5 (wd 0))), (7, (zI G 5 (wd 1))), (8, (zI G 5 (wd 2))), (9, (zI G 5 (wd 3))), (10, (zI G 5 (wd 4))), (11, (zI G 5 (wd 5)))]) 12 (zI G 5 (wd 6))) (zu_self (zus g [(2, (oTxt G 2 (nI pts) (nI lns) (nI ltr) inw)), (3, (zI G 10 lo)), (4, (zI G 12 sz)), (6, (zI G 5 (wd 0))), (7, (zI G 5 (wd 1))), (8, (zI G 5 (wd 2))), (9, (zI G 5 (wd 3))), (10, (zI G 5 (wd 4))), (11, (zI G 5 (wd 5)))]) 12 _ (h6 6 (by decide))).symm ?_
  refine z_n (L' := [(2, (oTxt G 2 (nI pts) (nI lns) (nI ltr) inw)), (3, (zI G 10 lo)), (4, (zI G 12 sz)), (6, (zI G 5 (wd 0))), (7, (zI G 5 (wd 1))), (8, (zI G 5 (wd 2))), (9, (zI G 5 (wd 3))), (10, (zI G 5 (wd 4))), (11, (zI G 5 (wd 5))), (12, (zI G 5 (wd 6)))]) rfl ?_
  refine z_heap (g' := zu (zus g [(2, (oTxt G 2 (nI pts) (nI lns) (nI ltr) inw)), (3, (zI G 10 lo)), (4, (zI G 12 sz)), (6, (zI G 5 (wd 0))), (7, (zI G 5 (wd 1))), (8, (zI G 5 (wd 2))), (9, (zI G 5 (wd 3))), (10, (zI G 5 (wd 4))), (11, (zI G 5 (wd 5))), (12, (zI G 5 (wd 6)))]) 13 (zI G 5 (wd 7))) (zu_self (zus g [(2, (oTxt G 2 (nI pts) (nI lns) (nI ltr) inw)), (3, (zI G 10 lo)), (4, (zI G 12 sz)), (6, (zI G 5 (wd 0))), (7, (zI G 5 (wd 1))), (8, (zI G 5 (wd 2))), (9, (zI G 5 (wd 3))), (10, (zI G 5 (wd 4))), (11, (zI G 5 (wd 5))), (12, (zI G 5 (wd 6)))]) 13 _ (h6 7 (by decide))).symm ?_
  refine z_n (L' := [(2, (oTxt G 2 (nI pts) (nI lns) (nI ltr) inw)), (3, (zI G 10 lo)), (4, (zI G 12 sz)), (6, (zI G 5 (wd 0))), (7, (zI G 5 (wd 1))), (8, (zI G 5 (wd 2))), (9, (zI G 5 (wd 3))), (10, (zI G 5 (wd 4))), (11, (zI G 5 (wd 5))), (12, (zI G 5 (wd 6))), (13, (zI G 5 (wd 7)))]) rfl ?_
  refine z_heap (g' := zu (zus g [(2, (oTxt G 2 (nI pts) (nI lns) (nI ltr) inw)), (3, (zI G 10 lo)), (4, (zI G 12 sz)), (6, (zI G 5 (wd 0))), (7, (zI G 5 (wd 1))), (8, (zI G 5 (wd 2))), (9, (zI G 5 (wd 3))), (10, (zI G 5 (wd 4))), (11, (zI G 5 (wd 5))), (12, (zI G 5 (wd 6))), (13, (zI G 5 (wd 7)))]) 14 (zI G 5 (wd 8))) (zu_self (zus g [(2, (oTxt G 2 (nI pts) (nI lns) (nI ltr) inw)), (3, (zI G 10 lo)), (4, (zI G 12 sz)), (6, (zI G 5 (wd 0))), (7, (zI G 5 (wd 1))), (8, (zI G 5 (wd 2))), (9, (zI G 5 (wd 3))), (10, (zI G 5 (wd 4))), (11, (zI G 5 (wd 5))), (12, (zI G 5 (wd 6))), (13, (zI G 5 (wd 7)))]) 14 _ (h6 8 (by decide))).symm ?_
  refine z_n (L' := [(2, (oTxt G 2 (nI pts) (nI lns) (nI ltr) inw)), (3, (zI G 10 lo)), (4, (zI G 12 sz)), (6, (zI G 5 (wd 0))), (7, (zI G 5 (wd 1))), (8, (zI G 5 (wd 2))), (9, (zI G 5 (wd 3))), (10, (zI G 5 (wd 4))), (11, (zI G 5 (wd 5))), (12, (zI G 5 (wd 6))), (13, (zI G 5 (wd 7))), (14, (zI G 5 (wd 8)))]) rfl ?_
  refine z_heap (g' := zu (zus g [(2, (oTxt G 2 (nI pts) (nI lns) (nI ltr) inw)), (3, (zI G 10 lo)), (4, (zI G 12 sz)), (6, (zI G 5 (wd 0))), (7, (zI G 5 (wd 1))), (8, (zI G 5 (wd 2))), (9, (zI G 5 (wd 3))), (10, (zI G 5 (wd 4))), (11, (zI G 5 (wd 5))), (12, (zI G 5 (wd 6))), (13, (zI G 5 (wd 7))), (14, (zI G 5 (wd 8)))]) 15 (zI G 5 (wd 9))) (zu_self (zus g [(2, (oTxt G 2 (nI pts) (nI lns) (nI ltr) inw)), (3, (zI G 10 lo)), (4, (zI G 12 sz)), (6, (zI G 5 (wd 0))), (7, (zI G 5 (wd 1))), (8, (zI G 5 (wd 2))), (9, (zI G 5 (wd 3))), (10, (zI G 5 (wd 4))), (11, (zI G 5 (wd 5))), (12, (zI G 5 (wd 6))), (13, (zI G 5 (wd 7))), (14, (zI G 5 (wd 8)))]) 15 _ (h6 9 (by decide))).symm ?_
  refine z_n (L' := [(2, (oTxt G 2 (nI pts) (nI lns) (nI ltr) inw)), (3, (zI G 10 lo)), (4, (zI G 12 sz)), (6, (zI G 5 (wd 0))), (7, (zI G 5 (wd 1))), (8, (zI G 5 (wd 2))), (9, (zI G 5 (wd 3))), (10, (zI G 5 (wd 4))), (11, (zI G 5 (wd 5))), (12, (zI G 5 (wd 6))), (13, (zI G 5 (wd 7))), (14, (zI G 5 (wd 8))), (15, (zI G 5 (wd 9)))]) rfl ?_
  refine z_heap (g' := zu (zus g [(2, (oTxt G 2 (nI pts) (nI lns) (nI ltr) inw)), (3, (zI G 10 lo)), (4, (zI G 12 sz)), (6, (zI G 5 (wd 0))), (7, (zI G 5 (wd 1))), (8, (zI G 5 (wd 2))), (9, (zI G 5 (wd 3))), (10, (zI G 5 (wd 4))), (11, (zI G 5 (wd 5))), (12, (zI G 5 (wd 6))), (13, (zI G 5 (wd 7))), (14, (zI G 5 (wd 8))), (15, (zI G 5 (wd 9)))]) 16 (zI G 5 (wd 10))) (zu_self (zus g [(2, (oTxt G 2 (nI pts) (nI lns) (nI ltr) inw)), (3, (zI G 10 lo)), (4, (zI G 12 sz)), (6, (zI G 5 (wd 0))), (7, (zI G 5 (wd 1))), (8, (zI G 5 (wd 2))), (9, (zI G 5 (wd 3))), (10, (zI G 5 (wd 4))), (11, (zI G 5 (wd 5))), (12, (zI G 5 (wd 6))), (13, (zI G 5 (wd 7))), (14, (zI G 5 (wd 8))), (15, (zI G 5 (wd 9)))]) 16 _ (h6 10 (by decide))).symm ?_
  refine z_n (L' := [(2, (oTxt G 2 (nI pts) (nI lns) (nI ltr) inw)), (3, (zI G 10 lo)), (4, (zI G 12 sz)), (6, (zI G 5 (wd 0))), (7, (zI G 5 (wd 1))), (8, (zI G 5 (wd 2))), (9, (zI G 5 (wd 3))), (10, (zI G 5 (wd 4))), (11, (zI G 5 (wd 5))), (12, (zI G 5 (wd 6))), (13, (zI G 5 (wd 7))), (14, (zI G 5 (wd 8))), (15, (zI G 5 (wd 9))), (16, (zI G 5 (wd 10)))]) rfl ?_
  refine z_heap (g' := zu (zus g [(2, (oTxt G 2 (nI pts) (nI lns) (nI ltr) inw)), (3, (zI G 10 lo)), (4, (zI G 12 sz)), (6, (zI G 5 (wd 0))), (7, (zI G 5 (wd 1))), (8, (zI G 5 (wd 2))), (9, (zI G 5 (wd 3))), (10, (zI G 5 (wd 4))), (11, (zI G 5 (wd 5))), (12, (zI G 5 (wd 6))), (13, (zI G 5 (wd 7))), (14, (zI G 5 (wd 8))), (15, (zI G 5 (wd 9))), (16, (zI G 5 (wd 10)))]) 17 (zI G 5 (wd 11))) (zu_self (zus g [(2, (oTxt G 2 (nI pts) (nI lns) (nI ltr) inw)), (3, (zI G 10 lo)), (4, (zI G 12 sz)), (6, (zI G 5 (wd 0))), (7, (zI G 5 (wd 1))), (8, (zI G 5 (wd 2))), (9, (zI G 5 (wd 3))), (10, (zI G 5 (wd 4))), (11, (zI G 5 (wd 5))), (12, (zI G 5 (wd 6))), (13, (zI G 5 (wd 7))), (14, (zI G 5 (wd 8))), (15, (zI G 5 (wd 9))), (16, (zI G 5 (wd 10)))]) 17 _ (h6 11 (by decide))).symm ?_
  refine z_n (L' := [(2, (oTxt G 2 (nI pts) (nI lns) (nI ltr) inw)), (3, (zI G 10 lo)), (4, (zI G 12 sz)), (6, (zI G 5 (wd 0))), (7, (zI G 5 (wd 1))), (8, (zI G 5 (wd 2))), (9, (zI G 5 (wd 3))), (10, (zI G 5 (wd 4))), (11, (zI G 5 (wd 5))), (12, (zI G 5 (wd 6))), (13, (zI G 5 (wd 7))), (14, (zI G 5 (wd 8))), (15, (zI G 5 (wd 9))), (16, (zI G 5 (wd 10))), (17, (zI G 5 (wd 11)))]) rfl ?_
  refine z_heap (g' := zu (zus g [(2, (oTxt G 2 (nI pts) (nI lns) (nI ltr) inw)), (3, (zI G 10 lo)), (4, (zI G 12 sz)), (6, (zI G 5 (wd 0))), (7, (zI G 5 (wd 1))), (8, (zI G 5 (wd 2))), (9, (zI G 5 (wd 3))), (10, (zI G 5 (wd 4))), (11, (zI G 5 (wd 5))), (12, (zI G 5 (wd 6))), (13, (zI G 5 (wd 7))), (14, (zI G 5 (wd 8))), (15, (zI G 5 (wd 9))), (16, (zI G 5 (wd 10))), (17, (zI G 5 (wd 11)))]) 18 (zI G 12 msk)) (zu_self (zus g [(2, (oTxt G 2 (nI pts) (nI lns) (nI ltr) inw)), (3, (zI G 10 lo)), (4, (zI G 12 sz)), (6, (zI G 5 (wd 0))), (7, (zI G 5 (wd 1))), (8, (zI G 5 (wd 2))), (9, (zI G 5 (wd 3))), (10, (zI G 5 (wd 4))), (11, (zI G 5 (wd 5))), (12, (zI G 5 (wd 6))), (13, (zI G 5 (wd 7))), (14, (zI G 5 (wd 8))), (15, (zI G 5 (wd 9))), (16, (zI G 5 (wd 10))), (17, (zI G 5 (wd 11)))]) 18 _ h18).symm ?_
  refine z_n (L' := [(2, (oTxt G 2 (nI pts) (nI lns) (nI ltr) inw)), (3, (zI G 10 lo)), (4, (zI G 12 sz)), (6, (zI G 5 (wd 0))), (7, (zI G 5 (wd 1))), (8, (zI G 5 (wd 2))), (9, (zI G 5 (wd 3))), (10, (zI G 5 (wd 4))), (11, (zI G 5 (wd 5))), (12, (zI G 5 (wd 6))), (13, (zI G 5 (wd 7))), (14, (zI G 5 (wd 8))), (15, (zI G 5 (wd 9))), (16, (zI G 5 (wd 10))), (17, (zI G 5 (wd 11))), (18, (zI G 12 msk))]) rfl ?_
  refine z_iload_n dX4_addsLetter_0 rfl rfl ?_
  refine z_bipush (v := nI 97) dX4_addsLetter_1 rfl (by decide) ?_
  refine z_icmp_lt (tgt := 26) dX4_addsLetter_3 rfl (by decide) (fun c3 => ?_) (fun c3 => ?_)
  · refine z_iconst (v := nI 0) dX4_addsLetter_26 rfl (by decide) ?_
    exact z_ireturn dX4_addsLetter_27 rfl rfl (Nat.le_refl _) (Nat.le_refl _) (fun _ => rfl) ⟨by simp only [X4_addsLetter_v, if_pos c3], by simp only [X4_addsLetter_pT0_0, X4_addsLetter_pT0_1, X4_addsLetter_pT0_2, X4_addsLetter_pT0_3, X4_addsLetter_cT1, X4_addsLetter_cT2, X4_addsLetter_cT4, X4_addsLetter_cT16, if_pos c3]⟩
  · refine z_iload_n dX4_addsLetter_6 rfl rfl ?_
    refine z_bipush (v := nI 106) dX4_addsLetter_7 rfl (by decide) ?_
    refine z_icmp_gt (tgt := 26) dX4_addsLetter_9 rfl (by decide) (fun c9 => ?_) (fun c9 => ?_)
    · refine z_iconst (v := nI 0) dX4_addsLetter_26 rfl (by decide) ?_
      exact z_ireturn dX4_addsLetter_27 rfl rfl (Nat.le_refl _) (Nat.le_refl _) (fun _ => rfl) ⟨by simp only [X4_addsLetter_v, if_neg c3, if_pos c9], by simp only [X4_addsLetter_pT0_0, X4_addsLetter_pT0_1, X4_addsLetter_pT0_2, X4_addsLetter_pT0_3, X4_addsLetter_cT1, X4_addsLetter_cT2, X4_addsLetter_cT4, X4_addsLetter_cT16, if_neg c3, if_pos c9]⟩
    · refine z_aload_n dX4_addsLetter_12 rfl rfl ?_
      refine z_get dX4_addsLetter_13 rfl hiX4_addsLetter_X4 7 lkX4_addsLetter_36 (Nat.le_of_ble_eq_true rfl) rfl rfl (by decide) rfl ?_
      refine z_if_ne (tgt := 28) dX4_addsLetter_16 rfl (by decide) (fun c16 => ?_) (fun c16 => ?_)
      · have hl1 : 1 ≤ lns := hinw c16
        have hsz9 : ∀ l, l < lns → vp_in (sz l) 6 := hsz
        refine z_aload_n dX4_addsLetter_28 rfl rfl ?_
        refine z_get dX4_addsLetter_29 rfl hiX4_addsLetter_X4 1 lkX4_addsLetter_15 (Nat.le_of_ble_eq_true rfl) rfl rfl (by decide) rfl ?_
        refine z_iconst (v := nI 1) dX4_addsLetter_32 rfl (by decide) ?_
        refine z_isub dX4_addsLetter_33 rfl ?_
        refine z_top (show (nI lns) - (nI 1) = nI (lns - 1) from (zq_sub rfl rfl (by omega))) ?_
        refine z_istore_2 dX4_addsLetter_34 rfl ?_
        refine z_aload_n dX4_addsLetter_35 rfl rfl ?_
        refine z_iload_n dX4_addsLetter_36 rfl rfl ?_
        refine z_callVi (c_X4_pointOf_2 G ex _ pts lns ltr inw lo lt (by omega) (hroom (Int32.not_lt.mp c3) (Int32.not_lt.mp c9)) rfl rfl) gX4_addsLetter_X4_pointOf rfl dX4_addsLetter_37 rfl rfl rfl okk_X4_pointOf (Nat.le_of_ble_eq_true rfl) rfl rfl ⟨Nat.le_of_ble_eq_true rfl, Nat.le_of_ble_eq_true rfl⟩ ⟨Nat.le_of_ble_eq_true rfl, Nat.le_of_ble_eq_true rfl⟩ (Nat.le_of_ble_eq_true rfl) ?_
        refine z_nn (L' := [(2, (oTxt G 2 (nI (X4_pointOf_pT0_0 pts lns ltr inw lo lt)) (nI lns) (nI ltr) inw)), (3, (zI G 10 (X4_pointOf_cT1 pts lns ltr inw lo lt))), (4, (zI G 12 sz)), (6, (zI G 5 (wd 0))), (7, (zI G 5 (wd 1))), (8, (zI G 5 (wd 2))), (9, (zI G 5 (wd 3))), (10, (zI G 5 (wd 4))), (11, (zI G 5 (wd 5))), (12, (zI G 5 (wd 6))), (13, (zI G 5 (wd 7))), (14, (zI G 5 (wd 8))), (15, (zI G 5 (wd 9))), (16, (zI G 5 (wd 10))), (17, (zI G 5 (wd 11))), (18, (zI G 12 msk))]) rfl ?_
        refine z_istore_3 dX4_addsLetter_40 rfl ?_
        refine z_aload_n dX4_addsLetter_41 rfl rfl ?_
        refine z_get dX4_addsLetter_42 rfl hiX4_addsLetter_X4 4 lkX4_addsLetter_25 (Nat.le_of_ble_eq_true rfl) rfl rfl (by decide) rfl ?_
        refine z_iload_n dX4_addsLetter_45 rfl rfl ?_
        refine z_ialdN (j := lns - 1) dX4_addsLetter_46 rfl (Nat.le_of_ble_eq_true rfl) rfl (rfl) (by omega) (by decide) ?_
        refine z_iconst (v := nI 5) dX4_addsLetter_47 rfl (by decide) ?_
        refine z_icmp_ge (tgt := 62) dX4_addsLetter_48 rfl (by decide) (fun c48 => ?_) (fun c48 => ?_)
        · refine z_iconst (v := nI 0) dX4_addsLetter_62 rfl (by decide) ?_
          exact z_ireturn dX4_addsLetter_63 rfl rfl (Nat.le_refl _) (Nat.le_refl _) (fun _ => rfl) ⟨by simp only [X4_addsLetter_v, if_neg c3, if_neg c9, if_neg c16, if_pos c48], by simp only [X4_addsLetter_pT0_0, X4_addsLetter_pT0_1, X4_addsLetter_pT0_2, X4_addsLetter_pT0_3, X4_addsLetter_cT1, X4_addsLetter_cT2, X4_addsLetter_cT4, X4_addsLetter_cT16, if_neg c3, if_neg c9, if_neg c16, if_pos c48]⟩
        · refine z_aload_n dX4_addsLetter_51 rfl rfl ?_
          refine z_iload_n dX4_addsLetter_52 rfl rfl ?_
          refine z_iconst (v := nI 1) dX4_addsLetter_53 rfl (by decide) ?_
          refine z_iload_n dX4_addsLetter_54 rfl rfl ?_
          refine z_ishl dX4_addsLetter_55 rfl ?_
          refine z_callVi (c_X4_clashes_2 G ex _ (X4_pointOf_pT0_0 pts lns ltr inw lo lt) lns ltr inw msk (lns - 1) ((nI 1) <<< ((X4_pointOf_v pts lns ltr inw lo lt) &&& 31)) (by omega) rfl rfl) gX4_addsLetter_X4_clashes rfl dX4_addsLetter_56 rfl rfl rfl okk_X4_clashes (Nat.le_of_ble_eq_true rfl) rfl rfl ⟨Nat.le_of_ble_eq_true rfl, Nat.le_of_ble_eq_true rfl⟩ ⟨Nat.le_of_ble_eq_true rfl, Nat.le_of_ble_eq_true rfl⟩ (Nat.le_of_ble_eq_true rfl) ?_
          refine z_if_eq (tgt := 64) dX4_addsLetter_59 rfl (by decide) (fun c59 => ?_) (fun c59 => ?_)
          · refine z_aload_n dX4_addsLetter_64 rfl rfl ?_
            refine z_get dX4_addsLetter_65 rfl hiX4_addsLetter_X4 5 lkX4_addsLetter_30 (Nat.le_of_ble_eq_true rfl) rfl rfl (by decide) rfl ?_
            refine z_iload_n dX4_addsLetter_68 rfl rfl ?_
            refine z_aaldN (j := lns - 1) (a := zB G + (6 + (lns - 1))) dX4_addsLetter_69 rfl (Nat.le_of_ble_eq_true rfl) h5 (rfl) (by omega) (by decide) (zrw_at (by omega)) ?_
            refine z_aload_n dX4_addsLetter_70 rfl rfl ?_
            refine z_get dX4_addsLetter_71 rfl hiX4_addsLetter_X4 4 lkX4_addsLetter_25 (Nat.le_of_ble_eq_true rfl) rfl rfl (by decide) rfl ?_
            refine z_iload_n dX4_addsLetter_74 rfl rfl ?_
            refine z_ialdN (j := lns - 1) dX4_addsLetter_75 rfl (Nat.le_of_ble_eq_true rfl) rfl (rfl) (by omega) (by decide) ?_
            refine z_iload_n dX4_addsLetter_76 rfl rfl ?_
            refine z_iast dX4_addsLetter_77 rfl (zk12 (by omega) (by decide)) (zw12 (P := fun l9 => zus g [(2, (oTxt G 2 (nI (X4_pointOf_pT0_0 pts lns ltr inw lo lt)) (nI lns) (nI ltr) inw)), (3, (zI G 10 (X4_pointOf_cT1 pts lns ltr inw lo lt))), (4, (zI G 12 sz)), (6, (zI G 5 (wd 0))), (7, (zI G 5 (wd 1))), (8, (zI G 5 (wd 2))), (9, (zI G 5 (wd 3))), (10, (zI G 5 (wd 4))), (11, (zI G 5 (wd 5))), (12, (zI G 5 (wd 6))), (13, (zI G 5 (wd 7))), (14, (zI G 5 (wd 8))), (15, (zI G 5 (wd 9))), (16, (zI G 5 (wd 10))), (17, (zI G 5 (wd 11))), (18, (zI G 12 msk))] (6 + l9) = zI G 5 (wd l9)) rfl rfl rfl rfl rfl rfl rfl rfl rfl rfl rfl rfl _ (by omega)) (vp_in5 (hsz9 _ (by omega)) c48) ?_
            refine z_n (L' := [(2, (oTxt G 2 (nI (X4_pointOf_pT0_0 pts lns ltr inw lo lt)) (nI lns) (nI ltr) inw)), (3, (zI G 10 (X4_pointOf_cT1 pts lns ltr inw lo lt))), (4, (zI G 12 sz)), (6, (zI G 5 ((updR wd (lns - 1) (upd (wd (lns - 1)) (sz (lns - 1)).toNatClampNeg (X4_pointOf_v pts lns ltr inw lo lt))) 0))), (7, (zI G 5 ((updR wd (lns - 1) (upd (wd (lns - 1)) (sz (lns - 1)).toNatClampNeg (X4_pointOf_v pts lns ltr inw lo lt))) 1))), (8, (zI G 5 ((updR wd (lns - 1) (upd (wd (lns - 1)) (sz (lns - 1)).toNatClampNeg (X4_pointOf_v pts lns ltr inw lo lt))) 2))), (9, (zI G 5 ((updR wd (lns - 1) (upd (wd (lns - 1)) (sz (lns - 1)).toNatClampNeg (X4_pointOf_v pts lns ltr inw lo lt))) 3))), (10, (zI G 5 ((updR wd (lns - 1) (upd (wd (lns - 1)) (sz (lns - 1)).toNatClampNeg (X4_pointOf_v pts lns ltr inw lo lt))) 4))), (11, (zI G 5 ((updR wd (lns - 1) (upd (wd (lns - 1)) (sz (lns - 1)).toNatClampNeg (X4_pointOf_v pts lns ltr inw lo lt))) 5))), (12, (zI G 5 ((updR wd (lns - 1) (upd (wd (lns - 1)) (sz (lns - 1)).toNatClampNeg (X4_pointOf_v pts lns ltr inw lo lt))) 6))), (13, (zI G 5 ((updR wd (lns - 1) (upd (wd (lns - 1)) (sz (lns - 1)).toNatClampNeg (X4_pointOf_v pts lns ltr inw lo lt))) 7))), (14, (zI G 5 ((updR wd (lns - 1) (upd (wd (lns - 1)) (sz (lns - 1)).toNatClampNeg (X4_pointOf_v pts lns ltr inw lo lt))) 8))), (15, (zI G 5 ((updR wd (lns - 1) (upd (wd (lns - 1)) (sz (lns - 1)).toNatClampNeg (X4_pointOf_v pts lns ltr inw lo lt))) 9))), (16, (zI G 5 ((updR wd (lns - 1) (upd (wd (lns - 1)) (sz (lns - 1)).toNatClampNeg (X4_pointOf_v pts lns ltr inw lo lt))) 10))), (17, (zI G 5 ((updR wd (lns - 1) (upd (wd (lns - 1)) (sz (lns - 1)).toNatClampNeg (X4_pointOf_v pts lns ltr inw lo lt))) 11))), (18, (zI G 12 msk))]) (zw12 (P := fun l9 => zsl [(2, (oTxt G 2 (nI (X4_pointOf_pT0_0 pts lns ltr inw lo lt)) (nI lns) (nI ltr) inw)), (3, (zI G 10 (X4_pointOf_cT1 pts lns ltr inw lo lt))), (4, (zI G 12 sz)), (6, (zI G 5 (wd 0))), (7, (zI G 5 (wd 1))), (8, (zI G 5 (wd 2))), (9, (zI G 5 (wd 3))), (10, (zI G 5 (wd 4))), (11, (zI G 5 (wd 5))), (12, (zI G 5 (wd 6))), (13, (zI G 5 (wd 7))), (14, (zI G 5 (wd 8))), (15, (zI G 5 (wd 9))), (16, (zI G 5 (wd 10))), (17, (zI G 5 (wd 11))), (18, (zI G 12 msk))] (6 + l9) (zI G 5 (upd (wd (lns - 1)) (sz (lns - 1)).toNatClampNeg (X4_pointOf_v pts lns ltr inw lo lt))) = [(2, (oTxt G 2 (nI (X4_pointOf_pT0_0 pts lns ltr inw lo lt)) (nI lns) (nI ltr) inw)), (3, (zI G 10 (X4_pointOf_cT1 pts lns ltr inw lo lt))), (4, (zI G 12 sz)), (6, (zI G 5 ((updR wd l9 (upd (wd (lns - 1)) (sz (lns - 1)).toNatClampNeg (X4_pointOf_v pts lns ltr inw lo lt))) 0))), (7, (zI G 5 ((updR wd l9 (upd (wd (lns - 1)) (sz (lns - 1)).toNatClampNeg (X4_pointOf_v pts lns ltr inw lo lt))) 1))), (8, (zI G 5 ((updR wd l9 (upd (wd (lns - 1)) (sz (lns - 1)).toNatClampNeg (X4_pointOf_v pts lns ltr inw lo lt))) 2))), (9, (zI G 5 ((updR wd l9 (upd (wd (lns - 1)) (sz (lns - 1)).toNatClampNeg (X4_pointOf_v pts lns ltr inw lo lt))) 3))), (10, (zI G 5 ((updR wd l9 (upd (wd (lns - 1)) (sz (lns - 1)).toNatClampNeg (X4_pointOf_v pts lns ltr inw lo lt))) 4))), (11, (zI G 5 ((updR wd l9 (upd (wd (lns - 1)) (sz (lns - 1)).toNatClampNeg (X4_pointOf_v pts lns ltr inw lo lt))) 5))), (12, (zI G 5 ((updR wd l9 (upd (wd (lns - 1)) (sz (lns - 1)).toNatClampNeg (X4_pointOf_v pts lns ltr inw lo lt))) 6))), (13, (zI G 5 ((updR wd l9 (upd (wd (lns - 1)) (sz (lns - 1)).toNatClampNeg (X4_pointOf_v pts lns ltr inw lo lt))) 7))), (14, (zI G 5 ((updR wd l9 (upd (wd (lns - 1)) (sz (lns - 1)).toNatClampNeg (X4_pointOf_v pts lns ltr inw lo lt))) 8))), (15, (zI G 5 ((updR wd l9 (upd (wd (lns - 1)) (sz (lns - 1)).toNatClampNeg (X4_pointOf_v pts lns ltr inw lo lt))) 9))), (16, (zI G 5 ((updR wd l9 (upd (wd (lns - 1)) (sz (lns - 1)).toNatClampNeg (X4_pointOf_v pts lns ltr inw lo lt))) 10))), (17, (zI G 5 ((updR wd l9 (upd (wd (lns - 1)) (sz (lns - 1)).toNatClampNeg (X4_pointOf_v pts lns ltr inw lo lt))) 11))), (18, (zI G 12 msk))]) rfl rfl rfl rfl rfl rfl rfl rfl rfl rfl rfl rfl _ (by omega)) ?_
            refine z_aload_n dX4_addsLetter_78 rfl rfl ?_
            refine z_get dX4_addsLetter_79 rfl hiX4_addsLetter_X4 4 lkX4_addsLetter_25 (Nat.le_of_ble_eq_true rfl) rfl rfl (by decide) rfl ?_
            refine z_iload_n dX4_addsLetter_82 rfl rfl ?_
            refine z_dup2 dX4_addsLetter_83 rfl rfl rfl ?_
            refine z_ialdN (j := lns - 1) dX4_addsLetter_84 rfl (Nat.le_of_ble_eq_true rfl) rfl (rfl) (by omega) (by decide) ?_
            refine z_iconst (v := nI 1) dX4_addsLetter_85 rfl (by decide) ?_
            refine z_iadd dX4_addsLetter_86 rfl ?_
            refine z_iastN (j := lns - 1) dX4_addsLetter_87 rfl (Nat.le_of_ble_eq_true rfl) rfl (rfl) (by omega) (by decide) ?_
            refine z_n (L' := [(2, (oTxt G 2 (nI (X4_pointOf_pT0_0 pts lns ltr inw lo lt)) (nI lns) (nI ltr) inw)), (3, (zI G 10 (X4_pointOf_cT1 pts lns ltr inw lo lt))), (4, (zI G 12 (upd sz (lns - 1) ((sz (lns - 1)) + (nI 1))))), (6, (zI G 5 ((updR wd (lns - 1) (upd (wd (lns - 1)) (sz (lns - 1)).toNatClampNeg (X4_pointOf_v pts lns ltr inw lo lt))) 0))), (7, (zI G 5 ((updR wd (lns - 1) (upd (wd (lns - 1)) (sz (lns - 1)).toNatClampNeg (X4_pointOf_v pts lns ltr inw lo lt))) 1))), (8, (zI G 5 ((updR wd (lns - 1) (upd (wd (lns - 1)) (sz (lns - 1)).toNatClampNeg (X4_pointOf_v pts lns ltr inw lo lt))) 2))), (9, (zI G 5 ((updR wd (lns - 1) (upd (wd (lns - 1)) (sz (lns - 1)).toNatClampNeg (X4_pointOf_v pts lns ltr inw lo lt))) 3))), (10, (zI G 5 ((updR wd (lns - 1) (upd (wd (lns - 1)) (sz (lns - 1)).toNatClampNeg (X4_pointOf_v pts lns ltr inw lo lt))) 4))), (11, (zI G 5 ((updR wd (lns - 1) (upd (wd (lns - 1)) (sz (lns - 1)).toNatClampNeg (X4_pointOf_v pts lns ltr inw lo lt))) 5))), (12, (zI G 5 ((updR wd (lns - 1) (upd (wd (lns - 1)) (sz (lns - 1)).toNatClampNeg (X4_pointOf_v pts lns ltr inw lo lt))) 6))), (13, (zI G 5 ((updR wd (lns - 1) (upd (wd (lns - 1)) (sz (lns - 1)).toNatClampNeg (X4_pointOf_v pts lns ltr inw lo lt))) 7))), (14, (zI G 5 ((updR wd (lns - 1) (upd (wd (lns - 1)) (sz (lns - 1)).toNatClampNeg (X4_pointOf_v pts lns ltr inw lo lt))) 8))), (15, (zI G 5 ((updR wd (lns - 1) (upd (wd (lns - 1)) (sz (lns - 1)).toNatClampNeg (X4_pointOf_v pts lns ltr inw lo lt))) 9))), (16, (zI G 5 ((updR wd (lns - 1) (upd (wd (lns - 1)) (sz (lns - 1)).toNatClampNeg (X4_pointOf_v pts lns ltr inw lo lt))) 10))), (17, (zI G 5 ((updR wd (lns - 1) (upd (wd (lns - 1)) (sz (lns - 1)).toNatClampNeg (X4_pointOf_v pts lns ltr inw lo lt))) 11))), (18, (zI G 12 msk))]) rfl ?_
            refine z_aload_n dX4_addsLetter_88 rfl rfl ?_
            refine z_get dX4_addsLetter_89 rfl hiX4_addsLetter_X4 6 lkX4_addsLetter_33 (Nat.le_of_ble_eq_true rfl) rfl rfl (by decide) rfl ?_
            refine z_iload_n dX4_addsLetter_92 rfl rfl ?_
            refine z_dup2 dX4_addsLetter_93 rfl rfl rfl ?_
            refine z_ialdN (j := lns - 1) dX4_addsLetter_94 rfl (Nat.le_of_ble_eq_true rfl) rfl (rfl) (by omega) (by decide) ?_
            refine z_iconst (v := nI 1) dX4_addsLetter_95 rfl (by decide) ?_
            refine z_iload_n dX4_addsLetter_96 rfl rfl ?_
            refine z_ishl dX4_addsLetter_97 rfl ?_
            refine z_ior dX4_addsLetter_98 rfl ?_
            refine z_iastN (j := lns - 1) dX4_addsLetter_99 rfl (Nat.le_of_ble_eq_true rfl) rfl (rfl) (by omega) (by decide) ?_
            refine z_n (L' := [(2, (oTxt G 2 (nI (X4_pointOf_pT0_0 pts lns ltr inw lo lt)) (nI lns) (nI ltr) inw)), (3, (zI G 10 (X4_pointOf_cT1 pts lns ltr inw lo lt))), (4, (zI G 12 (upd sz (lns - 1) ((sz (lns - 1)) + (nI 1))))), (6, (zI G 5 ((updR wd (lns - 1) (upd (wd (lns - 1)) (sz (lns - 1)).toNatClampNeg (X4_pointOf_v pts lns ltr inw lo lt))) 0))), (7, (zI G 5 ((updR wd (lns - 1) (upd (wd (lns - 1)) (sz (lns - 1)).toNatClampNeg (X4_pointOf_v pts lns ltr inw lo lt))) 1))), (8, (zI G 5 ((updR wd (lns - 1) (upd (wd (lns - 1)) (sz (lns - 1)).toNatClampNeg (X4_pointOf_v pts lns ltr inw lo lt))) 2))), (9, (zI G 5 ((updR wd (lns - 1) (upd (wd (lns - 1)) (sz (lns - 1)).toNatClampNeg (X4_pointOf_v pts lns ltr inw lo lt))) 3))), (10, (zI G 5 ((updR wd (lns - 1) (upd (wd (lns - 1)) (sz (lns - 1)).toNatClampNeg (X4_pointOf_v pts lns ltr inw lo lt))) 4))), (11, (zI G 5 ((updR wd (lns - 1) (upd (wd (lns - 1)) (sz (lns - 1)).toNatClampNeg (X4_pointOf_v pts lns ltr inw lo lt))) 5))), (12, (zI G 5 ((updR wd (lns - 1) (upd (wd (lns - 1)) (sz (lns - 1)).toNatClampNeg (X4_pointOf_v pts lns ltr inw lo lt))) 6))), (13, (zI G 5 ((updR wd (lns - 1) (upd (wd (lns - 1)) (sz (lns - 1)).toNatClampNeg (X4_pointOf_v pts lns ltr inw lo lt))) 7))), (14, (zI G 5 ((updR wd (lns - 1) (upd (wd (lns - 1)) (sz (lns - 1)).toNatClampNeg (X4_pointOf_v pts lns ltr inw lo lt))) 8))), (15, (zI G 5 ((updR wd (lns - 1) (upd (wd (lns - 1)) (sz (lns - 1)).toNatClampNeg (X4_pointOf_v pts lns ltr inw lo lt))) 9))), (16, (zI G 5 ((updR wd (lns - 1) (upd (wd (lns - 1)) (sz (lns - 1)).toNatClampNeg (X4_pointOf_v pts lns ltr inw lo lt))) 10))), (17, (zI G 5 ((updR wd (lns - 1) (upd (wd (lns - 1)) (sz (lns - 1)).toNatClampNeg (X4_pointOf_v pts lns ltr inw lo lt))) 11))), (18, (zI G 12 (upd msk (lns - 1) ((msk (lns - 1)) ||| ((nI 1) <<< ((X4_pointOf_v pts lns ltr inw lo lt) &&& 31))))))]) rfl ?_
            refine z_aload_n dX4_addsLetter_100 rfl rfl ?_
            refine z_dup dX4_addsLetter_101 rfl rfl ?_
            refine z_get dX4_addsLetter_102 rfl hiX4_addsLetter_X4 2 lkX4_addsLetter_18 (Nat.le_of_ble_eq_true rfl) rfl rfl (by decide) rfl ?_
            refine z_iconst (v := nI 1) dX4_addsLetter_105 rfl (by decide) ?_
            refine z_iadd dX4_addsLetter_106 rfl ?_
            refine z_top (show (nI ltr) + (nI 1) = nI (ltr + 1) from (zq_add rfl rfl)) ?_
            refine z_putN (e9 := (oTxt G 2 (nI (X4_pointOf_pT0_0 pts lns ltr inw lo lt)) (nI lns) (nI (ltr + 1)) inw)) tyX4 tyX4_ok nmX4 dX4_addsLetter_107 rfl hiX4_addsLetter_X4 2 lkX4_addsLetter_18 rfl (by decide +kernel) (Nat.le_of_ble_eq_true rfl) rfl rfl (by decide) (Nat.le_of_ble_eq_true rfl) rfl rfl rfl ?_
            refine z_n (L' := [(2, (oTxt G 2 (nI (X4_pointOf_pT0_0 pts lns ltr inw lo lt)) (nI lns) (nI (ltr + 1)) inw)), (3, (zI G 10 (X4_pointOf_cT1 pts lns ltr inw lo lt))), (4, (zI G 12 (upd sz (lns - 1) ((sz (lns - 1)) + (nI 1))))), (6, (zI G 5 ((updR wd (lns - 1) (upd (wd (lns - 1)) (sz (lns - 1)).toNatClampNeg (X4_pointOf_v pts lns ltr inw lo lt))) 0))), (7, (zI G 5 ((updR wd (lns - 1) (upd (wd (lns - 1)) (sz (lns - 1)).toNatClampNeg (X4_pointOf_v pts lns ltr inw lo lt))) 1))), (8, (zI G 5 ((updR wd (lns - 1) (upd (wd (lns - 1)) (sz (lns - 1)).toNatClampNeg (X4_pointOf_v pts lns ltr inw lo lt))) 2))), (9, (zI G 5 ((updR wd (lns - 1) (upd (wd (lns - 1)) (sz (lns - 1)).toNatClampNeg (X4_pointOf_v pts lns ltr inw lo lt))) 3))), (10, (zI G 5 ((updR wd (lns - 1) (upd (wd (lns - 1)) (sz (lns - 1)).toNatClampNeg (X4_pointOf_v pts lns ltr inw lo lt))) 4))), (11, (zI G 5 ((updR wd (lns - 1) (upd (wd (lns - 1)) (sz (lns - 1)).toNatClampNeg (X4_pointOf_v pts lns ltr inw lo lt))) 5))), (12, (zI G 5 ((updR wd (lns - 1) (upd (wd (lns - 1)) (sz (lns - 1)).toNatClampNeg (X4_pointOf_v pts lns ltr inw lo lt))) 6))), (13, (zI G 5 ((updR wd (lns - 1) (upd (wd (lns - 1)) (sz (lns - 1)).toNatClampNeg (X4_pointOf_v pts lns ltr inw lo lt))) 7))), (14, (zI G 5 ((updR wd (lns - 1) (upd (wd (lns - 1)) (sz (lns - 1)).toNatClampNeg (X4_pointOf_v pts lns ltr inw lo lt))) 8))), (15, (zI G 5 ((updR wd (lns - 1) (upd (wd (lns - 1)) (sz (lns - 1)).toNatClampNeg (X4_pointOf_v pts lns ltr inw lo lt))) 9))), (16, (zI G 5 ((updR wd (lns - 1) (upd (wd (lns - 1)) (sz (lns - 1)).toNatClampNeg (X4_pointOf_v pts lns ltr inw lo lt))) 10))), (17, (zI G 5 ((updR wd (lns - 1) (upd (wd (lns - 1)) (sz (lns - 1)).toNatClampNeg (X4_pointOf_v pts lns ltr inw lo lt))) 11))), (18, (zI G 12 (upd msk (lns - 1) ((msk (lns - 1)) ||| ((nI 1) <<< ((X4_pointOf_v pts lns ltr inw lo lt) &&& 31))))))]) rfl ?_
            refine z_iconst (v := nI 1) dX4_addsLetter_110 rfl (by decide) ?_
            exact z_ireturn dX4_addsLetter_111 rfl rfl (Nat.le_refl _) (Nat.le_refl _) (fun _ => rfl) ⟨by simp only [X4_addsLetter_v, if_neg c3, if_neg c9, if_neg c16, if_neg c48, if_pos c59], by simp only [X4_addsLetter_pT0_0, X4_addsLetter_pT0_1, X4_addsLetter_pT0_2, X4_addsLetter_pT0_3, X4_addsLetter_cT1, X4_addsLetter_cT2, X4_addsLetter_cT4, X4_addsLetter_cT16, if_neg c3, if_neg c9, if_neg c16, if_neg c48, if_pos c59]⟩
          · refine z_iconst (v := nI 0) dX4_addsLetter_62 rfl (by decide) ?_
            exact z_ireturn dX4_addsLetter_63 rfl rfl (Nat.le_refl _) (Nat.le_refl _) (fun _ => rfl) ⟨by simp only [X4_addsLetter_v, if_neg c3, if_neg c9, if_neg c16, if_neg c48, if_neg c59], by simp only [X4_addsLetter_pT0_0, X4_addsLetter_pT0_1, X4_addsLetter_pT0_2, X4_addsLetter_pT0_3, X4_addsLetter_cT1, X4_addsLetter_cT2, X4_addsLetter_cT4, X4_addsLetter_cT16, if_neg c3, if_neg c9, if_neg c16, if_neg c48, if_neg c59]⟩
      · refine z_aload_n dX4_addsLetter_19 rfl rfl ?_
        refine z_callVi (c_X4_startsWord_2 G ex _ pts lns ltr inw sz msk (by omega) rfl rfl rfl) gX4_addsLetter_X4_startsWord rfl dX4_addsLetter_20 rfl rfl rfl okk_X4_startsWord (Nat.le_of_ble_eq_true rfl) rfl rfl ⟨Nat.le_of_ble_eq_true rfl, Nat.le_of_ble_eq_true rfl⟩ ⟨Nat.le_of_ble_eq_true rfl, Nat.le_of_ble_eq_true rfl⟩ (Nat.le_of_ble_eq_true rfl) ?_
        refine z_nn (L' := [(2, (oTxt G 2 (nI pts) (nI (X4_startsWord_pT0_1 lns)) (nI ltr) (X4_startsWord_pT0_3 lns inw))), (3, (zI G 10 lo)), (4, (zI G 12 (X4_startsWord_cT2 lns sz))), (6, (zI G 5 (wd 0))), (7, (zI G 5 (wd 1))), (8, (zI G 5 (wd 2))), (9, (zI G 5 (wd 3))), (10, (zI G 5 (wd 4))), (11, (zI G 5 (wd 5))), (12, (zI G 5 (wd 6))), (13, (zI G 5 (wd 7))), (14, (zI G 5 (wd 8))), (15, (zI G 5 (wd 9))), (16, (zI G 5 (wd 10))), (17, (zI G 5 (wd 11))), (18, (zI G 12 (X4_startsWord_cT16 lns msk)))]) rfl ?_
        refine z_if_ne (tgt := 28) dX4_addsLetter_23 rfl (by decide) (fun c23 => ?_) (fun c23 => ?_)
        · have hl12 : lns < 12 := startsWord_ok hl c23
          rw [startsWord_l hl12, startsWord_w hl12, startsWord_s hl12, startsWord_m hl12]
          have hsz9 : ∀ l, l < lns + 1 → vp_in (upd sz lns (nI 0) l) 6 := fun l h9 => by
            simp only [upd]
            split
            · exact vp_in_nI (by decide) (by decide)
            · exact hsz l (by omega)
          refine z_aload_n dX4_addsLetter_28 rfl rfl ?_
          refine z_get dX4_addsLetter_29 rfl hiX4_addsLetter_X4 1 lkX4_addsLetter_15 (Nat.le_of_ble_eq_true rfl) rfl rfl (by decide) rfl ?_
          refine z_iconst (v := nI 1) dX4_addsLetter_32 rfl (by decide) ?_
          refine z_isub dX4_addsLetter_33 rfl ?_
          refine z_top (show (nI (lns + 1)) - (nI 1) = nI ((lns + 1) - 1) from (zq_sub rfl rfl (by omega))) ?_
          refine z_istore_2 dX4_addsLetter_34 rfl ?_
          refine z_aload_n dX4_addsLetter_35 rfl rfl ?_
          refine z_iload_n dX4_addsLetter_36 rfl rfl ?_
          refine z_callVi (c_X4_pointOf_2 G ex _ pts (lns + 1) ltr (nI 1) lo lt (by omega) (hroom (Int32.not_lt.mp c3) (Int32.not_lt.mp c9)) rfl rfl) gX4_addsLetter_X4_pointOf rfl dX4_addsLetter_37 rfl rfl rfl okk_X4_pointOf (Nat.le_of_ble_eq_true rfl) rfl rfl ⟨Nat.le_of_ble_eq_true rfl, Nat.le_of_ble_eq_true rfl⟩ ⟨Nat.le_of_ble_eq_true rfl, Nat.le_of_ble_eq_true rfl⟩ (Nat.le_of_ble_eq_true rfl) ?_
          refine z_nn (L' := [(2, (oTxt G 2 (nI (X4_pointOf_pT0_0 pts (lns + 1) ltr (nI 1) lo lt)) (nI (lns + 1)) (nI ltr) (nI 1))), (3, (zI G 10 (X4_pointOf_cT1 pts (lns + 1) ltr (nI 1) lo lt))), (4, (zI G 12 (upd sz lns (nI 0)))), (6, (zI G 5 (wd 0))), (7, (zI G 5 (wd 1))), (8, (zI G 5 (wd 2))), (9, (zI G 5 (wd 3))), (10, (zI G 5 (wd 4))), (11, (zI G 5 (wd 5))), (12, (zI G 5 (wd 6))), (13, (zI G 5 (wd 7))), (14, (zI G 5 (wd 8))), (15, (zI G 5 (wd 9))), (16, (zI G 5 (wd 10))), (17, (zI G 5 (wd 11))), (18, (zI G 12 (upd msk lns (nI 0))))]) rfl ?_
          refine z_istore_3 dX4_addsLetter_40 rfl ?_
          refine z_aload_n dX4_addsLetter_41 rfl rfl ?_
          refine z_get dX4_addsLetter_42 rfl hiX4_addsLetter_X4 4 lkX4_addsLetter_25 (Nat.le_of_ble_eq_true rfl) rfl rfl (by decide) rfl ?_
          refine z_iload_n dX4_addsLetter_45 rfl rfl ?_
          refine z_ialdN (j := (lns + 1) - 1) dX4_addsLetter_46 rfl (Nat.le_of_ble_eq_true rfl) rfl (rfl) (by omega) (by decide) ?_
          refine z_iconst (v := nI 5) dX4_addsLetter_47 rfl (by decide) ?_
          refine z_icmp_ge (tgt := 62) dX4_addsLetter_48 rfl (by decide) (fun c48 => ?_) (fun c48 => ?_)
          · refine z_iconst (v := nI 0) dX4_addsLetter_62 rfl (by decide) ?_
            exact z_ireturn dX4_addsLetter_63 rfl rfl (Nat.le_refl _) (Nat.le_refl _) (fun _ => rfl) ⟨by simp only [X4_addsLetter_v, if_neg c3, if_neg c9, if_pos c16, if_neg c23, if_pos c48], by simp only [X4_addsLetter_pT0_0, X4_addsLetter_pT0_1, X4_addsLetter_pT0_2, X4_addsLetter_pT0_3, X4_addsLetter_cT1, X4_addsLetter_cT2, X4_addsLetter_cT4, X4_addsLetter_cT16, if_neg c3, if_neg c9, if_pos c16, if_neg c23, if_pos c48]⟩
          · refine z_aload_n dX4_addsLetter_51 rfl rfl ?_
            refine z_iload_n dX4_addsLetter_52 rfl rfl ?_
            refine z_iconst (v := nI 1) dX4_addsLetter_53 rfl (by decide) ?_
            refine z_iload_n dX4_addsLetter_54 rfl rfl ?_
            refine z_ishl dX4_addsLetter_55 rfl ?_
            refine z_callVi (c_X4_clashes_2 G ex _ (X4_pointOf_pT0_0 pts (lns + 1) ltr (nI 1) lo lt) (lns + 1) ltr (nI 1) (upd msk lns (nI 0)) ((lns + 1) - 1) ((nI 1) <<< ((X4_pointOf_v pts (lns + 1) ltr (nI 1) lo lt) &&& 31)) (by omega) rfl rfl) gX4_addsLetter_X4_clashes rfl dX4_addsLetter_56 rfl rfl rfl okk_X4_clashes (Nat.le_of_ble_eq_true rfl) rfl rfl ⟨Nat.le_of_ble_eq_true rfl, Nat.le_of_ble_eq_true rfl⟩ ⟨Nat.le_of_ble_eq_true rfl, Nat.le_of_ble_eq_true rfl⟩ (Nat.le_of_ble_eq_true rfl) ?_
            refine z_if_eq (tgt := 64) dX4_addsLetter_59 rfl (by decide) (fun c59 => ?_) (fun c59 => ?_)
            · refine z_aload_n dX4_addsLetter_64 rfl rfl ?_
              refine z_get dX4_addsLetter_65 rfl hiX4_addsLetter_X4 5 lkX4_addsLetter_30 (Nat.le_of_ble_eq_true rfl) rfl rfl (by decide) rfl ?_
              refine z_iload_n dX4_addsLetter_68 rfl rfl ?_
              refine z_aaldN (j := (lns + 1) - 1) (a := zB G + (6 + ((lns + 1) - 1))) dX4_addsLetter_69 rfl (Nat.le_of_ble_eq_true rfl) h5 (rfl) (by omega) (by decide) (zrw_at (by omega)) ?_
              refine z_aload_n dX4_addsLetter_70 rfl rfl ?_
              refine z_get dX4_addsLetter_71 rfl hiX4_addsLetter_X4 4 lkX4_addsLetter_25 (Nat.le_of_ble_eq_true rfl) rfl rfl (by decide) rfl ?_
              refine z_iload_n dX4_addsLetter_74 rfl rfl ?_
              refine z_ialdN (j := (lns + 1) - 1) dX4_addsLetter_75 rfl (Nat.le_of_ble_eq_true rfl) rfl (rfl) (by omega) (by decide) ?_
              refine z_iload_n dX4_addsLetter_76 rfl rfl ?_
              refine z_iast dX4_addsLetter_77 rfl (zk12 (by omega) (by decide)) (zw12 (P := fun l9 => zus g [(2, (oTxt G 2 (nI (X4_pointOf_pT0_0 pts (lns + 1) ltr (nI 1) lo lt)) (nI (lns + 1)) (nI ltr) (nI 1))), (3, (zI G 10 (X4_pointOf_cT1 pts (lns + 1) ltr (nI 1) lo lt))), (4, (zI G 12 (upd sz lns (nI 0)))), (6, (zI G 5 (wd 0))), (7, (zI G 5 (wd 1))), (8, (zI G 5 (wd 2))), (9, (zI G 5 (wd 3))), (10, (zI G 5 (wd 4))), (11, (zI G 5 (wd 5))), (12, (zI G 5 (wd 6))), (13, (zI G 5 (wd 7))), (14, (zI G 5 (wd 8))), (15, (zI G 5 (wd 9))), (16, (zI G 5 (wd 10))), (17, (zI G 5 (wd 11))), (18, (zI G 12 (upd msk lns (nI 0))))] (6 + l9) = zI G 5 (wd l9)) rfl rfl rfl rfl rfl rfl rfl rfl rfl rfl rfl rfl _ (by omega)) (vp_in5 (hsz9 _ (by omega)) c48) ?_
              refine z_n (L' := [(2, (oTxt G 2 (nI (X4_pointOf_pT0_0 pts (lns + 1) ltr (nI 1) lo lt)) (nI (lns + 1)) (nI ltr) (nI 1))), (3, (zI G 10 (X4_pointOf_cT1 pts (lns + 1) ltr (nI 1) lo lt))), (4, (zI G 12 (upd sz lns (nI 0)))), (6, (zI G 5 ((updR wd ((lns + 1) - 1) (upd (wd ((lns + 1) - 1)) ((upd sz lns (nI 0)) ((lns + 1) - 1)).toNatClampNeg (X4_pointOf_v pts (lns + 1) ltr (nI 1) lo lt))) 0))), (7, (zI G 5 ((updR wd ((lns + 1) - 1) (upd (wd ((lns + 1) - 1)) ((upd sz lns (nI 0)) ((lns + 1) - 1)).toNatClampNeg (X4_pointOf_v pts (lns + 1) ltr (nI 1) lo lt))) 1))), (8, (zI G 5 ((updR wd ((lns + 1) - 1) (upd (wd ((lns + 1) - 1)) ((upd sz lns (nI 0)) ((lns + 1) - 1)).toNatClampNeg (X4_pointOf_v pts (lns + 1) ltr (nI 1) lo lt))) 2))), (9, (zI G 5 ((updR wd ((lns + 1) - 1) (upd (wd ((lns + 1) - 1)) ((upd sz lns (nI 0)) ((lns + 1) - 1)).toNatClampNeg (X4_pointOf_v pts (lns + 1) ltr (nI 1) lo lt))) 3))), (10, (zI G 5 ((updR wd ((lns + 1) - 1) (upd (wd ((lns + 1) - 1)) ((upd sz lns (nI 0)) ((lns + 1) - 1)).toNatClampNeg (X4_pointOf_v pts (lns + 1) ltr (nI 1) lo lt))) 4))), (11, (zI G 5 ((updR wd ((lns + 1) - 1) (upd (wd ((lns + 1) - 1)) ((upd sz lns (nI 0)) ((lns + 1) - 1)).toNatClampNeg (X4_pointOf_v pts (lns + 1) ltr (nI 1) lo lt))) 5))), (12, (zI G 5 ((updR wd ((lns + 1) - 1) (upd (wd ((lns + 1) - 1)) ((upd sz lns (nI 0)) ((lns + 1) - 1)).toNatClampNeg (X4_pointOf_v pts (lns + 1) ltr (nI 1) lo lt))) 6))), (13, (zI G 5 ((updR wd ((lns + 1) - 1) (upd (wd ((lns + 1) - 1)) ((upd sz lns (nI 0)) ((lns + 1) - 1)).toNatClampNeg (X4_pointOf_v pts (lns + 1) ltr (nI 1) lo lt))) 7))), (14, (zI G 5 ((updR wd ((lns + 1) - 1) (upd (wd ((lns + 1) - 1)) ((upd sz lns (nI 0)) ((lns + 1) - 1)).toNatClampNeg (X4_pointOf_v pts (lns + 1) ltr (nI 1) lo lt))) 8))), (15, (zI G 5 ((updR wd ((lns + 1) - 1) (upd (wd ((lns + 1) - 1)) ((upd sz lns (nI 0)) ((lns + 1) - 1)).toNatClampNeg (X4_pointOf_v pts (lns + 1) ltr (nI 1) lo lt))) 9))), (16, (zI G 5 ((updR wd ((lns + 1) - 1) (upd (wd ((lns + 1) - 1)) ((upd sz lns (nI 0)) ((lns + 1) - 1)).toNatClampNeg (X4_pointOf_v pts (lns + 1) ltr (nI 1) lo lt))) 10))), (17, (zI G 5 ((updR wd ((lns + 1) - 1) (upd (wd ((lns + 1) - 1)) ((upd sz lns (nI 0)) ((lns + 1) - 1)).toNatClampNeg (X4_pointOf_v pts (lns + 1) ltr (nI 1) lo lt))) 11))), (18, (zI G 12 (upd msk lns (nI 0))))]) (zw12 (P := fun l9 => zsl [(2, (oTxt G 2 (nI (X4_pointOf_pT0_0 pts (lns + 1) ltr (nI 1) lo lt)) (nI (lns + 1)) (nI ltr) (nI 1))), (3, (zI G 10 (X4_pointOf_cT1 pts (lns + 1) ltr (nI 1) lo lt))), (4, (zI G 12 (upd sz lns (nI 0)))), (6, (zI G 5 (wd 0))), (7, (zI G 5 (wd 1))), (8, (zI G 5 (wd 2))), (9, (zI G 5 (wd 3))), (10, (zI G 5 (wd 4))), (11, (zI G 5 (wd 5))), (12, (zI G 5 (wd 6))), (13, (zI G 5 (wd 7))), (14, (zI G 5 (wd 8))), (15, (zI G 5 (wd 9))), (16, (zI G 5 (wd 10))), (17, (zI G 5 (wd 11))), (18, (zI G 12 (upd msk lns (nI 0))))] (6 + l9) (zI G 5 (upd (wd ((lns + 1) - 1)) ((upd sz lns (nI 0)) ((lns + 1) - 1)).toNatClampNeg (X4_pointOf_v pts (lns + 1) ltr (nI 1) lo lt))) = [(2, (oTxt G 2 (nI (X4_pointOf_pT0_0 pts (lns + 1) ltr (nI 1) lo lt)) (nI (lns + 1)) (nI ltr) (nI 1))), (3, (zI G 10 (X4_pointOf_cT1 pts (lns + 1) ltr (nI 1) lo lt))), (4, (zI G 12 (upd sz lns (nI 0)))), (6, (zI G 5 ((updR wd l9 (upd (wd ((lns + 1) - 1)) ((upd sz lns (nI 0)) ((lns + 1) - 1)).toNatClampNeg (X4_pointOf_v pts (lns + 1) ltr (nI 1) lo lt))) 0))), (7, (zI G 5 ((updR wd l9 (upd (wd ((lns + 1) - 1)) ((upd sz lns (nI 0)) ((lns + 1) - 1)).toNatClampNeg (X4_pointOf_v pts (lns + 1) ltr (nI 1) lo lt))) 1))), (8, (zI G 5 ((updR wd l9 (upd (wd ((lns + 1) - 1)) ((upd sz lns (nI 0)) ((lns + 1) - 1)).toNatClampNeg (X4_pointOf_v pts (lns + 1) ltr (nI 1) lo lt))) 2))), (9, (zI G 5 ((updR wd l9 (upd (wd ((lns + 1) - 1)) ((upd sz lns (nI 0)) ((lns + 1) - 1)).toNatClampNeg (X4_pointOf_v pts (lns + 1) ltr (nI 1) lo lt))) 3))), (10, (zI G 5 ((updR wd l9 (upd (wd ((lns + 1) - 1)) ((upd sz lns (nI 0)) ((lns + 1) - 1)).toNatClampNeg (X4_pointOf_v pts (lns + 1) ltr (nI 1) lo lt))) 4))), (11, (zI G 5 ((updR wd l9 (upd (wd ((lns + 1) - 1)) ((upd sz lns (nI 0)) ((lns + 1) - 1)).toNatClampNeg (X4_pointOf_v pts (lns + 1) ltr (nI 1) lo lt))) 5))), (12, (zI G 5 ((updR wd l9 (upd (wd ((lns + 1) - 1)) ((upd sz lns (nI 0)) ((lns + 1) - 1)).toNatClampNeg (X4_pointOf_v pts (lns + 1) ltr (nI 1) lo lt))) 6))), (13, (zI G 5 ((updR wd l9 (upd (wd ((lns + 1) - 1)) ((upd sz lns (nI 0)) ((lns + 1) - 1)).toNatClampNeg (X4_pointOf_v pts (lns + 1) ltr (nI 1) lo lt))) 7))), (14, (zI G 5 ((updR wd l9 (upd (wd ((lns + 1) - 1)) ((upd sz lns (nI 0)) ((lns + 1) - 1)).toNatClampNeg (X4_pointOf_v pts (lns + 1) ltr (nI 1) lo lt))) 8))), (15, (zI G 5 ((updR wd l9 (upd (wd ((lns + 1) - 1)) ((upd sz lns (nI 0)) ((lns + 1) - 1)).toNatClampNeg (X4_pointOf_v pts (lns + 1) ltr (nI 1) lo lt))) 9))), (16, (zI G 5 ((updR wd l9 (upd (wd ((lns + 1) - 1)) ((upd sz lns (nI 0)) ((lns + 1) - 1)).toNatClampNeg (X4_pointOf_v pts (lns + 1) ltr (nI 1) lo lt))) 10))), (17, (zI G 5 ((updR wd l9 (upd (wd ((lns + 1) - 1)) ((upd sz lns (nI 0)) ((lns + 1) - 1)).toNatClampNeg (X4_pointOf_v pts (lns + 1) ltr (nI 1) lo lt))) 11))), (18, (zI G 12 (upd msk lns (nI 0))))]) rfl rfl rfl rfl rfl rfl rfl rfl rfl rfl rfl rfl _ (by omega)) ?_
              refine z_aload_n dX4_addsLetter_78 rfl rfl ?_
              refine z_get dX4_addsLetter_79 rfl hiX4_addsLetter_X4 4 lkX4_addsLetter_25 (Nat.le_of_ble_eq_true rfl) rfl rfl (by decide) rfl ?_
              refine z_iload_n dX4_addsLetter_82 rfl rfl ?_
              refine z_dup2 dX4_addsLetter_83 rfl rfl rfl ?_
              refine z_ialdN (j := (lns + 1) - 1) dX4_addsLetter_84 rfl (Nat.le_of_ble_eq_true rfl) rfl (rfl) (by omega) (by decide) ?_
              refine z_iconst (v := nI 1) dX4_addsLetter_85 rfl (by decide) ?_
              refine z_iadd dX4_addsLetter_86 rfl ?_
              refine z_iastN (j := (lns + 1) - 1) dX4_addsLetter_87 rfl (Nat.le_of_ble_eq_true rfl) rfl (rfl) (by omega) (by decide) ?_
              refine z_n (L' := [(2, (oTxt G 2 (nI (X4_pointOf_pT0_0 pts (lns + 1) ltr (nI 1) lo lt)) (nI (lns + 1)) (nI ltr) (nI 1))), (3, (zI G 10 (X4_pointOf_cT1 pts (lns + 1) ltr (nI 1) lo lt))), (4, (zI G 12 (upd (upd sz lns (nI 0)) ((lns + 1) - 1) (((upd sz lns (nI 0)) ((lns + 1) - 1)) + (nI 1))))), (6, (zI G 5 ((updR wd ((lns + 1) - 1) (upd (wd ((lns + 1) - 1)) ((upd sz lns (nI 0)) ((lns + 1) - 1)).toNatClampNeg (X4_pointOf_v pts (lns + 1) ltr (nI 1) lo lt))) 0))), (7, (zI G 5 ((updR wd ((lns + 1) - 1) (upd (wd ((lns + 1) - 1)) ((upd sz lns (nI 0)) ((lns + 1) - 1)).toNatClampNeg (X4_pointOf_v pts (lns + 1) ltr (nI 1) lo lt))) 1))), (8, (zI G 5 ((updR wd ((lns + 1) - 1) (upd (wd ((lns + 1) - 1)) ((upd sz lns (nI 0)) ((lns + 1) - 1)).toNatClampNeg (X4_pointOf_v pts (lns + 1) ltr (nI 1) lo lt))) 2))), (9, (zI G 5 ((updR wd ((lns + 1) - 1) (upd (wd ((lns + 1) - 1)) ((upd sz lns (nI 0)) ((lns + 1) - 1)).toNatClampNeg (X4_pointOf_v pts (lns + 1) ltr (nI 1) lo lt))) 3))), (10, (zI G 5 ((updR wd ((lns + 1) - 1) (upd (wd ((lns + 1) - 1)) ((upd sz lns (nI 0)) ((lns + 1) - 1)).toNatClampNeg (X4_pointOf_v pts (lns + 1) ltr (nI 1) lo lt))) 4))), (11, (zI G 5 ((updR wd ((lns + 1) - 1) (upd (wd ((lns + 1) - 1)) ((upd sz lns (nI 0)) ((lns + 1) - 1)).toNatClampNeg (X4_pointOf_v pts (lns + 1) ltr (nI 1) lo lt))) 5))), (12, (zI G 5 ((updR wd ((lns + 1) - 1) (upd (wd ((lns + 1) - 1)) ((upd sz lns (nI 0)) ((lns + 1) - 1)).toNatClampNeg (X4_pointOf_v pts (lns + 1) ltr (nI 1) lo lt))) 6))), (13, (zI G 5 ((updR wd ((lns + 1) - 1) (upd (wd ((lns + 1) - 1)) ((upd sz lns (nI 0)) ((lns + 1) - 1)).toNatClampNeg (X4_pointOf_v pts (lns + 1) ltr (nI 1) lo lt))) 7))), (14, (zI G 5 ((updR wd ((lns + 1) - 1) (upd (wd ((lns + 1) - 1)) ((upd sz lns (nI 0)) ((lns + 1) - 1)).toNatClampNeg (X4_pointOf_v pts (lns + 1) ltr (nI 1) lo lt))) 8))), (15, (zI G 5 ((updR wd ((lns + 1) - 1) (upd (wd ((lns + 1) - 1)) ((upd sz lns (nI 0)) ((lns + 1) - 1)).toNatClampNeg (X4_pointOf_v pts (lns + 1) ltr (nI 1) lo lt))) 9))), (16, (zI G 5 ((updR wd ((lns + 1) - 1) (upd (wd ((lns + 1) - 1)) ((upd sz lns (nI 0)) ((lns + 1) - 1)).toNatClampNeg (X4_pointOf_v pts (lns + 1) ltr (nI 1) lo lt))) 10))), (17, (zI G 5 ((updR wd ((lns + 1) - 1) (upd (wd ((lns + 1) - 1)) ((upd sz lns (nI 0)) ((lns + 1) - 1)).toNatClampNeg (X4_pointOf_v pts (lns + 1) ltr (nI 1) lo lt))) 11))), (18, (zI G 12 (upd msk lns (nI 0))))]) rfl ?_
              refine z_aload_n dX4_addsLetter_88 rfl rfl ?_
              refine z_get dX4_addsLetter_89 rfl hiX4_addsLetter_X4 6 lkX4_addsLetter_33 (Nat.le_of_ble_eq_true rfl) rfl rfl (by decide) rfl ?_
              refine z_iload_n dX4_addsLetter_92 rfl rfl ?_
              refine z_dup2 dX4_addsLetter_93 rfl rfl rfl ?_
              refine z_ialdN (j := (lns + 1) - 1) dX4_addsLetter_94 rfl (Nat.le_of_ble_eq_true rfl) rfl (rfl) (by omega) (by decide) ?_
              refine z_iconst (v := nI 1) dX4_addsLetter_95 rfl (by decide) ?_
              refine z_iload_n dX4_addsLetter_96 rfl rfl ?_
              refine z_ishl dX4_addsLetter_97 rfl ?_
              refine z_ior dX4_addsLetter_98 rfl ?_
              refine z_iastN (j := (lns + 1) - 1) dX4_addsLetter_99 rfl (Nat.le_of_ble_eq_true rfl) rfl (rfl) (by omega) (by decide) ?_
              refine z_n (L' := [(2, (oTxt G 2 (nI (X4_pointOf_pT0_0 pts (lns + 1) ltr (nI 1) lo lt)) (nI (lns + 1)) (nI ltr) (nI 1))), (3, (zI G 10 (X4_pointOf_cT1 pts (lns + 1) ltr (nI 1) lo lt))), (4, (zI G 12 (upd (upd sz lns (nI 0)) ((lns + 1) - 1) (((upd sz lns (nI 0)) ((lns + 1) - 1)) + (nI 1))))), (6, (zI G 5 ((updR wd ((lns + 1) - 1) (upd (wd ((lns + 1) - 1)) ((upd sz lns (nI 0)) ((lns + 1) - 1)).toNatClampNeg (X4_pointOf_v pts (lns + 1) ltr (nI 1) lo lt))) 0))), (7, (zI G 5 ((updR wd ((lns + 1) - 1) (upd (wd ((lns + 1) - 1)) ((upd sz lns (nI 0)) ((lns + 1) - 1)).toNatClampNeg (X4_pointOf_v pts (lns + 1) ltr (nI 1) lo lt))) 1))), (8, (zI G 5 ((updR wd ((lns + 1) - 1) (upd (wd ((lns + 1) - 1)) ((upd sz lns (nI 0)) ((lns + 1) - 1)).toNatClampNeg (X4_pointOf_v pts (lns + 1) ltr (nI 1) lo lt))) 2))), (9, (zI G 5 ((updR wd ((lns + 1) - 1) (upd (wd ((lns + 1) - 1)) ((upd sz lns (nI 0)) ((lns + 1) - 1)).toNatClampNeg (X4_pointOf_v pts (lns + 1) ltr (nI 1) lo lt))) 3))), (10, (zI G 5 ((updR wd ((lns + 1) - 1) (upd (wd ((lns + 1) - 1)) ((upd sz lns (nI 0)) ((lns + 1) - 1)).toNatClampNeg (X4_pointOf_v pts (lns + 1) ltr (nI 1) lo lt))) 4))), (11, (zI G 5 ((updR wd ((lns + 1) - 1) (upd (wd ((lns + 1) - 1)) ((upd sz lns (nI 0)) ((lns + 1) - 1)).toNatClampNeg (X4_pointOf_v pts (lns + 1) ltr (nI 1) lo lt))) 5))), (12, (zI G 5 ((updR wd ((lns + 1) - 1) (upd (wd ((lns + 1) - 1)) ((upd sz lns (nI 0)) ((lns + 1) - 1)).toNatClampNeg (X4_pointOf_v pts (lns + 1) ltr (nI 1) lo lt))) 6))), (13, (zI G 5 ((updR wd ((lns + 1) - 1) (upd (wd ((lns + 1) - 1)) ((upd sz lns (nI 0)) ((lns + 1) - 1)).toNatClampNeg (X4_pointOf_v pts (lns + 1) ltr (nI 1) lo lt))) 7))), (14, (zI G 5 ((updR wd ((lns + 1) - 1) (upd (wd ((lns + 1) - 1)) ((upd sz lns (nI 0)) ((lns + 1) - 1)).toNatClampNeg (X4_pointOf_v pts (lns + 1) ltr (nI 1) lo lt))) 8))), (15, (zI G 5 ((updR wd ((lns + 1) - 1) (upd (wd ((lns + 1) - 1)) ((upd sz lns (nI 0)) ((lns + 1) - 1)).toNatClampNeg (X4_pointOf_v pts (lns + 1) ltr (nI 1) lo lt))) 9))), (16, (zI G 5 ((updR wd ((lns + 1) - 1) (upd (wd ((lns + 1) - 1)) ((upd sz lns (nI 0)) ((lns + 1) - 1)).toNatClampNeg (X4_pointOf_v pts (lns + 1) ltr (nI 1) lo lt))) 10))), (17, (zI G 5 ((updR wd ((lns + 1) - 1) (upd (wd ((lns + 1) - 1)) ((upd sz lns (nI 0)) ((lns + 1) - 1)).toNatClampNeg (X4_pointOf_v pts (lns + 1) ltr (nI 1) lo lt))) 11))), (18, (zI G 12 (upd (upd msk lns (nI 0)) ((lns + 1) - 1) (((upd msk lns (nI 0)) ((lns + 1) - 1)) ||| ((nI 1) <<< ((X4_pointOf_v pts (lns + 1) ltr (nI 1) lo lt) &&& 31))))))]) rfl ?_
              refine z_aload_n dX4_addsLetter_100 rfl rfl ?_
              refine z_dup dX4_addsLetter_101 rfl rfl ?_
              refine z_get dX4_addsLetter_102 rfl hiX4_addsLetter_X4 2 lkX4_addsLetter_18 (Nat.le_of_ble_eq_true rfl) rfl rfl (by decide) rfl ?_
              refine z_iconst (v := nI 1) dX4_addsLetter_105 rfl (by decide) ?_
              refine z_iadd dX4_addsLetter_106 rfl ?_
              refine z_top (show (nI ltr) + (nI 1) = nI (ltr + 1) from (zq_add rfl rfl)) ?_
              refine z_putN (e9 := (oTxt G 2 (nI (X4_pointOf_pT0_0 pts (lns + 1) ltr (nI 1) lo lt)) (nI (lns + 1)) (nI (ltr + 1)) (nI 1))) tyX4 tyX4_ok nmX4 dX4_addsLetter_107 rfl hiX4_addsLetter_X4 2 lkX4_addsLetter_18 rfl (by decide +kernel) (Nat.le_of_ble_eq_true rfl) rfl rfl (by decide) (Nat.le_of_ble_eq_true rfl) rfl rfl rfl ?_
              refine z_n (L' := [(2, (oTxt G 2 (nI (X4_pointOf_pT0_0 pts (lns + 1) ltr (nI 1) lo lt)) (nI (lns + 1)) (nI (ltr + 1)) (nI 1))), (3, (zI G 10 (X4_pointOf_cT1 pts (lns + 1) ltr (nI 1) lo lt))), (4, (zI G 12 (upd (upd sz lns (nI 0)) ((lns + 1) - 1) (((upd sz lns (nI 0)) ((lns + 1) - 1)) + (nI 1))))), (6, (zI G 5 ((updR wd ((lns + 1) - 1) (upd (wd ((lns + 1) - 1)) ((upd sz lns (nI 0)) ((lns + 1) - 1)).toNatClampNeg (X4_pointOf_v pts (lns + 1) ltr (nI 1) lo lt))) 0))), (7, (zI G 5 ((updR wd ((lns + 1) - 1) (upd (wd ((lns + 1) - 1)) ((upd sz lns (nI 0)) ((lns + 1) - 1)).toNatClampNeg (X4_pointOf_v pts (lns + 1) ltr (nI 1) lo lt))) 1))), (8, (zI G 5 ((updR wd ((lns + 1) - 1) (upd (wd ((lns + 1) - 1)) ((upd sz lns (nI 0)) ((lns + 1) - 1)).toNatClampNeg (X4_pointOf_v pts (lns + 1) ltr (nI 1) lo lt))) 2))), (9, (zI G 5 ((updR wd ((lns + 1) - 1) (upd (wd ((lns + 1) - 1)) ((upd sz lns (nI 0)) ((lns + 1) - 1)).toNatClampNeg (X4_pointOf_v pts (lns + 1) ltr (nI 1) lo lt))) 3))), (10, (zI G 5 ((updR wd ((lns + 1) - 1) (upd (wd ((lns + 1) - 1)) ((upd sz lns (nI 0)) ((lns + 1) - 1)).toNatClampNeg (X4_pointOf_v pts (lns + 1) ltr (nI 1) lo lt))) 4))), (11, (zI G 5 ((updR wd ((lns + 1) - 1) (upd (wd ((lns + 1) - 1)) ((upd sz lns (nI 0)) ((lns + 1) - 1)).toNatClampNeg (X4_pointOf_v pts (lns + 1) ltr (nI 1) lo lt))) 5))), (12, (zI G 5 ((updR wd ((lns + 1) - 1) (upd (wd ((lns + 1) - 1)) ((upd sz lns (nI 0)) ((lns + 1) - 1)).toNatClampNeg (X4_pointOf_v pts (lns + 1) ltr (nI 1) lo lt))) 6))), (13, (zI G 5 ((updR wd ((lns + 1) - 1) (upd (wd ((lns + 1) - 1)) ((upd sz lns (nI 0)) ((lns + 1) - 1)).toNatClampNeg (X4_pointOf_v pts (lns + 1) ltr (nI 1) lo lt))) 7))), (14, (zI G 5 ((updR wd ((lns + 1) - 1) (upd (wd ((lns + 1) - 1)) ((upd sz lns (nI 0)) ((lns + 1) - 1)).toNatClampNeg (X4_pointOf_v pts (lns + 1) ltr (nI 1) lo lt))) 8))), (15, (zI G 5 ((updR wd ((lns + 1) - 1) (upd (wd ((lns + 1) - 1)) ((upd sz lns (nI 0)) ((lns + 1) - 1)).toNatClampNeg (X4_pointOf_v pts (lns + 1) ltr (nI 1) lo lt))) 9))), (16, (zI G 5 ((updR wd ((lns + 1) - 1) (upd (wd ((lns + 1) - 1)) ((upd sz lns (nI 0)) ((lns + 1) - 1)).toNatClampNeg (X4_pointOf_v pts (lns + 1) ltr (nI 1) lo lt))) 10))), (17, (zI G 5 ((updR wd ((lns + 1) - 1) (upd (wd ((lns + 1) - 1)) ((upd sz lns (nI 0)) ((lns + 1) - 1)).toNatClampNeg (X4_pointOf_v pts (lns + 1) ltr (nI 1) lo lt))) 11))), (18, (zI G 12 (upd (upd msk lns (nI 0)) ((lns + 1) - 1) (((upd msk lns (nI 0)) ((lns + 1) - 1)) ||| ((nI 1) <<< ((X4_pointOf_v pts (lns + 1) ltr (nI 1) lo lt) &&& 31))))))]) rfl ?_
              refine z_iconst (v := nI 1) dX4_addsLetter_110 rfl (by decide) ?_
              exact z_ireturn dX4_addsLetter_111 rfl rfl (Nat.le_refl _) (Nat.le_refl _) (fun _ => rfl) ⟨by simp only [X4_addsLetter_v, if_neg c3, if_neg c9, if_pos c16, if_neg c23, if_neg c48, if_pos c59], by simp only [X4_addsLetter_pT0_0, X4_addsLetter_pT0_1, X4_addsLetter_pT0_2, X4_addsLetter_pT0_3, X4_addsLetter_cT1, X4_addsLetter_cT2, X4_addsLetter_cT4, X4_addsLetter_cT16, if_neg c3, if_neg c9, if_pos c16, if_neg c23, if_neg c48, if_pos c59]⟩
            · refine z_iconst (v := nI 0) dX4_addsLetter_62 rfl (by decide) ?_
              exact z_ireturn dX4_addsLetter_63 rfl rfl (Nat.le_refl _) (Nat.le_refl _) (fun _ => rfl) ⟨by simp only [X4_addsLetter_v, if_neg c3, if_neg c9, if_pos c16, if_neg c23, if_neg c48, if_neg c59], by simp only [X4_addsLetter_pT0_0, X4_addsLetter_pT0_1, X4_addsLetter_pT0_2, X4_addsLetter_pT0_3, X4_addsLetter_cT1, X4_addsLetter_cT2, X4_addsLetter_cT4, X4_addsLetter_cT16, if_neg c3, if_neg c9, if_pos c16, if_neg c23, if_neg c48, if_neg c59]⟩
        · refine z_iconst (v := nI 0) dX4_addsLetter_26 rfl (by decide) ?_
          exact z_ireturn dX4_addsLetter_27 rfl rfl (Nat.le_refl _) (Nat.le_refl _) (fun _ => rfl) ⟨by simp only [X4_addsLetter_v, if_neg c3, if_neg c9, if_pos c16, if_pos c23], by simp only [X4_addsLetter_pT0_0, X4_addsLetter_pT0_1, X4_addsLetter_pT0_2, X4_addsLetter_pT0_3, X4_addsLetter_cT1, X4_addsLetter_cT2, X4_addsLetter_cT4, X4_addsLetter_cT16, if_neg c3, if_neg c9, if_pos c16, if_pos c23]⟩
set_option maxRecDepth 100000 in
set_option maxHeartbeats 4000000 in
theorem c_X4_hasPoint_19 (G : zG) (ex : Bool) (g : Nat → va_E) (pts lns ltr : Nat) (inw : Int32) (p : Int32)  (h19 : g 19 = (oTxt G 19 (nI pts) (nI lns) (nI ltr) inw)) : zC G yX4_hasPoint wsX4_hasPoint (zrm 0 0) ex [.ref (zB G + 19), .int p] (zN, g) (fun r h => r = some (.int (X4_hasPoint_v pts p)) ∧ h = (zN, g)) := by
  refine zC_of mX4_hasPoint (lv := [some (.ref (zB G + 19)), some (.int p)]) rfl rfl (by decide) (by intro v hv; simp at hv; rcases hv with rfl | rfl <;> rfl) (Nat.le_of_ble_eq_true rfl) rfl ?_
  refine z_0 ?_
  refine z_iload_n dX4_hasPoint_0 rfl rfl ?_
  refine z_if_lt (tgt := 16) dX4_hasPoint_1 rfl (by decide) (fun c1 => ?_) (fun c1 => ?_)
  · refine z_iconst (v := nI 0) dX4_hasPoint_16 rfl (by decide) ?_
    exact z_ireturn dX4_hasPoint_17 rfl rfl (Nat.le_refl _) (Nat.le_refl _) (fun _ => rfl) ⟨by simp only [X4_hasPoint_v, if_pos c1], rfl⟩
  · refine z_iload_n dX4_hasPoint_4 rfl rfl ?_
    refine z_aload_n dX4_hasPoint_5 rfl rfl ?_
    refine z_get dX4_hasPoint_6 rfl hiX4_hasPoint_X4 0 lkX4_hasPoint_9 (Nat.le_of_ble_eq_true rfl) h19 rfl (by decide) rfl ?_
    refine z_icmp_ge (tgt := 16) dX4_hasPoint_9 rfl (by decide) (fun c9 => ?_) (fun c9 => ?_)
    · refine z_iconst (v := nI 0) dX4_hasPoint_16 rfl (by decide) ?_
      exact z_ireturn dX4_hasPoint_17 rfl rfl (Nat.le_refl _) (Nat.le_refl _) (fun _ => rfl) ⟨by simp only [X4_hasPoint_v, if_neg c1, if_pos c9], rfl⟩
    · refine z_iconst (v := nI 1) dX4_hasPoint_12 rfl (by decide) ?_
      refine z_goto (tgt := 17) dX4_hasPoint_13 (by decide) ?_
      exact z_ireturn dX4_hasPoint_17 rfl rfl (Nat.le_refl _) (Nat.le_refl _) (fun _ => rfl) ⟨by simp only [X4_hasPoint_v, if_neg c1, if_neg c9], rfl⟩
set_option maxRecDepth 100000 in
set_option maxHeartbeats 4000000 in
theorem c_X4_hasLine_19 (G : zG) (ex : Bool) (g : Nat → va_E) (pts lns ltr : Nat) (inw : Int32) (p : Int32)  (h19 : g 19 = (oTxt G 19 (nI pts) (nI lns) (nI ltr) inw)) : zC G yX4_hasLine wsX4_hasLine (zrm 0 0) ex [.ref (zB G + 19), .int p] (zN, g) (fun r h => r = some (.int (X4_hasLine_v lns p)) ∧ h = (zN, g)) := by
  refine zC_of mX4_hasLine (lv := [some (.ref (zB G + 19)), some (.int p)]) rfl rfl (by decide) (by intro v hv; simp at hv; rcases hv with rfl | rfl <;> rfl) (Nat.le_of_ble_eq_true rfl) rfl ?_
  refine z_0 ?_
  refine z_iload_n dX4_hasLine_0 rfl rfl ?_
  refine z_if_lt (tgt := 16) dX4_hasLine_1 rfl (by decide) (fun c1 => ?_) (fun c1 => ?_)
  · refine z_iconst (v := nI 0) dX4_hasLine_16 rfl (by decide) ?_
    exact z_ireturn dX4_hasLine_17 rfl rfl (Nat.le_refl _) (Nat.le_refl _) (fun _ => rfl) ⟨by simp only [X4_hasLine_v, if_pos c1], rfl⟩
  · refine z_iload_n dX4_hasLine_4 rfl rfl ?_
    refine z_aload_n dX4_hasLine_5 rfl rfl ?_
    refine z_get dX4_hasLine_6 rfl hiX4_hasLine_X4 1 lkX4_hasLine_15 (Nat.le_of_ble_eq_true rfl) h19 rfl (by decide) rfl ?_
    refine z_icmp_ge (tgt := 16) dX4_hasLine_9 rfl (by decide) (fun c9 => ?_) (fun c9 => ?_)
    · refine z_iconst (v := nI 0) dX4_hasLine_16 rfl (by decide) ?_
      exact z_ireturn dX4_hasLine_17 rfl rfl (Nat.le_refl _) (Nat.le_refl _) (fun _ => rfl) ⟨by simp only [X4_hasLine_v, if_neg c1, if_pos c9], rfl⟩
    · refine z_iconst (v := nI 1) dX4_hasLine_12 rfl (by decide) ?_
      refine z_goto (tgt := 17) dX4_hasLine_13 (by decide) ?_
      exact z_ireturn dX4_hasLine_17 rfl rfl (Nat.le_refl _) (Nat.le_refl _) (fun _ => rfl) ⟨by simp only [X4_hasLine_v, if_neg c1, if_neg c9], rfl⟩
set_option maxRecDepth 100000 in
set_option maxHeartbeats 4000000 in
theorem c_X4_isTriple_19 (G : zG) (ex : Bool) (g : Nat → va_E) (pts lns ltr : Nat) (inw : Int32) (a b c : Int32)  (h19 : g 19 = (oTxt G 19 (nI pts) (nI lns) (nI ltr) inw)) : zC G yX4_isTriple wsX4_isTriple (zrm 1 21) ex [.ref (zB G + 19), .int a, .int b, .int c] (zN, g) (fun r h => r = some (.int (X4_isTriple_v pts a b c)) ∧ h = (zN, g)) := by
  refine zC_of mX4_isTriple (lv := [some (.ref (zB G + 19)), some (.int a), some (.int b), some (.int c)]) rfl rfl (by decide) (by intro v hv; simp at hv; rcases hv with rfl | rfl | rfl | rfl <;> rfl) (Nat.le_of_ble_eq_true rfl) rfl ?_
  refine z_0 ?_
  refine z_aload_n dX4_isTriple_0 rfl rfl ?_
  refine z_iload_n dX4_isTriple_1 rfl rfl ?_
  refine z_callVi (c_X4_hasPoint_19 G ex _ pts lns ltr inw a h19) gX4_isTriple_X4_hasPoint rfl dX4_isTriple_2 rfl rfl rfl okk_X4_hasPoint (Nat.le_of_ble_eq_true rfl) h19 rfl ⟨Nat.le_of_ble_eq_true rfl, Nat.le_of_ble_eq_true rfl⟩ ⟨Nat.le_of_ble_eq_true rfl, Nat.le_of_ble_eq_true rfl⟩ (Nat.le_of_ble_eq_true rfl) ?_
  refine z_if_eq (tgt := 43) dX4_isTriple_5 rfl (by decide) (fun c5 => ?_) (fun c5 => ?_)
  · refine z_iconst (v := nI 0) dX4_isTriple_43 rfl (by decide) ?_
    exact z_ireturn dX4_isTriple_44 rfl rfl (Nat.le_refl _) (Nat.le_refl _) (fun _ => rfl) ⟨by simp only [X4_isTriple_v, if_pos c5], rfl⟩
  · refine z_aload_n dX4_isTriple_8 rfl rfl ?_
    refine z_iload_n dX4_isTriple_9 rfl rfl ?_
    refine z_callVi (c_X4_hasPoint_19 G ex _ pts lns ltr inw b h19) gX4_isTriple_X4_hasPoint rfl dX4_isTriple_10 rfl rfl rfl okk_X4_hasPoint (Nat.le_of_ble_eq_true rfl) h19 rfl ⟨Nat.le_of_ble_eq_true rfl, Nat.le_of_ble_eq_true rfl⟩ ⟨Nat.le_of_ble_eq_true rfl, Nat.le_of_ble_eq_true rfl⟩ (Nat.le_of_ble_eq_true rfl) ?_
    refine z_if_eq (tgt := 43) dX4_isTriple_13 rfl (by decide) (fun c13 => ?_) (fun c13 => ?_)
    · refine z_iconst (v := nI 0) dX4_isTriple_43 rfl (by decide) ?_
      exact z_ireturn dX4_isTriple_44 rfl rfl (Nat.le_refl _) (Nat.le_refl _) (fun _ => rfl) ⟨by simp only [X4_isTriple_v, if_neg c5, if_pos c13], rfl⟩
    · refine z_aload_n dX4_isTriple_16 rfl rfl ?_
      refine z_iload_n dX4_isTriple_17 rfl rfl ?_
      refine z_callVi (c_X4_hasPoint_19 G ex _ pts lns ltr inw c h19) gX4_isTriple_X4_hasPoint rfl dX4_isTriple_18 rfl rfl rfl okk_X4_hasPoint (Nat.le_of_ble_eq_true rfl) h19 rfl ⟨Nat.le_of_ble_eq_true rfl, Nat.le_of_ble_eq_true rfl⟩ ⟨Nat.le_of_ble_eq_true rfl, Nat.le_of_ble_eq_true rfl⟩ (Nat.le_of_ble_eq_true rfl) ?_
      refine z_if_eq (tgt := 43) dX4_isTriple_21 rfl (by decide) (fun c21 => ?_) (fun c21 => ?_)
      · refine z_iconst (v := nI 0) dX4_isTriple_43 rfl (by decide) ?_
        exact z_ireturn dX4_isTriple_44 rfl rfl (Nat.le_refl _) (Nat.le_refl _) (fun _ => rfl) ⟨by simp only [X4_isTriple_v, if_neg c5, if_neg c13, if_pos c21], rfl⟩
      · refine z_iload_n dX4_isTriple_24 rfl rfl ?_
        refine z_iload_n dX4_isTriple_25 rfl rfl ?_
        refine z_icmp_eq (tgt := 43) dX4_isTriple_26 rfl (by decide) (fun c26 => ?_) (fun c26 => ?_)
        · refine z_iconst (v := nI 0) dX4_isTriple_43 rfl (by decide) ?_
          exact z_ireturn dX4_isTriple_44 rfl rfl (Nat.le_refl _) (Nat.le_refl _) (fun _ => rfl) ⟨by simp only [X4_isTriple_v, if_neg c5, if_neg c13, if_neg c21, if_pos c26], rfl⟩
        · refine z_iload_n dX4_isTriple_29 rfl rfl ?_
          refine z_iload_n dX4_isTriple_30 rfl rfl ?_
          refine z_icmp_eq (tgt := 43) dX4_isTriple_31 rfl (by decide) (fun c31 => ?_) (fun c31 => ?_)
          · refine z_iconst (v := nI 0) dX4_isTriple_43 rfl (by decide) ?_
            exact z_ireturn dX4_isTriple_44 rfl rfl (Nat.le_refl _) (Nat.le_refl _) (fun _ => rfl) ⟨by simp only [X4_isTriple_v, if_neg c5, if_neg c13, if_neg c21, if_neg c26, if_pos c31], rfl⟩
          · refine z_iload_n dX4_isTriple_34 rfl rfl ?_
            refine z_iload_n dX4_isTriple_35 rfl rfl ?_
            refine z_icmp_eq (tgt := 43) dX4_isTriple_36 rfl (by decide) (fun c36 => ?_) (fun c36 => ?_)
            · refine z_iconst (v := nI 0) dX4_isTriple_43 rfl (by decide) ?_
              exact z_ireturn dX4_isTriple_44 rfl rfl (Nat.le_refl _) (Nat.le_refl _) (fun _ => rfl) ⟨by simp only [X4_isTriple_v, if_neg c5, if_neg c13, if_neg c21, if_neg c26, if_neg c31, if_pos c36], rfl⟩
            · refine z_iconst (v := nI 1) dX4_isTriple_39 rfl (by decide) ?_
              refine z_goto (tgt := 44) dX4_isTriple_40 (by decide) ?_
              exact z_ireturn dX4_isTriple_44 rfl rfl (Nat.le_refl _) (Nat.le_refl _) (fun _ => rfl) ⟨by simp only [X4_isTriple_v, if_neg c5, if_neg c13, if_neg c21, if_neg c26, if_neg c31, if_neg c36], rfl⟩
set_option maxRecDepth 100000 in
set_option maxHeartbeats 4000000 in
theorem c_X4_endsWord_19 (G : zG) (ex : Bool) (g : Nat → va_E) (pts lns ltr : Nat) (inw : Int32) (sz : Nat → Int32) (hl : lns ≤ 12) (hinw : ¬ inw = 0 → 1 ≤ lns) (h19 : g 19 = (oTxt G 19 (nI pts) (nI lns) (nI ltr) inw)) (h21 : g 21 = (zI G 12 sz)) : zC G yX4_endsWord wsX4_endsWord (zrm 0 0) ex [.ref (zB G + 19)] (zN, g) (fun r h => r = some (.int (X4_endsWord_v lns inw sz)) ∧ h = (zN, zus g [(19, (oTxt G 19 (nI pts) (nI lns) (nI ltr) (X4_endsWord_pT0_3 lns inw sz)))])) := by
  refine zC_of mX4_endsWord (lv := [some (.ref (zB G + 19))]) rfl rfl (by decide) (by intro v hv; simp at hv; subst hv; rfl) (Nat.le_of_ble_eq_true rfl) rfl ?_
  refine z_0 ?_
  refine z_heap (g' := zu (zus g []) 19 (oTxt G 19 (nI pts) (nI lns) (nI ltr) inw)) (zu_self (zus g []) 19 _ h19).symm ?_
  refine z_n (L' := [(19, (oTxt G 19 (nI pts) (nI lns) (nI ltr) inw))]) rfl ?_
  refine z_aload_n dX4_endsWord_0 rfl rfl ?_
  refine z_get dX4_endsWord_1 rfl hiX4_endsWord_X4 7 lkX4_endsWord_36 (Nat.le_of_ble_eq_true rfl) rfl rfl (by decide) rfl ?_
  refine z_if_eq (tgt := 24) dX4_endsWord_4 rfl (by decide) (fun c4 => ?_) (fun c4 => ?_)
  · refine z_aload_n dX4_endsWord_24 rfl rfl ?_
    refine z_iconst (v := nI 0) dX4_endsWord_25 rfl (by decide) ?_
    refine z_putN (e9 := (oTxt G 19 (nI pts) (nI lns) (nI ltr) (nI 0))) tyX4 tyX4_ok nmX4 dX4_endsWord_26 rfl hiX4_endsWord_X4 7 lkX4_endsWord_36 rfl (by decide +kernel) (Nat.le_of_ble_eq_true rfl) rfl rfl (by decide) (Nat.le_of_ble_eq_true rfl) rfl rfl rfl ?_
    refine z_n (L' := [(19, (oTxt G 19 (nI pts) (nI lns) (nI ltr) (nI 0)))]) rfl ?_
    refine z_iconst (v := nI 1) dX4_endsWord_29 rfl (by decide) ?_
    exact z_ireturn dX4_endsWord_30 rfl rfl (Nat.le_refl _) (Nat.le_refl _) (fun _ => rfl) ⟨by simp only [X4_endsWord_v, if_pos c4], by simp only [X4_endsWord_pT0_3, if_pos c4]⟩
  · have hl1 : 1 ≤ lns := hinw c4
    refine z_aload_n dX4_endsWord_7 rfl rfl ?_
    refine z_get dX4_endsWord_8 rfl hiX4_endsWord_X4 4 lkX4_endsWord_25 (Nat.le_of_ble_eq_true rfl) rfl rfl (by decide) rfl ?_
    refine z_aload_n dX4_endsWord_11 rfl rfl ?_
    refine z_get dX4_endsWord_12 rfl hiX4_endsWord_X4 1 lkX4_endsWord_15 (Nat.le_of_ble_eq_true rfl) rfl rfl (by decide) rfl ?_
    refine z_iconst (v := nI 1) dX4_endsWord_15 rfl (by decide) ?_
    refine z_isub dX4_endsWord_16 rfl ?_
    refine z_ialdN (j := lns - 1) dX4_endsWord_17 rfl (Nat.le_of_ble_eq_true rfl) h21 ((zq_sub rfl rfl (by omega))) (by omega) (by decide) ?_
    refine z_iconst (v := nI 3) dX4_endsWord_18 rfl (by decide) ?_
    refine z_icmp_ge (tgt := 24) dX4_endsWord_19 rfl (by decide) (fun c19 => ?_) (fun c19 => ?_)
    · refine z_aload_n dX4_endsWord_24 rfl rfl ?_
      refine z_iconst (v := nI 0) dX4_endsWord_25 rfl (by decide) ?_
      refine z_putN (e9 := (oTxt G 19 (nI pts) (nI lns) (nI ltr) (nI 0))) tyX4 tyX4_ok nmX4 dX4_endsWord_26 rfl hiX4_endsWord_X4 7 lkX4_endsWord_36 rfl (by decide +kernel) (Nat.le_of_ble_eq_true rfl) rfl rfl (by decide) (Nat.le_of_ble_eq_true rfl) rfl rfl rfl ?_
      refine z_n (L' := [(19, (oTxt G 19 (nI pts) (nI lns) (nI ltr) (nI 0)))]) rfl ?_
      refine z_iconst (v := nI 1) dX4_endsWord_29 rfl (by decide) ?_
      exact z_ireturn dX4_endsWord_30 rfl rfl (Nat.le_refl _) (Nat.le_refl _) (fun _ => rfl) ⟨by simp only [X4_endsWord_v, if_neg c4, if_pos c19], by simp only [X4_endsWord_pT0_3, if_neg c4, if_pos c19]⟩
    · refine z_iconst (v := nI 0) dX4_endsWord_22 rfl (by decide) ?_
      exact z_ireturn dX4_endsWord_23 rfl rfl (Nat.le_refl _) (Nat.le_refl _) (fun _ => rfl) ⟨by simp only [X4_endsWord_v, if_neg c4, if_neg c19], by simp only [X4_endsWord_pT0_3, if_neg c4, if_neg c19]⟩
set_option maxRecDepth 100000 in
set_option maxHeartbeats 4000000 in
theorem c_X4_startsWord_19 (G : zG) (ex : Bool) (g : Nat → va_E) (pts lns ltr : Nat) (inw : Int32) (sz msk : Nat → Int32) (hl : lns ≤ 12) (h19 : g 19 = (oTxt G 19 (nI pts) (nI lns) (nI ltr) inw)) (h21 : g 21 = (zI G 12 sz)) (h35 : g 35 = (zI G 12 msk)) : zC G yX4_startsWord wsX4_startsWord (zrm 0 0) ex [.ref (zB G + 19)] (zN, g) (fun r h => r = some (.int (X4_startsWord_v lns)) ∧ h = (zN, zus g [(19, (oTxt G 19 (nI pts) (nI (X4_startsWord_pT0_1 lns)) (nI ltr) (X4_startsWord_pT0_3 lns inw))), (21, zI G 12 (X4_startsWord_cT2 lns sz)), (35, zI G 12 (X4_startsWord_cT16 lns msk))])) := by
  refine zC_of mX4_startsWord (lv := [some (.ref (zB G + 19))]) rfl rfl (by decide) (by intro v hv; simp at hv; subst hv; rfl) (Nat.le_of_ble_eq_true rfl) rfl ?_
  refine z_0 ?_
  refine z_heap (g' := zu (zus g []) 19 (oTxt G 19 (nI pts) (nI lns) (nI ltr) inw)) (zu_self (zus g []) 19 _ h19).symm ?_
  refine z_n (L' := [(19, (oTxt G 19 (nI pts) (nI lns) (nI ltr) inw))]) rfl ?_
  refine z_heap (g' := zu (zus g [(19, (oTxt G 19 (nI pts) (nI lns) (nI ltr) inw))]) 21 (zI G 12 sz)) (zu_self (zus g [(19, (oTxt G 19 (nI pts) (nI lns) (nI ltr) inw))]) 21 _ h21).symm ?_
  refine z_n (L' := [(19, (oTxt G 19 (nI pts) (nI lns) (nI ltr) inw)), (21, (zI G 12 sz))]) rfl ?_
  refine z_heap (g' := zu (zus g [(19, (oTxt G 19 (nI pts) (nI lns) (nI ltr) inw)), (21, (zI G 12 sz))]) 35 (zI G 12 msk)) (zu_self (zus g [(19, (oTxt G 19 (nI pts) (nI lns) (nI ltr) inw)), (21, (zI G 12 sz))]) 35 _ h35).symm ?_
  refine z_n (L' := [(19, (oTxt G 19 (nI pts) (nI lns) (nI ltr) inw)), (21, (zI G 12 sz)), (35, (zI G 12 msk))]) rfl ?_
  refine z_aload_n dX4_startsWord_0 rfl rfl ?_
  refine z_get dX4_startsWord_1 rfl hiX4_startsWord_X4 1 lkX4_startsWord_15 (Nat.le_of_ble_eq_true rfl) rfl rfl (by decide) rfl ?_
  refine z_bipush (v := nI 12) dX4_startsWord_4 rfl (by decide) ?_
  refine z_icmp_lt (tgt := 11) dX4_startsWord_6 rfl (by decide) (fun c6 => ?_) (fun c6 => ?_)
  · have hl12 : lns < 12 := Nat.lt_of_not_le (fun q => absurd c6 (nI_nlt q (by omega)))
    refine z_aload_n dX4_startsWord_11 rfl rfl ?_
    refine z_get dX4_startsWord_12 rfl hiX4_startsWord_X4 4 lkX4_startsWord_25 (Nat.le_of_ble_eq_true rfl) rfl rfl (by decide) rfl ?_
    refine z_aload_n dX4_startsWord_15 rfl rfl ?_
    refine z_get dX4_startsWord_16 rfl hiX4_startsWord_X4 1 lkX4_startsWord_15 (Nat.le_of_ble_eq_true rfl) rfl rfl (by decide) rfl ?_
    refine z_iconst (v := nI 0) dX4_startsWord_19 rfl (by decide) ?_
    refine z_iastN (j := lns) dX4_startsWord_20 rfl (Nat.le_of_ble_eq_true rfl) rfl (rfl) (by omega) (by decide) ?_
    refine z_n (L' := [(19, (oTxt G 19 (nI pts) (nI lns) (nI ltr) inw)), (21, (zI G 12 (upd sz lns (nI 0)))), (35, (zI G 12 msk))]) rfl ?_
    refine z_aload_n dX4_startsWord_21 rfl rfl ?_
    refine z_get dX4_startsWord_22 rfl hiX4_startsWord_X4 6 lkX4_startsWord_33 (Nat.le_of_ble_eq_true rfl) rfl rfl (by decide) rfl ?_
    refine z_aload_n dX4_startsWord_25 rfl rfl ?_
    refine z_get dX4_startsWord_26 rfl hiX4_startsWord_X4 1 lkX4_startsWord_15 (Nat.le_of_ble_eq_true rfl) rfl rfl (by decide) rfl ?_
    refine z_iconst (v := nI 0) dX4_startsWord_29 rfl (by decide) ?_
    refine z_iastN (j := lns) dX4_startsWord_30 rfl (Nat.le_of_ble_eq_true rfl) rfl (rfl) (by omega) (by decide) ?_
    refine z_n (L' := [(19, (oTxt G 19 (nI pts) (nI lns) (nI ltr) inw)), (21, (zI G 12 (upd sz lns (nI 0)))), (35, (zI G 12 (upd msk lns (nI 0))))]) rfl ?_
    refine z_aload_n dX4_startsWord_31 rfl rfl ?_
    refine z_dup dX4_startsWord_32 rfl rfl ?_
    refine z_get dX4_startsWord_33 rfl hiX4_startsWord_X4 1 lkX4_startsWord_15 (Nat.le_of_ble_eq_true rfl) rfl rfl (by decide) rfl ?_
    refine z_iconst (v := nI 1) dX4_startsWord_36 rfl (by decide) ?_
    refine z_iadd dX4_startsWord_37 rfl ?_
    refine z_top (show (nI lns) + (nI 1) = nI (lns + 1) from (zq_add rfl rfl)) ?_
    refine z_putN (e9 := (oTxt G 19 (nI pts) (nI (lns + 1)) (nI ltr) inw)) tyX4 tyX4_ok nmX4 dX4_startsWord_38 rfl hiX4_startsWord_X4 1 lkX4_startsWord_15 rfl (by decide +kernel) (Nat.le_of_ble_eq_true rfl) rfl rfl (by decide) (Nat.le_of_ble_eq_true rfl) rfl rfl rfl ?_
    refine z_n (L' := [(19, (oTxt G 19 (nI pts) (nI (lns + 1)) (nI ltr) inw)), (21, (zI G 12 (upd sz lns (nI 0)))), (35, (zI G 12 (upd msk lns (nI 0))))]) rfl ?_
    refine z_aload_n dX4_startsWord_41 rfl rfl ?_
    refine z_iconst (v := nI 1) dX4_startsWord_42 rfl (by decide) ?_
    refine z_putN (e9 := (oTxt G 19 (nI pts) (nI (lns + 1)) (nI ltr) (nI 1))) tyX4 tyX4_ok nmX4 dX4_startsWord_43 rfl hiX4_startsWord_X4 7 lkX4_startsWord_36 rfl (by decide +kernel) (Nat.le_of_ble_eq_true rfl) rfl rfl (by decide) (Nat.le_of_ble_eq_true rfl) rfl rfl rfl ?_
    refine z_n (L' := [(19, (oTxt G 19 (nI pts) (nI (lns + 1)) (nI ltr) (nI 1))), (21, (zI G 12 (upd sz lns (nI 0)))), (35, (zI G 12 (upd msk lns (nI 0))))]) rfl ?_
    refine z_iconst (v := nI 1) dX4_startsWord_46 rfl (by decide) ?_
    exact z_ireturn dX4_startsWord_47 rfl rfl (Nat.le_refl _) (Nat.le_refl _) (fun _ => rfl) ⟨by simp only [X4_startsWord_v, if_pos c6], by simp only [X4_startsWord_pT0_1, X4_startsWord_pT0_3, X4_startsWord_cT2, X4_startsWord_cT16, if_pos c6]⟩
  · refine z_iconst (v := nI 0) dX4_startsWord_9 rfl (by decide) ?_
    exact z_ireturn dX4_startsWord_10 rfl rfl (Nat.le_refl _) (Nat.le_refl _) (fun _ => rfl) ⟨by simp only [X4_startsWord_v, if_neg c6], by simp only [X4_startsWord_pT0_1, X4_startsWord_pT0_3, X4_startsWord_cT2, X4_startsWord_cT16, if_neg c6]⟩
set_option maxRecDepth 100000 in
set_option maxHeartbeats 4000000 in
theorem c_X4_pointOf_19 (G : zG) (ex : Bool) (g : Nat → va_E) (pts lns ltr : Nat) (inw : Int32) (lo : Nat → Int32) (lt : Int32) (hp : pts ≤ 10) (hroom : (∀ j, j < pts → ¬ lo j = lt) → pts < 10) (h19 : g 19 = (oTxt G 19 (nI pts) (nI lns) (nI ltr) inw)) (h20 : g 20 = (zI G 10 lo)) : zC G yX4_pointOf wsX4_pointOf (zrm 0 0) ex [.ref (zB G + 19), .int lt] (zN, g) (fun r h => r = some (.int (X4_pointOf_v pts lns ltr inw lo lt)) ∧ h = (zN, zus g [(19, (oTxt G 19 (nI (X4_pointOf_pT0_0 pts lns ltr inw lo lt)) (nI lns) (nI ltr) inw)), (20, zI G 10 (X4_pointOf_cT1 pts lns ltr inw lo lt))])) := by
  refine zC_of mX4_pointOf (lv := [some (.ref (zB G + 19)), some (.int lt), none]) rfl rfl (by decide) (by intro v hv; simp at hv; rcases hv with rfl | rfl <;> rfl) (Nat.le_of_ble_eq_true rfl) rfl ?_
  refine z_0 ?_
  refine z_heap (g' := zu (zus g []) 19 (oTxt G 19 (nI pts) (nI lns) (nI ltr) inw)) (zu_self (zus g []) 19 _ h19).symm ?_
  refine z_n (L' := [(19, (oTxt G 19 (nI pts) (nI lns) (nI ltr) inw))]) rfl ?_
  refine z_heap (g' := zu (zus g [(19, (oTxt G 19 (nI pts) (nI lns) (nI ltr) inw))]) 20 (zI G 10 lo)) (zu_self (zus g [(19, (oTxt G 19 (nI pts) (nI lns) (nI ltr) inw))]) 20 _ h20).symm ?_
  refine z_n (L' := [(19, (oTxt G 19 (nI pts) (nI lns) (nI ltr) inw)), (20, (zI G 10 lo))]) rfl ?_
  refine z_iconst (v := nI 0) dX4_pointOf_0 rfl (by decide) ?_
  refine z_istore_2 dX4_pointOf_1 rfl ?_
  refine z_forB (head := fun k (st9 : Unit) => Z G mX4_pointOf (zrm 0 0) ex _ 2 [some (.ref (zB G + 19)), some (.int lt), some (.int (nI k))] [] (zN, zus g [(19, (oTxt G 19 (nI pts) (nI lns) (nI ltr) inw)), (20, (zI G 10 lo))]) 0 0) (out := fun b _ => (some (Value.int b.1) = some (Value.int (X4_pointOf_v pts lns ltr inw lo lt))) ∧ ((zN, zus g [(19, (oTxt G 19 (nI b.2.1) (nI lns) (nI ltr) inw)), (20, (zI G 10 b.2.2))]) : zAH) = (zN, zus g [(19, (oTxt G 19 (nI (X4_pointOf_pT0_0 pts lns ltr inw lo lt)) (nI lns) (nI ltr) inw)), (20, zI G 10 (X4_pointOf_cT1 pts lns ltr inw lo lt))])) (B := (X4_pointOf_L2_B pts lo lt)) (F := (X4_pointOf_L2_F lo lt)) (n := pts) (fun i _ => ∀ j, j < i → ¬ lo j = lt) (fun i a hi h hB j hj => by
        unfold X4_pointOf_L2_B at hB
        split at hB
        · cases hB
        · rename_i c
          rcases Nat.lt_succ_iff_lt_or_eq.mp hj with q | q
          · exact h j q
          · rw [q]; exact c) ?_ pts 0 () (by omega) (fun j h => absurd h (Nat.not_lt_zero j)) ?_ ?_
  · intro k _ hi hI Ko K
    refine z_iload_n dX4_pointOf_2 rfl rfl ?_
    refine z_aload_n dX4_pointOf_3 rfl rfl ?_
    refine z_get dX4_pointOf_4 rfl hiX4_pointOf_X4 0 lkX4_pointOf_9 (Nat.le_of_ble_eq_true rfl) rfl rfl (by decide) rfl ?_
    refine z_icmp_ge (tgt := 28) dX4_pointOf_7 rfl (by decide) (fun c7 => ?_) (fun c7 => ?_)
    · exact absurd c7 (nI_ge hi (by omega))
    · refine z_aload_n dX4_pointOf_10 rfl rfl ?_
      refine z_get dX4_pointOf_11 rfl hiX4_pointOf_X4 3 lkX4_pointOf_21 (Nat.le_of_ble_eq_true rfl) rfl rfl (by decide) rfl ?_
      refine z_iload_n dX4_pointOf_14 rfl rfl ?_
      refine z_ialdN (j := k) dX4_pointOf_15 rfl (Nat.le_of_ble_eq_true rfl) rfl (rfl) (by omega) (by decide) ?_
      refine z_iload_n dX4_pointOf_16 rfl rfl ?_
      refine z_icmp_ne (tgt := 22) dX4_pointOf_17 rfl (by decide) (fun c17 => ?_) (fun c17 => ?_)
      · refine z_iinc_2 (v := nI (k + 1)) dX4_pointOf_22 rfl (zinc _) ?_
        refine z_goto (tgt := 2) dX4_pointOf_25 (by decide) ?_
        have K9 := (K (by simp only [X4_pointOf_L2_B, if_neg c17]))
        try simp only [X4_pointOf_L2_F, if_neg c17] at K9
        exact K9
      · refine z_iload_n dX4_pointOf_20 rfl rfl ?_
        exact z_ireturn dX4_pointOf_21 rfl rfl (Nat.le_refl _) (Nat.le_refl _) (fun _ => rfl) (Ko (nI k, pts, lo) (by simp only [X4_pointOf_L2_B, if_pos c17]))
  · intro b a9 hz2
    exact ⟨by simp only [X4_pointOf_v, hz2, zpick_s], by simp only [X4_pointOf_pT0_0, X4_pointOf_cT1, hz2, zpick_s]⟩
  · intro _ hz2 hI
    have hp9 : pts < 10 := hroom hI
    refine z_iload_n dX4_pointOf_2 rfl rfl ?_
    refine z_aload_n dX4_pointOf_3 rfl rfl ?_
    refine z_get dX4_pointOf_4 rfl hiX4_pointOf_X4 0 lkX4_pointOf_9 (Nat.le_of_ble_eq_true rfl) rfl rfl (by decide) rfl ?_
    refine z_icmp_ge (tgt := 28) dX4_pointOf_7 rfl (by decide) (fun c7 => ?_) (fun c7 => ?_)
    · refine z_aload_n dX4_pointOf_28 rfl rfl ?_
      refine z_get dX4_pointOf_29 rfl hiX4_pointOf_X4 3 lkX4_pointOf_21 (Nat.le_of_ble_eq_true rfl) rfl rfl (by decide) rfl ?_
      refine z_aload_n dX4_pointOf_32 rfl rfl ?_
      refine z_get dX4_pointOf_33 rfl hiX4_pointOf_X4 0 lkX4_pointOf_9 (Nat.le_of_ble_eq_true rfl) rfl rfl (by decide) rfl ?_
      refine z_iload_n dX4_pointOf_36 rfl rfl ?_
      refine z_iastN (j := pts) dX4_pointOf_37 rfl (Nat.le_of_ble_eq_true rfl) rfl (rfl) (by omega) (by decide) ?_
      refine z_n (L' := [(19, (oTxt G 19 (nI pts) (nI lns) (nI ltr) inw)), (20, (zI G 10 (upd lo pts lt)))]) rfl ?_
      refine z_aload_n dX4_pointOf_38 rfl rfl ?_
      refine z_dup dX4_pointOf_39 rfl rfl ?_
      refine z_get dX4_pointOf_40 rfl hiX4_pointOf_X4 0 lkX4_pointOf_9 (Nat.le_of_ble_eq_true rfl) rfl rfl (by decide) rfl ?_
      refine z_iconst (v := nI 1) dX4_pointOf_43 rfl (by decide) ?_
      refine z_iadd dX4_pointOf_44 rfl ?_
      refine z_top (show (nI pts) + (nI 1) = nI (pts + 1) from (zq_add rfl rfl)) ?_
      refine z_putN (e9 := (oTxt G 19 (nI (pts + 1)) (nI lns) (nI ltr) inw)) tyX4 tyX4_ok nmX4 dX4_pointOf_45 rfl hiX4_pointOf_X4 0 lkX4_pointOf_9 rfl (by decide +kernel) (Nat.le_of_ble_eq_true rfl) rfl rfl (by decide) (Nat.le_of_ble_eq_true rfl) rfl rfl rfl ?_
      refine z_n (L' := [(19, (oTxt G 19 (nI (pts + 1)) (nI lns) (nI ltr) inw)), (20, (zI G 10 (upd lo pts lt)))]) rfl ?_
      refine z_aload_n dX4_pointOf_48 rfl rfl ?_
      refine z_get dX4_pointOf_49 rfl hiX4_pointOf_X4 0 lkX4_pointOf_9 (Nat.le_of_ble_eq_true rfl) rfl rfl (by decide) rfl ?_
      refine z_iconst (v := nI 1) dX4_pointOf_52 rfl (by decide) ?_
      refine z_isub dX4_pointOf_53 rfl ?_
      refine z_top (show (nI (pts + 1)) - (nI 1) = nI ((pts + 1) - 1) from (zq_sub rfl rfl (by omega))) ?_
      exact z_ireturn dX4_pointOf_54 rfl rfl (Nat.le_refl _) (Nat.le_refl _) (fun _ => rfl) ⟨by simp only [X4_pointOf_v, hz2, zpick_n], by simp only [X4_pointOf_pT0_0, X4_pointOf_cT1, hz2, zpick_n]⟩
    · exact absurd (nI_le (Nat.le_refl _) (by omega)) c7
set_option maxRecDepth 100000 in
set_option maxHeartbeats 4000000 in
theorem c_X4_clashes_19 (G : zG) (ex : Bool) (g : Nat → va_E) (pts lns ltr : Nat) (inw : Int32) (msk : Nat → Int32) (ln : Nat) (bt : Int32) (hln : ln < 12) (h19 : g 19 = (oTxt G 19 (nI pts) (nI lns) (nI ltr) inw)) (h35 : g 35 = (zI G 12 msk)) : zC G yX4_clashes wsX4_clashes (zrm 1 20) ex [.ref (zB G + 19), .int (nI ln), .int bt] (zN, g) (fun r h => r = some (.int (X4_clashes_v msk ln bt)) ∧ h = (zN, g)) := by
  refine zC_of mX4_clashes (lv := [some (.ref (zB G + 19)), some (.int (nI ln)), some (.int bt), none, none]) rfl rfl (by decide) (by intro v hv; simp at hv; rcases hv with rfl | rfl | rfl <;> rfl) (Nat.le_of_ble_eq_true rfl) rfl ?_
  refine z_0 ?_
  refine z_aload_n dX4_clashes_0 rfl rfl ?_
  refine z_get dX4_clashes_1 rfl hiX4_clashes_X4 6 lkX4_clashes_33 (Nat.le_of_ble_eq_true rfl) h19 rfl (by decide) rfl ?_
  refine z_iload_n dX4_clashes_4 rfl rfl ?_
  refine z_ialdN (j := ln) dX4_clashes_5 rfl (Nat.le_of_ble_eq_true rfl) h35 (rfl) (by omega) (by decide) ?_
  refine z_iload_n dX4_clashes_6 rfl rfl ?_
  refine z_iand dX4_clashes_7 rfl ?_
  refine z_if_eq (tgt := 13) dX4_clashes_8 rfl (by decide) (fun c8 => ?_) (fun c8 => ?_)
  · refine z_aload_n dX4_clashes_13 rfl rfl ?_
    refine z_get dX4_clashes_14 rfl hiX4_clashes_X4 6 lkX4_clashes_33 (Nat.le_of_ble_eq_true rfl) h19 rfl (by decide) rfl ?_
    refine z_iload_n dX4_clashes_17 rfl rfl ?_
    refine z_ialdN (j := ln) dX4_clashes_18 rfl (Nat.le_of_ble_eq_true rfl) h35 (rfl) (by omega) (by decide) ?_
    refine z_iload_n dX4_clashes_19 rfl rfl ?_
    refine z_ior dX4_clashes_20 rfl ?_
    refine z_istore_3 dX4_clashes_21 rfl ?_
    refine z_iconst (v := nI 0) dX4_clashes_22 rfl (by decide) ?_
    refine z_istore_4 dX4_clashes_23 rfl ?_
    refine z_forB (head := fun k (st9 : Unit) => Z G mX4_clashes (zrm 1 20) ex _ 25 [some (.ref (zB G + 19)), some (.int (nI ln)), some (.int bt), some (.int ((msk ln) ||| bt)), some (.int (nI k))] [] (zN, zus g []) 0 0) (out := fun b _ => (some (Value.int b) = some (Value.int (X4_clashes_v msk ln bt))) ∧ ((zN, zus g []) : zAH) = (zN, g)) (B := (X4_clashes_L25_B msk ln bt)) (F := (X4_clashes_L25_F msk ln bt)) (n := ln) (fun _ _ => True) (fun _ _ _ _ _ => trivial) ?_ ln 0 () (by omega) trivial ?_ ?_
    · intro k _ hi _ Ko K
      refine z_iload dX4_clashes_25 rfl rfl ?_
      refine z_iload_n dX4_clashes_27 rfl rfl ?_
      refine z_icmp_ge (tgt := 55) dX4_clashes_28 rfl (by decide) (fun c28 => ?_) (fun c28 => ?_)
      · exact absurd c28 (nI_ge hi (by omega))
      · refine z_aload_n dX4_clashes_31 rfl rfl ?_
        refine z_get dX4_clashes_32 rfl hiX4_clashes_X4 6 lkX4_clashes_33 (Nat.le_of_ble_eq_true rfl) h19 rfl (by decide) rfl ?_
        refine z_iload dX4_clashes_35 rfl rfl ?_
        refine z_ialdN (j := k) dX4_clashes_37 rfl (Nat.le_of_ble_eq_true rfl) h35 (rfl) (by omega) (by decide) ?_
        refine z_iload_n dX4_clashes_38 rfl rfl ?_
        refine z_iand dX4_clashes_39 rfl ?_
        refine z_callSi (c_bitCount G ex _ ((msk k) &&& ((msk ln) ||| bt))) gX4_clashes_J6_bitCount_0f7a4 rfl dX4_clashes_40 rfl rfl okk_J6_bitCount_0f7a4 ⟨Nat.le_of_ble_eq_true rfl, Nat.le_of_ble_eq_true rfl⟩ ⟨Nat.le_of_ble_eq_true rfl, Nat.le_of_ble_eq_true rfl⟩ (Nat.le_of_ble_eq_true rfl) ?_
        refine z_iconst (v := nI 1) dX4_clashes_43 rfl (by decide) ?_
        refine z_icmp_le (tgt := 49) dX4_clashes_44 rfl (by decide) (fun c44 => ?_) (fun c44 => ?_)
        · refine z_iinc_4 (v := nI (k + 1)) dX4_clashes_49 rfl (zinc _) ?_
          refine z_goto (tgt := 25) dX4_clashes_52 (by decide) ?_
          have K9 := (K (by simp only [X4_clashes_L25_B, if_pos c44]))
          try simp only [X4_clashes_L25_F, if_pos c44] at K9
          exact K9
        · refine z_iconst (v := nI 1) dX4_clashes_47 rfl (by decide) ?_
          exact z_ireturn dX4_clashes_48 rfl rfl (Nat.le_refl _) (Nat.le_refl _) (fun _ => rfl) (Ko (nI 1) (by simp only [X4_clashes_L25_B, if_neg c44]))
    · intro b a9 hz25
      exact ⟨by simp only [X4_clashes_v, if_pos c8, hz25, zpick_s], rfl⟩
    · intro _ hz25 _
      refine z_iload dX4_clashes_25 rfl rfl ?_
      refine z_iload_n dX4_clashes_27 rfl rfl ?_
      refine z_icmp_ge (tgt := 55) dX4_clashes_28 rfl (by decide) (fun c28 => ?_) (fun c28 => ?_)
      · refine z_iconst (v := nI 0) dX4_clashes_55 rfl (by decide) ?_
        exact z_ireturn dX4_clashes_56 rfl rfl (Nat.le_refl _) (Nat.le_refl _) (fun _ => rfl) ⟨by simp only [X4_clashes_v, if_pos c8, hz25, zpick_n], rfl⟩
      · exact absurd (nI_le (Nat.le_refl _) (by omega)) c28
  · refine z_iconst (v := nI 1) dX4_clashes_11 rfl (by decide) ?_
    exact z_ireturn dX4_clashes_12 rfl rfl (Nat.le_refl _) (Nat.le_refl _) (fun _ => rfl) ⟨by simp only [X4_clashes_v, if_neg c8], rfl⟩
set_option maxRecDepth 100000 in
set_option maxHeartbeats 4000000 in
theorem c_X4_addsLetter_19 (G : zG) (ex : Bool) (g : Nat → va_E) (pts lns ltr : Nat) (inw : Int32) (lo sz : Nat → Int32) (wd : Nat → Nat → Int32) (msk : Nat → Int32) (lt : Int32) (hp : pts ≤ 10) (hl : lns ≤ 12) (hinw : ¬ inw = 0 → 1 ≤ lns) (hsz : ∀ l, l < lns → vp_in (sz l) 6) (hroom : 97 ≤ lt → lt ≤ 106 → (∀ j, j < pts → ¬ lo j = lt) → pts < 10) (h19 : g 19 = (oTxt G 19 (nI pts) (nI lns) (nI ltr) inw)) (h20 : g 20 = (zI G 10 lo)) (h21 : g 21 = (zI G 12 sz)) (h22 : g 22 = (zR G 12 (zrw G 12 23))) (h23 : ∀ l9, l9 < 12 → g (23 + l9) = zI G 5 (wd l9)) (h35 : g 35 = (zI G 12 msk)) : zC G yX4_addsLetter wsX4_addsLetter (zrm 2 44) ex [.ref (zB G + 19), .int lt] (zN, g) (fun r h => r = some (.int (X4_addsLetter_v pts lns ltr inw lo sz msk lt)) ∧ h = (zN, zus g [(19, (oTxt G 19 (nI (X4_addsLetter_pT0_0 pts lns ltr inw lo sz msk lt)) (nI (X4_addsLetter_pT0_1 pts lns ltr inw lo sz msk lt)) (nI (X4_addsLetter_pT0_2 pts lns ltr inw lo sz msk lt)) (X4_addsLetter_pT0_3 pts lns ltr inw lo sz msk lt))), (20, zI G 10 (X4_addsLetter_cT1 pts lns ltr inw lo sz msk lt)), (21, zI G 12 (X4_addsLetter_cT2 pts lns ltr inw lo sz msk lt)), (23, zI G 5 ((X4_addsLetter_cT4 pts lns ltr inw lo sz wd msk lt) 0)), (24, zI G 5 ((X4_addsLetter_cT4 pts lns ltr inw lo sz wd msk lt) 1)), (25, zI G 5 ((X4_addsLetter_cT4 pts lns ltr inw lo sz wd msk lt) 2)), (26, zI G 5 ((X4_addsLetter_cT4 pts lns ltr inw lo sz wd msk lt) 3)), (27, zI G 5 ((X4_addsLetter_cT4 pts lns ltr inw lo sz wd msk lt) 4)), (28, zI G 5 ((X4_addsLetter_cT4 pts lns ltr inw lo sz wd msk lt) 5)), (29, zI G 5 ((X4_addsLetter_cT4 pts lns ltr inw lo sz wd msk lt) 6)), (30, zI G 5 ((X4_addsLetter_cT4 pts lns ltr inw lo sz wd msk lt) 7)), (31, zI G 5 ((X4_addsLetter_cT4 pts lns ltr inw lo sz wd msk lt) 8)), (32, zI G 5 ((X4_addsLetter_cT4 pts lns ltr inw lo sz wd msk lt) 9)), (33, zI G 5 ((X4_addsLetter_cT4 pts lns ltr inw lo sz wd msk lt) 10)), (34, zI G 5 ((X4_addsLetter_cT4 pts lns ltr inw lo sz wd msk lt) 11)), (35, zI G 12 (X4_addsLetter_cT16 pts lns ltr inw lo sz msk lt))])) := by
  refine zC_of mX4_addsLetter (lv := [some (.ref (zB G + 19)), some (.int lt), none, none]) rfl rfl (by decide) (by intro v hv; simp at hv; rcases hv with rfl | rfl <;> rfl) (Nat.le_of_ble_eq_true rfl) rfl ?_
  refine z_0 ?_
  refine z_heap (g' := zu (zus g []) 19 (oTxt G 19 (nI pts) (nI lns) (nI ltr) inw)) (zu_self (zus g []) 19 _ h19).symm ?_
  refine z_n (L' := [(19, (oTxt G 19 (nI pts) (nI lns) (nI ltr) inw))]) rfl ?_
  refine z_heap (g' := zu (zus g [(19, (oTxt G 19 (nI pts) (nI lns) (nI ltr) inw))]) 20 (zI G 10 lo)) (zu_self (zus g [(19, (oTxt G 19 (nI pts) (nI lns) (nI ltr) inw))]) 20 _ h20).symm ?_
  refine z_n (L' := [(19, (oTxt G 19 (nI pts) (nI lns) (nI ltr) inw)), (20, (zI G 10 lo))]) rfl ?_
  refine z_heap (g' := zu (zus g [(19, (oTxt G 19 (nI pts) (nI lns) (nI ltr) inw)), (20, (zI G 10 lo))]) 21 (zI G 12 sz)) (zu_self (zus g [(19, (oTxt G 19 (nI pts) (nI lns) (nI ltr) inw)), (20, (zI G 10 lo))]) 21 _ h21).symm ?_
  refine z_n (L' := [(19, (oTxt G 19 (nI pts) (nI lns) (nI ltr) inw)), (20, (zI G 10 lo)), (21, (zI G 12 sz))]) rfl ?_
  refine z_heap (g' := zu (zus g [(19, (oTxt G 19 (nI pts) (nI lns) (nI ltr) inw)), (20, (zI G 10 lo)), (21, (zI G 12 sz))]) 23 (zI G 5 (wd 0))) (zu_self (zus g [(19, (oTxt G 19 (nI pts) (nI lns) (nI ltr) inw)), (20, (zI G 10 lo)), (21, (zI G 12 sz))]) 23 _ (h23 0 (by decide))).symm ?_
  refine z_n (L' := [(19, (oTxt G 19 (nI pts) (nI lns) (nI ltr) inw)), (20, (zI G 10 lo)), (21, (zI G 12 sz)), (23, (zI G 5 (wd 0)))]) rfl ?_
  refine z_heap (g' := zu (zus g [(19, (oTxt G 19 (nI pts) (nI lns) (nI ltr) inw)), (20, (zI G 10 lo)), (21, (zI G 12 sz)), (23, (zI G 5 (wd 0)))]) 24 (zI G 5 (wd 1))) (zu_self (zus g [(19, (oTxt G 19 (nI pts) (nI lns) (nI ltr) inw)), (20, (zI G 10 lo)), (21, (zI G 12 sz)), (23, (zI G 5 (wd 0)))]) 24 _ (h23 1 (by decide))).symm ?_
  refine z_n (L' := [(19, (oTxt G 19 (nI pts) (nI lns) (nI ltr) inw)), (20, (zI G 10 lo)), (21, (zI G 12 sz)), (23, (zI G 5 (wd 0))), (24, (zI G 5 (wd 1)))]) rfl ?_
  refine z_heap (g' := zu (zus g [(19, (oTxt G 19 (nI pts) (nI lns) (nI ltr) inw)), (20, (zI G 10 lo)), (21, (zI G 12 sz)), (23, (zI G 5 (wd 0))), (24, (zI G 5 (wd 1)))]) 25 (zI G 5 (wd 2))) (zu_self (zus g [(19, (oTxt G 19 (nI pts) (nI lns) (nI ltr) inw)), (20, (zI G 10 lo)), (21, (zI G 12 sz)), (23, (zI G 5 (wd 0))), (24, (zI G 5 (wd 1)))]) 25 _ (h23 2 (by decide))).symm ?_
  refine z_n (L' := [(19, (oTxt G 19 (nI pts) (nI lns) (nI ltr) inw)), (20, (zI G 10 lo)), (21, (zI G 12 sz)), (23, (zI G 5 (wd 0))), (24, (zI G 5 (wd 1))), (25, (zI G 5 (wd 2)))]) rfl ?_
  refine z_heap (g' := zu (zus g [(19, (oTxt G 19 (nI pts) (nI lns) (nI ltr) inw)), (20, (zI G 10 lo)), (21, (zI G 12 sz)), (23, (zI G 5 (wd 0))), (24, (zI G 5 (wd 1))), (25, (zI G 5 (wd 2)))]) 26 (zI G 5 (wd 3))) (zu_self (zus g [(19, (oTxt G 19 (nI pts) (nI lns) (nI ltr) inw)), (20, (zI G 10 lo)), (21, (zI G 12 sz)), (23, (zI G 5 (wd 0))), (24, (zI G 5 (wd 1))), (25, (zI G 5 (wd 2)))]) 26 _ (h23 3 (by decide))).symm ?_
  refine z_n (L' := [(19, (oTxt G 19 (nI pts) (nI lns) (nI ltr) inw)), (20, (zI G 10 lo)), (21, (zI G 12 sz)), (23, (zI G 5 (wd 0))), (24, (zI G 5 (wd 1))), (25, (zI G 5 (wd 2))), (26, (zI G 5 (wd 3)))]) rfl ?_
  refine z_heap (g' := zu (zus g [(19, (oTxt G 19 (nI pts) (nI lns) (nI ltr) inw)), (20, (zI G 10 lo)), (21, (zI G 12 sz)), (23, (zI G 5 (wd 0))), (24, (zI G 5 (wd 1))), (25, (zI G 5 (wd 2))), (26, (zI G 5 (wd 3)))]) 27 (zI G 5 (wd 4))) (zu_self (zus g [(19, (oTxt G 19 (nI pts) (nI lns) (nI ltr) inw)), (20, (zI G 10 lo)), (21, (zI G 12 sz)), (23, (zI G 5 (wd 0))), (24, (zI G 5 (wd 1))), (25, (zI G 5 (wd 2))), (26, (zI G 5 (wd 3)))]) 27 _ (h23 4 (by decide))).symm ?_
  refine z_n (L' := [(19, (oTxt G 19 (nI pts) (nI lns) (nI ltr) inw)), (20, (zI G 10 lo)), (21, (zI G 12 sz)), (23, (zI G 5 (wd 0))), (24, (zI G 5 (wd 1))), (25, (zI G 5 (wd 2))), (26, (zI G 5 (wd 3))), (27, (zI G 5 (wd 4)))]) rfl ?_
  refine z_heap (g' := zu (zus g [(19, (oTxt G 19 (nI pts) (nI lns) (nI ltr) inw)), (20, (zI G 10 lo)), (21, (zI G 12 sz)), (23, (zI G 5 (wd 0))), (24, (zI G 5 (wd 1))), (25, (zI G 5 (wd 2))), (26, (zI G 5 (wd 3))), (27, (zI G 5 (wd 4)))]) 28 (zI G 5 (wd 5))) (zu_self (zus g [(19, (oTxt G 19 (nI pts) (nI lns) (nI ltr) inw)), (20, (zI G 10 lo)), (21, (zI G 12 sz)), (23, (zI G 5 (wd 0))), (24, (zI G 5 (wd 1))), (25, (zI G 5 (wd 2))), (26, (zI G 5 (wd 3))), (27, (zI G 5 (wd 4)))]) 28 _ (h23 5 (by decide))).symm ?_
  refine z_n (L' := [(19, (oTxt G 19 (nI pts) (nI lns) (nI ltr) inw)), (20, (zI G 10 lo)), (21, (zI G 12 sz)), (23, (zI G 5 (wd 0))), (24, (zI G 5 (wd 1))), (25, (zI G 5 (wd 2))), (26, (zI G 5 (wd 3))), (27, (zI G 5 (wd 4))), (28, (zI G 5 (wd 5)))]) rfl ?_
  refine z_heap (g' := zu (zus g [(19, (oTxt G 19 (nI pts) (nI lns) (nI ltr) inw)), (20, (zI G 10 lo)), (21, (zI G 12 sz)), (23, (zI G 5 (wd 0))), (24, (zI G 5 (wd 1))), (25, (zI G 5 (wd 2))), (26, (zI G 5 (wd 3))), (27, (zI G 5 (wd 4))), (28, (zI G 5 (wd 5)))]) 29 (zI G 5 (wd 6))) (zu_self (zus g [(19, (oTxt G 19 (nI pts) (nI lns) (nI ltr) inw)), (20, (zI G 10 lo)), (21, (zI G 12 sz)), (23, (zI G 5 (wd 0))), (24, (zI G 5 (wd 1))), (25, (zI G 5 (wd 2))), (26, (zI G 5 (wd 3))), (27, (zI G 5 (wd 4))), (28, (zI G 5 (wd 5)))]) 29 _ (h23 6 (by decide))).symm ?_
  refine z_n (L' := [(19, (oTxt G 19 (nI pts) (nI lns) (nI ltr) inw)), (20, (zI G 10 lo)), (21, (zI G 12 sz)), (23, (zI G 5 (wd 0))), (24, (zI G 5 (wd 1))), (25, (zI G 5 (wd 2))), (26, (zI G 5 (wd 3))), (27, (zI G 5 (wd 4))), (28, (zI G 5 (wd 5))), (29, (zI G 5 (wd 6)))]) rfl ?_
  refine z_heap (g' := zu (zus g [(19, (oTxt G 19 (nI pts) (nI lns) (nI ltr) inw)), (20, (zI G 10 lo)), (21, (zI G 12 sz)), (23, (zI G 5 (wd 0))), (24, (zI G 5 (wd 1))), (25, (zI G 5 (wd 2))), (26, (zI G 5 (wd 3))), (27, (zI G 5 (wd 4))), (28, (zI G 5 (wd 5))), (29, (zI G 5 (wd 6)))]) 30 (zI G 5 (wd 7))) (zu_self (zus g [(19, (oTxt G 19 (nI pts) (nI lns) (nI ltr) inw)), (20, (zI G 10 lo)), (21, (zI G 12 sz)), (23, (zI G 5 (wd 0))), (24, (zI G 5 (wd 1))), (25, (zI G 5 (wd 2))), (26, (zI G 5 (wd 3))), (27, (zI G 5 (wd 4))), (28, (zI G 5 (wd 5))), (29, (zI G 5 (wd 6)))]) 30 _ (h23 7 (by decide))).symm ?_
  refine z_n (L' := [(19, (oTxt G 19 (nI pts) (nI lns) (nI ltr) inw)), (20, (zI G 10 lo)), (21, (zI G 12 sz)), (23, (zI G 5 (wd 0))), (24, (zI G 5 (wd 1))), (25, (zI G 5 (wd 2))), (26, (zI G 5 (wd 3))), (27, (zI G 5 (wd 4))), (28, (zI G 5 (wd 5))), (29, (zI G 5 (wd 6))), (30, (zI G 5 (wd 7)))]) rfl ?_
  refine z_heap (g' := zu (zus g [(19, (oTxt G 19 (nI pts) (nI lns) (nI ltr) inw)), (20, (zI G 10 lo)), (21, (zI G 12 sz)), (23, (zI G 5 (wd 0))), (24, (zI G 5 (wd 1))), (25, (zI G 5 (wd 2))), (26, (zI G 5 (wd 3))), (27, (zI G 5 (wd 4))), (28, (zI G 5 (wd 5))), (29, (zI G 5 (wd 6))), (30, (zI G 5 (wd 7)))]) 31 (zI G 5 (wd 8))) (zu_self (zus g [(19, (oTxt G 19 (nI pts) (nI lns) (nI ltr) inw)), (20, (zI G 10 lo)), (21, (zI G 12 sz)), (23, (zI G 5 (wd 0))), (24, (zI G 5 (wd 1))), (25, (zI G 5 (wd 2))), (26, (zI G 5 (wd 3))), (27, (zI G 5 (wd 4))), (28, (zI G 5 (wd 5))), (29, (zI G 5 (wd 6))), (30, (zI G 5 (wd 7)))]) 31 _ (h23 8 (by decide))).symm ?_
  refine z_n (L' := [(19, (oTxt G 19 (nI pts) (nI lns) (nI ltr) inw)), (20, (zI G 10 lo)), (21, (zI G 12 sz)), (23, (zI G 5 (wd 0))), (24, (zI G 5 (wd 1))), (25, (zI G 5 (wd 2))), (26, (zI G 5 (wd 3))), (27, (zI G 5 (wd 4))), (28, (zI G 5 (wd 5))), (29, (zI G 5 (wd 6))), (30, (zI G 5 (wd 7))), (31, (zI G 5 (wd 8)))]) rfl ?_
  refine z_heap (g' := zu (zus g [(19, (oTxt G 19 (nI pts) (nI lns) (nI ltr) inw)), (20, (zI G 10 lo)), (21, (zI G 12 sz)), (23, (zI G 5 (wd 0))), (24, (zI G 5 (wd 1))), (25, (zI G 5 (wd 2))), (26, (zI G 5 (wd 3))), (27, (zI G 5 (wd 4))), (28, (zI G 5 (wd 5))), (29, (zI G 5 (wd 6))), (30, (zI G 5 (wd 7))), (31, (zI G 5 (wd 8)))]) 32 (zI G 5 (wd 9))) (zu_self (zus g [(19, (oTxt G 19 (nI pts) (nI lns) (nI ltr) inw)), (20, (zI G 10 lo)), (21, (zI G 12 sz)), (23, (zI G 5 (wd 0))), (24, (zI G 5 (wd 1))), (25, (zI G 5 (wd 2))), (26, (zI G 5 (wd 3))), (27, (zI G 5 (wd 4))), (28, (zI G 5 (wd 5))), (29, (zI G 5 (wd 6))), (30, (zI G 5 (wd 7))), (31, (zI G 5 (wd 8)))]) 32 _ (h23 9 (by decide))).symm ?_
  refine z_n (L' := [(19, (oTxt G 19 (nI pts) (nI lns) (nI ltr) inw)), (20, (zI G 10 lo)), (21, (zI G 12 sz)), (23, (zI G 5 (wd 0))), (24, (zI G 5 (wd 1))), (25, (zI G 5 (wd 2))), (26, (zI G 5 (wd 3))), (27, (zI G 5 (wd 4))), (28, (zI G 5 (wd 5))), (29, (zI G 5 (wd 6))), (30, (zI G 5 (wd 7))), (31, (zI G 5 (wd 8))), (32, (zI G 5 (wd 9)))]) rfl ?_
  refine z_heap (g' := zu (zus g [(19, (oTxt G 19 (nI pts) (nI lns) (nI ltr) inw)), (20, (zI G 10 lo)), (21, (zI G 12 sz)), (23, (zI G 5 (wd 0))), (24, (zI G 5 (wd 1))), (25, (zI G 5 (wd 2))), (26, (zI G 5 (wd 3))), (27, (zI G 5 (wd 4))), (28, (zI G 5 (wd 5))), (29, (zI G 5 (wd 6))), (30, (zI G 5 (wd 7))), (31, (zI G 5 (wd 8))), (32, (zI G 5 (wd 9)))]) 33 (zI G 5 (wd 10))) (zu_self (zus g [(19, (oTxt G 19 (nI pts) (nI lns) (nI ltr) inw)), (20, (zI G 10 lo)), (21, (zI G 12 sz)), (23, (zI G 5 (wd 0))), (24, (zI G 5 (wd 1))), (25, (zI G 5 (wd 2))), (26, (zI G 5 (wd 3))), (27, (zI G 5 (wd 4))), (28, (zI G 5 (wd 5))), (29, (zI G 5 (wd 6))), (30, (zI G 5 (wd 7))), (31, (zI G 5 (wd 8))), (32, (zI G 5 (wd 9)))]) 33 _ (h23 10 (by decide))).symm ?_
  refine z_n (L' := [(19, (oTxt G 19 (nI pts) (nI lns) (nI ltr) inw)), (20, (zI G 10 lo)), (21, (zI G 12 sz)), (23, (zI G 5 (wd 0))), (24, (zI G 5 (wd 1))), (25, (zI G 5 (wd 2))), (26, (zI G 5 (wd 3))), (27, (zI G 5 (wd 4))), (28, (zI G 5 (wd 5))), (29, (zI G 5 (wd 6))), (30, (zI G 5 (wd 7))), (31, (zI G 5 (wd 8))), (32, (zI G 5 (wd 9))), (33, (zI G 5 (wd 10)))]) rfl ?_
  refine z_heap (g' := zu (zus g [(19, (oTxt G 19 (nI pts) (nI lns) (nI ltr) inw)), (20, (zI G 10 lo)), (21, (zI G 12 sz)), (23, (zI G 5 (wd 0))), (24, (zI G 5 (wd 1))), (25, (zI G 5 (wd 2))), (26, (zI G 5 (wd 3))), (27, (zI G 5 (wd 4))), (28, (zI G 5 (wd 5))), (29, (zI G 5 (wd 6))), (30, (zI G 5 (wd 7))), (31, (zI G 5 (wd 8))), (32, (zI G 5 (wd 9))), (33, (zI G 5 (wd 10)))]) 34 (zI G 5 (wd 11))) (zu_self (zus g [(19, (oTxt G 19 (nI pts) (nI lns) (nI ltr) inw)), (20, (zI G 10 lo)), (21, (zI G 12 sz)), (23, (zI G 5 (wd 0))), (24, (zI G 5 (wd 1))), (25, (zI G 5 (wd 2))), (26, (zI G 5 (wd 3))), (27, (zI G 5 (wd 4))), (28, (zI G 5 (wd 5))), (29, (zI G 5 (wd 6))), (30, (zI G 5 (wd 7))), (31, (zI G 5 (wd 8))), (32, (zI G 5 (wd 9))), (33, (zI G 5 (wd 10)))]) 34 _ (h23 11 (by decide))).symm ?_
  refine z_n (L' := [(19, (oTxt G 19 (nI pts) (nI lns) (nI ltr) inw)), (20, (zI G 10 lo)), (21, (zI G 12 sz)), (23, (zI G 5 (wd 0))), (24, (zI G 5 (wd 1))), (25, (zI G 5 (wd 2))), (26, (zI G 5 (wd 3))), (27, (zI G 5 (wd 4))), (28, (zI G 5 (wd 5))), (29, (zI G 5 (wd 6))), (30, (zI G 5 (wd 7))), (31, (zI G 5 (wd 8))), (32, (zI G 5 (wd 9))), (33, (zI G 5 (wd 10))), (34, (zI G 5 (wd 11)))]) rfl ?_
  refine z_heap (g' := zu (zus g [(19, (oTxt G 19 (nI pts) (nI lns) (nI ltr) inw)), (20, (zI G 10 lo)), (21, (zI G 12 sz)), (23, (zI G 5 (wd 0))), (24, (zI G 5 (wd 1))), (25, (zI G 5 (wd 2))), (26, (zI G 5 (wd 3))), (27, (zI G 5 (wd 4))), (28, (zI G 5 (wd 5))), (29, (zI G 5 (wd 6))), (30, (zI G 5 (wd 7))), (31, (zI G 5 (wd 8))), (32, (zI G 5 (wd 9))), (33, (zI G 5 (wd 10))), (34, (zI G 5 (wd 11)))]) 35 (zI G 12 msk)) (zu_self (zus g [(19, (oTxt G 19 (nI pts) (nI lns) (nI ltr) inw)), (20, (zI G 10 lo)), (21, (zI G 12 sz)), (23, (zI G 5 (wd 0))), (24, (zI G 5 (wd 1))), (25, (zI G 5 (wd 2))), (26, (zI G 5 (wd 3))), (27, (zI G 5 (wd 4))), (28, (zI G 5 (wd 5))), (29, (zI G 5 (wd 6))), (30, (zI G 5 (wd 7))), (31, (zI G 5 (wd 8))), (32, (zI G 5 (wd 9))), (33, (zI G 5 (wd 10))), (34, (zI G 5 (wd 11)))]) 35 _ h35).symm ?_
  refine z_n (L' := [(19, (oTxt G 19 (nI pts) (nI lns) (nI ltr) inw)), (20, (zI G 10 lo)), (21, (zI G 12 sz)), (23, (zI G 5 (wd 0))), (24, (zI G 5 (wd 1))), (25, (zI G 5 (wd 2))), (26, (zI G 5 (wd 3))), (27, (zI G 5 (wd 4))), (28, (zI G 5 (wd 5))), (29, (zI G 5 (wd 6))), (30, (zI G 5 (wd 7))), (31, (zI G 5 (wd 8))), (32, (zI G 5 (wd 9))), (33, (zI G 5 (wd 10))), (34, (zI G 5 (wd 11))), (35, (zI G 12 msk))]) rfl ?_
  refine z_iload_n dX4_addsLetter_0 rfl rfl ?_
  refine z_bipush (v := nI 97) dX4_addsLetter_1 rfl (by decide) ?_
  refine z_icmp_lt (tgt := 26) dX4_addsLetter_3 rfl (by decide) (fun c3 => ?_) (fun c3 => ?_)
  · refine z_iconst (v := nI 0) dX4_addsLetter_26 rfl (by decide) ?_
    exact z_ireturn dX4_addsLetter_27 rfl rfl (Nat.le_refl _) (Nat.le_refl _) (fun _ => rfl) ⟨by simp only [X4_addsLetter_v, if_pos c3], by simp only [X4_addsLetter_pT0_0, X4_addsLetter_pT0_1, X4_addsLetter_pT0_2, X4_addsLetter_pT0_3, X4_addsLetter_cT1, X4_addsLetter_cT2, X4_addsLetter_cT4, X4_addsLetter_cT16, if_pos c3]⟩
  · refine z_iload_n dX4_addsLetter_6 rfl rfl ?_
    refine z_bipush (v := nI 106) dX4_addsLetter_7 rfl (by decide) ?_
    refine z_icmp_gt (tgt := 26) dX4_addsLetter_9 rfl (by decide) (fun c9 => ?_) (fun c9 => ?_)
    · refine z_iconst (v := nI 0) dX4_addsLetter_26 rfl (by decide) ?_
      exact z_ireturn dX4_addsLetter_27 rfl rfl (Nat.le_refl _) (Nat.le_refl _) (fun _ => rfl) ⟨by simp only [X4_addsLetter_v, if_neg c3, if_pos c9], by simp only [X4_addsLetter_pT0_0, X4_addsLetter_pT0_1, X4_addsLetter_pT0_2, X4_addsLetter_pT0_3, X4_addsLetter_cT1, X4_addsLetter_cT2, X4_addsLetter_cT4, X4_addsLetter_cT16, if_neg c3, if_pos c9]⟩
    · refine z_aload_n dX4_addsLetter_12 rfl rfl ?_
      refine z_get dX4_addsLetter_13 rfl hiX4_addsLetter_X4 7 lkX4_addsLetter_36 (Nat.le_of_ble_eq_true rfl) rfl rfl (by decide) rfl ?_
      refine z_if_ne (tgt := 28) dX4_addsLetter_16 rfl (by decide) (fun c16 => ?_) (fun c16 => ?_)
      · have hl1 : 1 ≤ lns := hinw c16
        have hsz9 : ∀ l, l < lns → vp_in (sz l) 6 := hsz
        refine z_aload_n dX4_addsLetter_28 rfl rfl ?_
        refine z_get dX4_addsLetter_29 rfl hiX4_addsLetter_X4 1 lkX4_addsLetter_15 (Nat.le_of_ble_eq_true rfl) rfl rfl (by decide) rfl ?_
        refine z_iconst (v := nI 1) dX4_addsLetter_32 rfl (by decide) ?_
        refine z_isub dX4_addsLetter_33 rfl ?_
        refine z_top (show (nI lns) - (nI 1) = nI (lns - 1) from (zq_sub rfl rfl (by omega))) ?_
        refine z_istore_2 dX4_addsLetter_34 rfl ?_
        refine z_aload_n dX4_addsLetter_35 rfl rfl ?_
        refine z_iload_n dX4_addsLetter_36 rfl rfl ?_
        refine z_callVi (c_X4_pointOf_19 G ex _ pts lns ltr inw lo lt (by omega) (hroom (Int32.not_lt.mp c3) (Int32.not_lt.mp c9)) rfl rfl) gX4_addsLetter_X4_pointOf rfl dX4_addsLetter_37 rfl rfl rfl okk_X4_pointOf (Nat.le_of_ble_eq_true rfl) rfl rfl ⟨Nat.le_of_ble_eq_true rfl, Nat.le_of_ble_eq_true rfl⟩ ⟨Nat.le_of_ble_eq_true rfl, Nat.le_of_ble_eq_true rfl⟩ (Nat.le_of_ble_eq_true rfl) ?_
        refine z_nn (L' := [(19, (oTxt G 19 (nI (X4_pointOf_pT0_0 pts lns ltr inw lo lt)) (nI lns) (nI ltr) inw)), (20, (zI G 10 (X4_pointOf_cT1 pts lns ltr inw lo lt))), (21, (zI G 12 sz)), (23, (zI G 5 (wd 0))), (24, (zI G 5 (wd 1))), (25, (zI G 5 (wd 2))), (26, (zI G 5 (wd 3))), (27, (zI G 5 (wd 4))), (28, (zI G 5 (wd 5))), (29, (zI G 5 (wd 6))), (30, (zI G 5 (wd 7))), (31, (zI G 5 (wd 8))), (32, (zI G 5 (wd 9))), (33, (zI G 5 (wd 10))), (34, (zI G 5 (wd 11))), (35, (zI G 12 msk))]) rfl ?_
        refine z_istore_3 dX4_addsLetter_40 rfl ?_
        refine z_aload_n dX4_addsLetter_41 rfl rfl ?_
        refine z_get dX4_addsLetter_42 rfl hiX4_addsLetter_X4 4 lkX4_addsLetter_25 (Nat.le_of_ble_eq_true rfl) rfl rfl (by decide) rfl ?_
        refine z_iload_n dX4_addsLetter_45 rfl rfl ?_
        refine z_ialdN (j := lns - 1) dX4_addsLetter_46 rfl (Nat.le_of_ble_eq_true rfl) rfl (rfl) (by omega) (by decide) ?_
        refine z_iconst (v := nI 5) dX4_addsLetter_47 rfl (by decide) ?_
        refine z_icmp_ge (tgt := 62) dX4_addsLetter_48 rfl (by decide) (fun c48 => ?_) (fun c48 => ?_)
        · refine z_iconst (v := nI 0) dX4_addsLetter_62 rfl (by decide) ?_
          exact z_ireturn dX4_addsLetter_63 rfl rfl (Nat.le_refl _) (Nat.le_refl _) (fun _ => rfl) ⟨by simp only [X4_addsLetter_v, if_neg c3, if_neg c9, if_neg c16, if_pos c48], by simp only [X4_addsLetter_pT0_0, X4_addsLetter_pT0_1, X4_addsLetter_pT0_2, X4_addsLetter_pT0_3, X4_addsLetter_cT1, X4_addsLetter_cT2, X4_addsLetter_cT4, X4_addsLetter_cT16, if_neg c3, if_neg c9, if_neg c16, if_pos c48]⟩
        · refine z_aload_n dX4_addsLetter_51 rfl rfl ?_
          refine z_iload_n dX4_addsLetter_52 rfl rfl ?_
          refine z_iconst (v := nI 1) dX4_addsLetter_53 rfl (by decide) ?_
          refine z_iload_n dX4_addsLetter_54 rfl rfl ?_
          refine z_ishl dX4_addsLetter_55 rfl ?_
          refine z_callVi (c_X4_clashes_19 G ex _ (X4_pointOf_pT0_0 pts lns ltr inw lo lt) lns ltr inw msk (lns - 1) ((nI 1) <<< ((X4_pointOf_v pts lns ltr inw lo lt) &&& 31)) (by omega) rfl rfl) gX4_addsLetter_X4_clashes rfl dX4_addsLetter_56 rfl rfl rfl okk_X4_clashes (Nat.le_of_ble_eq_true rfl) rfl rfl ⟨Nat.le_of_ble_eq_true rfl, Nat.le_of_ble_eq_true rfl⟩ ⟨Nat.le_of_ble_eq_true rfl, Nat.le_of_ble_eq_true rfl⟩ (Nat.le_of_ble_eq_true rfl) ?_
          refine z_if_eq (tgt := 64) dX4_addsLetter_59 rfl (by decide) (fun c59 => ?_) (fun c59 => ?_)
          · refine z_aload_n dX4_addsLetter_64 rfl rfl ?_
            refine z_get dX4_addsLetter_65 rfl hiX4_addsLetter_X4 5 lkX4_addsLetter_30 (Nat.le_of_ble_eq_true rfl) rfl rfl (by decide) rfl ?_
            refine z_iload_n dX4_addsLetter_68 rfl rfl ?_
            refine z_aaldN (j := lns - 1) (a := zB G + (23 + (lns - 1))) dX4_addsLetter_69 rfl (Nat.le_of_ble_eq_true rfl) h22 (rfl) (by omega) (by decide) (zrw_at (by omega)) ?_
            refine z_aload_n dX4_addsLetter_70 rfl rfl ?_
            refine z_get dX4_addsLetter_71 rfl hiX4_addsLetter_X4 4 lkX4_addsLetter_25 (Nat.le_of_ble_eq_true rfl) rfl rfl (by decide) rfl ?_
            refine z_iload_n dX4_addsLetter_74 rfl rfl ?_
            refine z_ialdN (j := lns - 1) dX4_addsLetter_75 rfl (Nat.le_of_ble_eq_true rfl) rfl (rfl) (by omega) (by decide) ?_
            refine z_iload_n dX4_addsLetter_76 rfl rfl ?_
            refine z_iast dX4_addsLetter_77 rfl (zk12 (by omega) (by decide)) (zw12 (P := fun l9 => zus g [(19, (oTxt G 19 (nI (X4_pointOf_pT0_0 pts lns ltr inw lo lt)) (nI lns) (nI ltr) inw)), (20, (zI G 10 (X4_pointOf_cT1 pts lns ltr inw lo lt))), (21, (zI G 12 sz)), (23, (zI G 5 (wd 0))), (24, (zI G 5 (wd 1))), (25, (zI G 5 (wd 2))), (26, (zI G 5 (wd 3))), (27, (zI G 5 (wd 4))), (28, (zI G 5 (wd 5))), (29, (zI G 5 (wd 6))), (30, (zI G 5 (wd 7))), (31, (zI G 5 (wd 8))), (32, (zI G 5 (wd 9))), (33, (zI G 5 (wd 10))), (34, (zI G 5 (wd 11))), (35, (zI G 12 msk))] (23 + l9) = zI G 5 (wd l9)) rfl rfl rfl rfl rfl rfl rfl rfl rfl rfl rfl rfl _ (by omega)) (vp_in5 (hsz9 _ (by omega)) c48) ?_
            refine z_n (L' := [(19, (oTxt G 19 (nI (X4_pointOf_pT0_0 pts lns ltr inw lo lt)) (nI lns) (nI ltr) inw)), (20, (zI G 10 (X4_pointOf_cT1 pts lns ltr inw lo lt))), (21, (zI G 12 sz)), (23, (zI G 5 ((updR wd (lns - 1) (upd (wd (lns - 1)) (sz (lns - 1)).toNatClampNeg (X4_pointOf_v pts lns ltr inw lo lt))) 0))), (24, (zI G 5 ((updR wd (lns - 1) (upd (wd (lns - 1)) (sz (lns - 1)).toNatClampNeg (X4_pointOf_v pts lns ltr inw lo lt))) 1))), (25, (zI G 5 ((updR wd (lns - 1) (upd (wd (lns - 1)) (sz (lns - 1)).toNatClampNeg (X4_pointOf_v pts lns ltr inw lo lt))) 2))), (26, (zI G 5 ((updR wd (lns - 1) (upd (wd (lns - 1)) (sz (lns - 1)).toNatClampNeg (X4_pointOf_v pts lns ltr inw lo lt))) 3))), (27, (zI G 5 ((updR wd (lns - 1) (upd (wd (lns - 1)) (sz (lns - 1)).toNatClampNeg (X4_pointOf_v pts lns ltr inw lo lt))) 4))), (28, (zI G 5 ((updR wd (lns - 1) (upd (wd (lns - 1)) (sz (lns - 1)).toNatClampNeg (X4_pointOf_v pts lns ltr inw lo lt))) 5))), (29, (zI G 5 ((updR wd (lns - 1) (upd (wd (lns - 1)) (sz (lns - 1)).toNatClampNeg (X4_pointOf_v pts lns ltr inw lo lt))) 6))), (30, (zI G 5 ((updR wd (lns - 1) (upd (wd (lns - 1)) (sz (lns - 1)).toNatClampNeg (X4_pointOf_v pts lns ltr inw lo lt))) 7))), (31, (zI G 5 ((updR wd (lns - 1) (upd (wd (lns - 1)) (sz (lns - 1)).toNatClampNeg (X4_pointOf_v pts lns ltr inw lo lt))) 8))), (32, (zI G 5 ((updR wd (lns - 1) (upd (wd (lns - 1)) (sz (lns - 1)).toNatClampNeg (X4_pointOf_v pts lns ltr inw lo lt))) 9))), (33, (zI G 5 ((updR wd (lns - 1) (upd (wd (lns - 1)) (sz (lns - 1)).toNatClampNeg (X4_pointOf_v pts lns ltr inw lo lt))) 10))), (34, (zI G 5 ((updR wd (lns - 1) (upd (wd (lns - 1)) (sz (lns - 1)).toNatClampNeg (X4_pointOf_v pts lns ltr inw lo lt))) 11))), (35, (zI G 12 msk))]) (zw12 (P := fun l9 => zsl [(19, (oTxt G 19 (nI (X4_pointOf_pT0_0 pts lns ltr inw lo lt)) (nI lns) (nI ltr) inw)), (20, (zI G 10 (X4_pointOf_cT1 pts lns ltr inw lo lt))), (21, (zI G 12 sz)), (23, (zI G 5 (wd 0))), (24, (zI G 5 (wd 1))), (25, (zI G 5 (wd 2))), (26, (zI G 5 (wd 3))), (27, (zI G 5 (wd 4))), (28, (zI G 5 (wd 5))), (29, (zI G 5 (wd 6))), (30, (zI G 5 (wd 7))), (31, (zI G 5 (wd 8))), (32, (zI G 5 (wd 9))), (33, (zI G 5 (wd 10))), (34, (zI G 5 (wd 11))), (35, (zI G 12 msk))] (23 + l9) (zI G 5 (upd (wd (lns - 1)) (sz (lns - 1)).toNatClampNeg (X4_pointOf_v pts lns ltr inw lo lt))) = [(19, (oTxt G 19 (nI (X4_pointOf_pT0_0 pts lns ltr inw lo lt)) (nI lns) (nI ltr) inw)), (20, (zI G 10 (X4_pointOf_cT1 pts lns ltr inw lo lt))), (21, (zI G 12 sz)), (23, (zI G 5 ((updR wd l9 (upd (wd (lns - 1)) (sz (lns - 1)).toNatClampNeg (X4_pointOf_v pts lns ltr inw lo lt))) 0))), (24, (zI G 5 ((updR wd l9 (upd (wd (lns - 1)) (sz (lns - 1)).toNatClampNeg (X4_pointOf_v pts lns ltr inw lo lt))) 1))), (25, (zI G 5 ((updR wd l9 (upd (wd (lns - 1)) (sz (lns - 1)).toNatClampNeg (X4_pointOf_v pts lns ltr inw lo lt))) 2))), (26, (zI G 5 ((updR wd l9 (upd (wd (lns - 1)) (sz (lns - 1)).toNatClampNeg (X4_pointOf_v pts lns ltr inw lo lt))) 3))), (27, (zI G 5 ((updR wd l9 (upd (wd (lns - 1)) (sz (lns - 1)).toNatClampNeg (X4_pointOf_v pts lns ltr inw lo lt))) 4))), (28, (zI G 5 ((updR wd l9 (upd (wd (lns - 1)) (sz (lns - 1)).toNatClampNeg (X4_pointOf_v pts lns ltr inw lo lt))) 5))), (29, (zI G 5 ((updR wd l9 (upd (wd (lns - 1)) (sz (lns - 1)).toNatClampNeg (X4_pointOf_v pts lns ltr inw lo lt))) 6))), (30, (zI G 5 ((updR wd l9 (upd (wd (lns - 1)) (sz (lns - 1)).toNatClampNeg (X4_pointOf_v pts lns ltr inw lo lt))) 7))), (31, (zI G 5 ((updR wd l9 (upd (wd (lns - 1)) (sz (lns - 1)).toNatClampNeg (X4_pointOf_v pts lns ltr inw lo lt))) 8))), (32, (zI G 5 ((updR wd l9 (upd (wd (lns - 1)) (sz (lns - 1)).toNatClampNeg (X4_pointOf_v pts lns ltr inw lo lt))) 9))), (33, (zI G 5 ((updR wd l9 (upd (wd (lns - 1)) (sz (lns - 1)).toNatClampNeg (X4_pointOf_v pts lns ltr inw lo lt))) 10))), (34, (zI G 5 ((updR wd l9 (upd (wd (lns - 1)) (sz (lns - 1)).toNatClampNeg (X4_pointOf_v pts lns ltr inw lo lt))) 11))), (35, (zI G 12 msk))]) rfl rfl rfl rfl rfl rfl rfl rfl rfl rfl rfl rfl _ (by omega)) ?_
            refine z_aload_n dX4_addsLetter_78 rfl rfl ?_
            refine z_get dX4_addsLetter_79 rfl hiX4_addsLetter_X4 4 lkX4_addsLetter_25 (Nat.le_of_ble_eq_true rfl) rfl rfl (by decide) rfl ?_
            refine z_iload_n dX4_addsLetter_82 rfl rfl ?_
            refine z_dup2 dX4_addsLetter_83 rfl rfl rfl ?_
            refine z_ialdN (j := lns - 1) dX4_addsLetter_84 rfl (Nat.le_of_ble_eq_true rfl) rfl (rfl) (by omega) (by decide) ?_
            refine z_iconst (v := nI 1) dX4_addsLetter_85 rfl (by decide) ?_
            refine z_iadd dX4_addsLetter_86 rfl ?_
            refine z_iastN (j := lns - 1) dX4_addsLetter_87 rfl (Nat.le_of_ble_eq_true rfl) rfl (rfl) (by omega) (by decide) ?_
            refine z_n (L' := [(19, (oTxt G 19 (nI (X4_pointOf_pT0_0 pts lns ltr inw lo lt)) (nI lns) (nI ltr) inw)), (20, (zI G 10 (X4_pointOf_cT1 pts lns ltr inw lo lt))), (21, (zI G 12 (upd sz (lns - 1) ((sz (lns - 1)) + (nI 1))))), (23, (zI G 5 ((updR wd (lns - 1) (upd (wd (lns - 1)) (sz (lns - 1)).toNatClampNeg (X4_pointOf_v pts lns ltr inw lo lt))) 0))), (24, (zI G 5 ((updR wd (lns - 1) (upd (wd (lns - 1)) (sz (lns - 1)).toNatClampNeg (X4_pointOf_v pts lns ltr inw lo lt))) 1))), (25, (zI G 5 ((updR wd (lns - 1) (upd (wd (lns - 1)) (sz (lns - 1)).toNatClampNeg (X4_pointOf_v pts lns ltr inw lo lt))) 2))), (26, (zI G 5 ((updR wd (lns - 1) (upd (wd (lns - 1)) (sz (lns - 1)).toNatClampNeg (X4_pointOf_v pts lns ltr inw lo lt))) 3))), (27, (zI G 5 ((updR wd (lns - 1) (upd (wd (lns - 1)) (sz (lns - 1)).toNatClampNeg (X4_pointOf_v pts lns ltr inw lo lt))) 4))), (28, (zI G 5 ((updR wd (lns - 1) (upd (wd (lns - 1)) (sz (lns - 1)).toNatClampNeg (X4_pointOf_v pts lns ltr inw lo lt))) 5))), (29, (zI G 5 ((updR wd (lns - 1) (upd (wd (lns - 1)) (sz (lns - 1)).toNatClampNeg (X4_pointOf_v pts lns ltr inw lo lt))) 6))), (30, (zI G 5 ((updR wd (lns - 1) (upd (wd (lns - 1)) (sz (lns - 1)).toNatClampNeg (X4_pointOf_v pts lns ltr inw lo lt))) 7))), (31, (zI G 5 ((updR wd (lns - 1) (upd (wd (lns - 1)) (sz (lns - 1)).toNatClampNeg (X4_pointOf_v pts lns ltr inw lo lt))) 8))), (32, (zI G 5 ((updR wd (lns - 1) (upd (wd (lns - 1)) (sz (lns - 1)).toNatClampNeg (X4_pointOf_v pts lns ltr inw lo lt))) 9))), (33, (zI G 5 ((updR wd (lns - 1) (upd (wd (lns - 1)) (sz (lns - 1)).toNatClampNeg (X4_pointOf_v pts lns ltr inw lo lt))) 10))), (34, (zI G 5 ((updR wd (lns - 1) (upd (wd (lns - 1)) (sz (lns - 1)).toNatClampNeg (X4_pointOf_v pts lns ltr inw lo lt))) 11))), (35, (zI G 12 msk))]) rfl ?_
            refine z_aload_n dX4_addsLetter_88 rfl rfl ?_
            refine z_get dX4_addsLetter_89 rfl hiX4_addsLetter_X4 6 lkX4_addsLetter_33 (Nat.le_of_ble_eq_true rfl) rfl rfl (by decide) rfl ?_
            refine z_iload_n dX4_addsLetter_92 rfl rfl ?_
            refine z_dup2 dX4_addsLetter_93 rfl rfl rfl ?_
            refine z_ialdN (j := lns - 1) dX4_addsLetter_94 rfl (Nat.le_of_ble_eq_true rfl) rfl (rfl) (by omega) (by decide) ?_
            refine z_iconst (v := nI 1) dX4_addsLetter_95 rfl (by decide) ?_
            refine z_iload_n dX4_addsLetter_96 rfl rfl ?_
            refine z_ishl dX4_addsLetter_97 rfl ?_
            refine z_ior dX4_addsLetter_98 rfl ?_
            refine z_iastN (j := lns - 1) dX4_addsLetter_99 rfl (Nat.le_of_ble_eq_true rfl) rfl (rfl) (by omega) (by decide) ?_
            refine z_n (L' := [(19, (oTxt G 19 (nI (X4_pointOf_pT0_0 pts lns ltr inw lo lt)) (nI lns) (nI ltr) inw)), (20, (zI G 10 (X4_pointOf_cT1 pts lns ltr inw lo lt))), (21, (zI G 12 (upd sz (lns - 1) ((sz (lns - 1)) + (nI 1))))), (23, (zI G 5 ((updR wd (lns - 1) (upd (wd (lns - 1)) (sz (lns - 1)).toNatClampNeg (X4_pointOf_v pts lns ltr inw lo lt))) 0))), (24, (zI G 5 ((updR wd (lns - 1) (upd (wd (lns - 1)) (sz (lns - 1)).toNatClampNeg (X4_pointOf_v pts lns ltr inw lo lt))) 1))), (25, (zI G 5 ((updR wd (lns - 1) (upd (wd (lns - 1)) (sz (lns - 1)).toNatClampNeg (X4_pointOf_v pts lns ltr inw lo lt))) 2))), (26, (zI G 5 ((updR wd (lns - 1) (upd (wd (lns - 1)) (sz (lns - 1)).toNatClampNeg (X4_pointOf_v pts lns ltr inw lo lt))) 3))), (27, (zI G 5 ((updR wd (lns - 1) (upd (wd (lns - 1)) (sz (lns - 1)).toNatClampNeg (X4_pointOf_v pts lns ltr inw lo lt))) 4))), (28, (zI G 5 ((updR wd (lns - 1) (upd (wd (lns - 1)) (sz (lns - 1)).toNatClampNeg (X4_pointOf_v pts lns ltr inw lo lt))) 5))), (29, (zI G 5 ((updR wd (lns - 1) (upd (wd (lns - 1)) (sz (lns - 1)).toNatClampNeg (X4_pointOf_v pts lns ltr inw lo lt))) 6))), (30, (zI G 5 ((updR wd (lns - 1) (upd (wd (lns - 1)) (sz (lns - 1)).toNatClampNeg (X4_pointOf_v pts lns ltr inw lo lt))) 7))), (31, (zI G 5 ((updR wd (lns - 1) (upd (wd (lns - 1)) (sz (lns - 1)).toNatClampNeg (X4_pointOf_v pts lns ltr inw lo lt))) 8))), (32, (zI G 5 ((updR wd (lns - 1) (upd (wd (lns - 1)) (sz (lns - 1)).toNatClampNeg (X4_pointOf_v pts lns ltr inw lo lt))) 9))), (33, (zI G 5 ((updR wd (lns - 1) (upd (wd (lns - 1)) (sz (lns - 1)).toNatClampNeg (X4_pointOf_v pts lns ltr inw lo lt))) 10))), (34, (zI G 5 ((updR wd (lns - 1) (upd (wd (lns - 1)) (sz (lns - 1)).toNatClampNeg (X4_pointOf_v pts lns ltr inw lo lt))) 11))), (35, (zI G 12 (upd msk (lns - 1) ((msk (lns - 1)) ||| ((nI 1) <<< ((X4_pointOf_v pts lns ltr inw lo lt) &&& 31))))))]) rfl ?_
            refine z_aload_n dX4_addsLetter_100 rfl rfl ?_
            refine z_dup dX4_addsLetter_101 rfl rfl ?_
            refine z_get dX4_addsLetter_102 rfl hiX4_addsLetter_X4 2 lkX4_addsLetter_18 (Nat.le_of_ble_eq_true rfl) rfl rfl (by decide) rfl ?_
            refine z_iconst (v := nI 1) dX4_addsLetter_105 rfl (by decide) ?_
            refine z_iadd dX4_addsLetter_106 rfl ?_
            refine z_top (show (nI ltr) + (nI 1) = nI (ltr + 1) from (zq_add rfl rfl)) ?_
            refine z_putN (e9 := (oTxt G 19 (nI (X4_pointOf_pT0_0 pts lns ltr inw lo lt)) (nI lns) (nI (ltr + 1)) inw)) tyX4 tyX4_ok nmX4 dX4_addsLetter_107 rfl hiX4_addsLetter_X4 2 lkX4_addsLetter_18 rfl (by decide +kernel) (Nat.le_of_ble_eq_true rfl) rfl rfl (by decide) (Nat.le_of_ble_eq_true rfl) rfl rfl rfl ?_
            refine z_n (L' := [(19, (oTxt G 19 (nI (X4_pointOf_pT0_0 pts lns ltr inw lo lt)) (nI lns) (nI (ltr + 1)) inw)), (20, (zI G 10 (X4_pointOf_cT1 pts lns ltr inw lo lt))), (21, (zI G 12 (upd sz (lns - 1) ((sz (lns - 1)) + (nI 1))))), (23, (zI G 5 ((updR wd (lns - 1) (upd (wd (lns - 1)) (sz (lns - 1)).toNatClampNeg (X4_pointOf_v pts lns ltr inw lo lt))) 0))), (24, (zI G 5 ((updR wd (lns - 1) (upd (wd (lns - 1)) (sz (lns - 1)).toNatClampNeg (X4_pointOf_v pts lns ltr inw lo lt))) 1))), (25, (zI G 5 ((updR wd (lns - 1) (upd (wd (lns - 1)) (sz (lns - 1)).toNatClampNeg (X4_pointOf_v pts lns ltr inw lo lt))) 2))), (26, (zI G 5 ((updR wd (lns - 1) (upd (wd (lns - 1)) (sz (lns - 1)).toNatClampNeg (X4_pointOf_v pts lns ltr inw lo lt))) 3))), (27, (zI G 5 ((updR wd (lns - 1) (upd (wd (lns - 1)) (sz (lns - 1)).toNatClampNeg (X4_pointOf_v pts lns ltr inw lo lt))) 4))), (28, (zI G 5 ((updR wd (lns - 1) (upd (wd (lns - 1)) (sz (lns - 1)).toNatClampNeg (X4_pointOf_v pts lns ltr inw lo lt))) 5))), (29, (zI G 5 ((updR wd (lns - 1) (upd (wd (lns - 1)) (sz (lns - 1)).toNatClampNeg (X4_pointOf_v pts lns ltr inw lo lt))) 6))), (30, (zI G 5 ((updR wd (lns - 1) (upd (wd (lns - 1)) (sz (lns - 1)).toNatClampNeg (X4_pointOf_v pts lns ltr inw lo lt))) 7))), (31, (zI G 5 ((updR wd (lns - 1) (upd (wd (lns - 1)) (sz (lns - 1)).toNatClampNeg (X4_pointOf_v pts lns ltr inw lo lt))) 8))), (32, (zI G 5 ((updR wd (lns - 1) (upd (wd (lns - 1)) (sz (lns - 1)).toNatClampNeg (X4_pointOf_v pts lns ltr inw lo lt))) 9))), (33, (zI G 5 ((updR wd (lns - 1) (upd (wd (lns - 1)) (sz (lns - 1)).toNatClampNeg (X4_pointOf_v pts lns ltr inw lo lt))) 10))), (34, (zI G 5 ((updR wd (lns - 1) (upd (wd (lns - 1)) (sz (lns - 1)).toNatClampNeg (X4_pointOf_v pts lns ltr inw lo lt))) 11))), (35, (zI G 12 (upd msk (lns - 1) ((msk (lns - 1)) ||| ((nI 1) <<< ((X4_pointOf_v pts lns ltr inw lo lt) &&& 31))))))]) rfl ?_
            refine z_iconst (v := nI 1) dX4_addsLetter_110 rfl (by decide) ?_
            exact z_ireturn dX4_addsLetter_111 rfl rfl (Nat.le_refl _) (Nat.le_refl _) (fun _ => rfl) ⟨by simp only [X4_addsLetter_v, if_neg c3, if_neg c9, if_neg c16, if_neg c48, if_pos c59], by simp only [X4_addsLetter_pT0_0, X4_addsLetter_pT0_1, X4_addsLetter_pT0_2, X4_addsLetter_pT0_3, X4_addsLetter_cT1, X4_addsLetter_cT2, X4_addsLetter_cT4, X4_addsLetter_cT16, if_neg c3, if_neg c9, if_neg c16, if_neg c48, if_pos c59]⟩
          · refine z_iconst (v := nI 0) dX4_addsLetter_62 rfl (by decide) ?_
            exact z_ireturn dX4_addsLetter_63 rfl rfl (Nat.le_refl _) (Nat.le_refl _) (fun _ => rfl) ⟨by simp only [X4_addsLetter_v, if_neg c3, if_neg c9, if_neg c16, if_neg c48, if_neg c59], by simp only [X4_addsLetter_pT0_0, X4_addsLetter_pT0_1, X4_addsLetter_pT0_2, X4_addsLetter_pT0_3, X4_addsLetter_cT1, X4_addsLetter_cT2, X4_addsLetter_cT4, X4_addsLetter_cT16, if_neg c3, if_neg c9, if_neg c16, if_neg c48, if_neg c59]⟩
      · refine z_aload_n dX4_addsLetter_19 rfl rfl ?_
        refine z_callVi (c_X4_startsWord_19 G ex _ pts lns ltr inw sz msk (by omega) rfl rfl rfl) gX4_addsLetter_X4_startsWord rfl dX4_addsLetter_20 rfl rfl rfl okk_X4_startsWord (Nat.le_of_ble_eq_true rfl) rfl rfl ⟨Nat.le_of_ble_eq_true rfl, Nat.le_of_ble_eq_true rfl⟩ ⟨Nat.le_of_ble_eq_true rfl, Nat.le_of_ble_eq_true rfl⟩ (Nat.le_of_ble_eq_true rfl) ?_
        refine z_nn (L' := [(19, (oTxt G 19 (nI pts) (nI (X4_startsWord_pT0_1 lns)) (nI ltr) (X4_startsWord_pT0_3 lns inw))), (20, (zI G 10 lo)), (21, (zI G 12 (X4_startsWord_cT2 lns sz))), (23, (zI G 5 (wd 0))), (24, (zI G 5 (wd 1))), (25, (zI G 5 (wd 2))), (26, (zI G 5 (wd 3))), (27, (zI G 5 (wd 4))), (28, (zI G 5 (wd 5))), (29, (zI G 5 (wd 6))), (30, (zI G 5 (wd 7))), (31, (zI G 5 (wd 8))), (32, (zI G 5 (wd 9))), (33, (zI G 5 (wd 10))), (34, (zI G 5 (wd 11))), (35, (zI G 12 (X4_startsWord_cT16 lns msk)))]) rfl ?_
        refine z_if_ne (tgt := 28) dX4_addsLetter_23 rfl (by decide) (fun c23 => ?_) (fun c23 => ?_)
        · have hl12 : lns < 12 := startsWord_ok hl c23
          rw [startsWord_l hl12, startsWord_w hl12, startsWord_s hl12, startsWord_m hl12]
          have hsz9 : ∀ l, l < lns + 1 → vp_in (upd sz lns (nI 0) l) 6 := fun l h9 => by
            simp only [upd]
            split
            · exact vp_in_nI (by decide) (by decide)
            · exact hsz l (by omega)
          refine z_aload_n dX4_addsLetter_28 rfl rfl ?_
          refine z_get dX4_addsLetter_29 rfl hiX4_addsLetter_X4 1 lkX4_addsLetter_15 (Nat.le_of_ble_eq_true rfl) rfl rfl (by decide) rfl ?_
          refine z_iconst (v := nI 1) dX4_addsLetter_32 rfl (by decide) ?_
          refine z_isub dX4_addsLetter_33 rfl ?_
          refine z_top (show (nI (lns + 1)) - (nI 1) = nI ((lns + 1) - 1) from (zq_sub rfl rfl (by omega))) ?_
          refine z_istore_2 dX4_addsLetter_34 rfl ?_
          refine z_aload_n dX4_addsLetter_35 rfl rfl ?_
          refine z_iload_n dX4_addsLetter_36 rfl rfl ?_
          refine z_callVi (c_X4_pointOf_19 G ex _ pts (lns + 1) ltr (nI 1) lo lt (by omega) (hroom (Int32.not_lt.mp c3) (Int32.not_lt.mp c9)) rfl rfl) gX4_addsLetter_X4_pointOf rfl dX4_addsLetter_37 rfl rfl rfl okk_X4_pointOf (Nat.le_of_ble_eq_true rfl) rfl rfl ⟨Nat.le_of_ble_eq_true rfl, Nat.le_of_ble_eq_true rfl⟩ ⟨Nat.le_of_ble_eq_true rfl, Nat.le_of_ble_eq_true rfl⟩ (Nat.le_of_ble_eq_true rfl) ?_
          refine z_nn (L' := [(19, (oTxt G 19 (nI (X4_pointOf_pT0_0 pts (lns + 1) ltr (nI 1) lo lt)) (nI (lns + 1)) (nI ltr) (nI 1))), (20, (zI G 10 (X4_pointOf_cT1 pts (lns + 1) ltr (nI 1) lo lt))), (21, (zI G 12 (upd sz lns (nI 0)))), (23, (zI G 5 (wd 0))), (24, (zI G 5 (wd 1))), (25, (zI G 5 (wd 2))), (26, (zI G 5 (wd 3))), (27, (zI G 5 (wd 4))), (28, (zI G 5 (wd 5))), (29, (zI G 5 (wd 6))), (30, (zI G 5 (wd 7))), (31, (zI G 5 (wd 8))), (32, (zI G 5 (wd 9))), (33, (zI G 5 (wd 10))), (34, (zI G 5 (wd 11))), (35, (zI G 12 (upd msk lns (nI 0))))]) rfl ?_
          refine z_istore_3 dX4_addsLetter_40 rfl ?_
          refine z_aload_n dX4_addsLetter_41 rfl rfl ?_
          refine z_get dX4_addsLetter_42 rfl hiX4_addsLetter_X4 4 lkX4_addsLetter_25 (Nat.le_of_ble_eq_true rfl) rfl rfl (by decide) rfl ?_
          refine z_iload_n dX4_addsLetter_45 rfl rfl ?_
          refine z_ialdN (j := (lns + 1) - 1) dX4_addsLetter_46 rfl (Nat.le_of_ble_eq_true rfl) rfl (rfl) (by omega) (by decide) ?_
          refine z_iconst (v := nI 5) dX4_addsLetter_47 rfl (by decide) ?_
          refine z_icmp_ge (tgt := 62) dX4_addsLetter_48 rfl (by decide) (fun c48 => ?_) (fun c48 => ?_)
          · refine z_iconst (v := nI 0) dX4_addsLetter_62 rfl (by decide) ?_
            exact z_ireturn dX4_addsLetter_63 rfl rfl (Nat.le_refl _) (Nat.le_refl _) (fun _ => rfl) ⟨by simp only [X4_addsLetter_v, if_neg c3, if_neg c9, if_pos c16, if_neg c23, if_pos c48], by simp only [X4_addsLetter_pT0_0, X4_addsLetter_pT0_1, X4_addsLetter_pT0_2, X4_addsLetter_pT0_3, X4_addsLetter_cT1, X4_addsLetter_cT2, X4_addsLetter_cT4, X4_addsLetter_cT16, if_neg c3, if_neg c9, if_pos c16, if_neg c23, if_pos c48]⟩
          · refine z_aload_n dX4_addsLetter_51 rfl rfl ?_
            refine z_iload_n dX4_addsLetter_52 rfl rfl ?_
            refine z_iconst (v := nI 1) dX4_addsLetter_53 rfl (by decide) ?_
            refine z_iload_n dX4_addsLetter_54 rfl rfl ?_
            refine z_ishl dX4_addsLetter_55 rfl ?_
            refine z_callVi (c_X4_clashes_19 G ex _ (X4_pointOf_pT0_0 pts (lns + 1) ltr (nI 1) lo lt) (lns + 1) ltr (nI 1) (upd msk lns (nI 0)) ((lns + 1) - 1) ((nI 1) <<< ((X4_pointOf_v pts (lns + 1) ltr (nI 1) lo lt) &&& 31)) (by omega) rfl rfl) gX4_addsLetter_X4_clashes rfl dX4_addsLetter_56 rfl rfl rfl okk_X4_clashes (Nat.le_of_ble_eq_true rfl) rfl rfl ⟨Nat.le_of_ble_eq_true rfl, Nat.le_of_ble_eq_true rfl⟩ ⟨Nat.le_of_ble_eq_true rfl, Nat.le_of_ble_eq_true rfl⟩ (Nat.le_of_ble_eq_true rfl) ?_
            refine z_if_eq (tgt := 64) dX4_addsLetter_59 rfl (by decide) (fun c59 => ?_) (fun c59 => ?_)
            · refine z_aload_n dX4_addsLetter_64 rfl rfl ?_
              refine z_get dX4_addsLetter_65 rfl hiX4_addsLetter_X4 5 lkX4_addsLetter_30 (Nat.le_of_ble_eq_true rfl) rfl rfl (by decide) rfl ?_
              refine z_iload_n dX4_addsLetter_68 rfl rfl ?_
              refine z_aaldN (j := (lns + 1) - 1) (a := zB G + (23 + ((lns + 1) - 1))) dX4_addsLetter_69 rfl (Nat.le_of_ble_eq_true rfl) h22 (rfl) (by omega) (by decide) (zrw_at (by omega)) ?_
              refine z_aload_n dX4_addsLetter_70 rfl rfl ?_
              refine z_get dX4_addsLetter_71 rfl hiX4_addsLetter_X4 4 lkX4_addsLetter_25 (Nat.le_of_ble_eq_true rfl) rfl rfl (by decide) rfl ?_
              refine z_iload_n dX4_addsLetter_74 rfl rfl ?_
              refine z_ialdN (j := (lns + 1) - 1) dX4_addsLetter_75 rfl (Nat.le_of_ble_eq_true rfl) rfl (rfl) (by omega) (by decide) ?_
              refine z_iload_n dX4_addsLetter_76 rfl rfl ?_
              refine z_iast dX4_addsLetter_77 rfl (zk12 (by omega) (by decide)) (zw12 (P := fun l9 => zus g [(19, (oTxt G 19 (nI (X4_pointOf_pT0_0 pts (lns + 1) ltr (nI 1) lo lt)) (nI (lns + 1)) (nI ltr) (nI 1))), (20, (zI G 10 (X4_pointOf_cT1 pts (lns + 1) ltr (nI 1) lo lt))), (21, (zI G 12 (upd sz lns (nI 0)))), (23, (zI G 5 (wd 0))), (24, (zI G 5 (wd 1))), (25, (zI G 5 (wd 2))), (26, (zI G 5 (wd 3))), (27, (zI G 5 (wd 4))), (28, (zI G 5 (wd 5))), (29, (zI G 5 (wd 6))), (30, (zI G 5 (wd 7))), (31, (zI G 5 (wd 8))), (32, (zI G 5 (wd 9))), (33, (zI G 5 (wd 10))), (34, (zI G 5 (wd 11))), (35, (zI G 12 (upd msk lns (nI 0))))] (23 + l9) = zI G 5 (wd l9)) rfl rfl rfl rfl rfl rfl rfl rfl rfl rfl rfl rfl _ (by omega)) (vp_in5 (hsz9 _ (by omega)) c48) ?_
              refine z_n (L' := [(19, (oTxt G 19 (nI (X4_pointOf_pT0_0 pts (lns + 1) ltr (nI 1) lo lt)) (nI (lns + 1)) (nI ltr) (nI 1))), (20, (zI G 10 (X4_pointOf_cT1 pts (lns + 1) ltr (nI 1) lo lt))), (21, (zI G 12 (upd sz lns (nI 0)))), (23, (zI G 5 ((updR wd ((lns + 1) - 1) (upd (wd ((lns + 1) - 1)) ((upd sz lns (nI 0)) ((lns + 1) - 1)).toNatClampNeg (X4_pointOf_v pts (lns + 1) ltr (nI 1) lo lt))) 0))), (24, (zI G 5 ((updR wd ((lns + 1) - 1) (upd (wd ((lns + 1) - 1)) ((upd sz lns (nI 0)) ((lns + 1) - 1)).toNatClampNeg (X4_pointOf_v pts (lns + 1) ltr (nI 1) lo lt))) 1))), (25, (zI G 5 ((updR wd ((lns + 1) - 1) (upd (wd ((lns + 1) - 1)) ((upd sz lns (nI 0)) ((lns + 1) - 1)).toNatClampNeg (X4_pointOf_v pts (lns + 1) ltr (nI 1) lo lt))) 2))), (26, (zI G 5 ((updR wd ((lns + 1) - 1) (upd (wd ((lns + 1) - 1)) ((upd sz lns (nI 0)) ((lns + 1) - 1)).toNatClampNeg (X4_pointOf_v pts (lns + 1) ltr (nI 1) lo lt))) 3))), (27, (zI G 5 ((updR wd ((lns + 1) - 1) (upd (wd ((lns + 1) - 1)) ((upd sz lns (nI 0)) ((lns + 1) - 1)).toNatClampNeg (X4_pointOf_v pts (lns + 1) ltr (nI 1) lo lt))) 4))), (28, (zI G 5 ((updR wd ((lns + 1) - 1) (upd (wd ((lns + 1) - 1)) ((upd sz lns (nI 0)) ((lns + 1) - 1)).toNatClampNeg (X4_pointOf_v pts (lns + 1) ltr (nI 1) lo lt))) 5))), (29, (zI G 5 ((updR wd ((lns + 1) - 1) (upd (wd ((lns + 1) - 1)) ((upd sz lns (nI 0)) ((lns + 1) - 1)).toNatClampNeg (X4_pointOf_v pts (lns + 1) ltr (nI 1) lo lt))) 6))), (30, (zI G 5 ((updR wd ((lns + 1) - 1) (upd (wd ((lns + 1) - 1)) ((upd sz lns (nI 0)) ((lns + 1) - 1)).toNatClampNeg (X4_pointOf_v pts (lns + 1) ltr (nI 1) lo lt))) 7))), (31, (zI G 5 ((updR wd ((lns + 1) - 1) (upd (wd ((lns + 1) - 1)) ((upd sz lns (nI 0)) ((lns + 1) - 1)).toNatClampNeg (X4_pointOf_v pts (lns + 1) ltr (nI 1) lo lt))) 8))), (32, (zI G 5 ((updR wd ((lns + 1) - 1) (upd (wd ((lns + 1) - 1)) ((upd sz lns (nI 0)) ((lns + 1) - 1)).toNatClampNeg (X4_pointOf_v pts (lns + 1) ltr (nI 1) lo lt))) 9))), (33, (zI G 5 ((updR wd ((lns + 1) - 1) (upd (wd ((lns + 1) - 1)) ((upd sz lns (nI 0)) ((lns + 1) - 1)).toNatClampNeg (X4_pointOf_v pts (lns + 1) ltr (nI 1) lo lt))) 10))), (34, (zI G 5 ((updR wd ((lns + 1) - 1) (upd (wd ((lns + 1) - 1)) ((upd sz lns (nI 0)) ((lns + 1) - 1)).toNatClampNeg (X4_pointOf_v pts (lns + 1) ltr (nI 1) lo lt))) 11))), (35, (zI G 12 (upd msk lns (nI 0))))]) (zw12 (P := fun l9 => zsl [(19, (oTxt G 19 (nI (X4_pointOf_pT0_0 pts (lns + 1) ltr (nI 1) lo lt)) (nI (lns + 1)) (nI ltr) (nI 1))), (20, (zI G 10 (X4_pointOf_cT1 pts (lns + 1) ltr (nI 1) lo lt))), (21, (zI G 12 (upd sz lns (nI 0)))), (23, (zI G 5 (wd 0))), (24, (zI G 5 (wd 1))), (25, (zI G 5 (wd 2))), (26, (zI G 5 (wd 3))), (27, (zI G 5 (wd 4))), (28, (zI G 5 (wd 5))), (29, (zI G 5 (wd 6))), (30, (zI G 5 (wd 7))), (31, (zI G 5 (wd 8))), (32, (zI G 5 (wd 9))), (33, (zI G 5 (wd 10))), (34, (zI G 5 (wd 11))), (35, (zI G 12 (upd msk lns (nI 0))))] (23 + l9) (zI G 5 (upd (wd ((lns + 1) - 1)) ((upd sz lns (nI 0)) ((lns + 1) - 1)).toNatClampNeg (X4_pointOf_v pts (lns + 1) ltr (nI 1) lo lt))) = [(19, (oTxt G 19 (nI (X4_pointOf_pT0_0 pts (lns + 1) ltr (nI 1) lo lt)) (nI (lns + 1)) (nI ltr) (nI 1))), (20, (zI G 10 (X4_pointOf_cT1 pts (lns + 1) ltr (nI 1) lo lt))), (21, (zI G 12 (upd sz lns (nI 0)))), (23, (zI G 5 ((updR wd l9 (upd (wd ((lns + 1) - 1)) ((upd sz lns (nI 0)) ((lns + 1) - 1)).toNatClampNeg (X4_pointOf_v pts (lns + 1) ltr (nI 1) lo lt))) 0))), (24, (zI G 5 ((updR wd l9 (upd (wd ((lns + 1) - 1)) ((upd sz lns (nI 0)) ((lns + 1) - 1)).toNatClampNeg (X4_pointOf_v pts (lns + 1) ltr (nI 1) lo lt))) 1))), (25, (zI G 5 ((updR wd l9 (upd (wd ((lns + 1) - 1)) ((upd sz lns (nI 0)) ((lns + 1) - 1)).toNatClampNeg (X4_pointOf_v pts (lns + 1) ltr (nI 1) lo lt))) 2))), (26, (zI G 5 ((updR wd l9 (upd (wd ((lns + 1) - 1)) ((upd sz lns (nI 0)) ((lns + 1) - 1)).toNatClampNeg (X4_pointOf_v pts (lns + 1) ltr (nI 1) lo lt))) 3))), (27, (zI G 5 ((updR wd l9 (upd (wd ((lns + 1) - 1)) ((upd sz lns (nI 0)) ((lns + 1) - 1)).toNatClampNeg (X4_pointOf_v pts (lns + 1) ltr (nI 1) lo lt))) 4))), (28, (zI G 5 ((updR wd l9 (upd (wd ((lns + 1) - 1)) ((upd sz lns (nI 0)) ((lns + 1) - 1)).toNatClampNeg (X4_pointOf_v pts (lns + 1) ltr (nI 1) lo lt))) 5))), (29, (zI G 5 ((updR wd l9 (upd (wd ((lns + 1) - 1)) ((upd sz lns (nI 0)) ((lns + 1) - 1)).toNatClampNeg (X4_pointOf_v pts (lns + 1) ltr (nI 1) lo lt))) 6))), (30, (zI G 5 ((updR wd l9 (upd (wd ((lns + 1) - 1)) ((upd sz lns (nI 0)) ((lns + 1) - 1)).toNatClampNeg (X4_pointOf_v pts (lns + 1) ltr (nI 1) lo lt))) 7))), (31, (zI G 5 ((updR wd l9 (upd (wd ((lns + 1) - 1)) ((upd sz lns (nI 0)) ((lns + 1) - 1)).toNatClampNeg (X4_pointOf_v pts (lns + 1) ltr (nI 1) lo lt))) 8))), (32, (zI G 5 ((updR wd l9 (upd (wd ((lns + 1) - 1)) ((upd sz lns (nI 0)) ((lns + 1) - 1)).toNatClampNeg (X4_pointOf_v pts (lns + 1) ltr (nI 1) lo lt))) 9))), (33, (zI G 5 ((updR wd l9 (upd (wd ((lns + 1) - 1)) ((upd sz lns (nI 0)) ((lns + 1) - 1)).toNatClampNeg (X4_pointOf_v pts (lns + 1) ltr (nI 1) lo lt))) 10))), (34, (zI G 5 ((updR wd l9 (upd (wd ((lns + 1) - 1)) ((upd sz lns (nI 0)) ((lns + 1) - 1)).toNatClampNeg (X4_pointOf_v pts (lns + 1) ltr (nI 1) lo lt))) 11))), (35, (zI G 12 (upd msk lns (nI 0))))]) rfl rfl rfl rfl rfl rfl rfl rfl rfl rfl rfl rfl _ (by omega)) ?_
              refine z_aload_n dX4_addsLetter_78 rfl rfl ?_
              refine z_get dX4_addsLetter_79 rfl hiX4_addsLetter_X4 4 lkX4_addsLetter_25 (Nat.le_of_ble_eq_true rfl) rfl rfl (by decide) rfl ?_
              refine z_iload_n dX4_addsLetter_82 rfl rfl ?_
              refine z_dup2 dX4_addsLetter_83 rfl rfl rfl ?_
              refine z_ialdN (j := (lns + 1) - 1) dX4_addsLetter_84 rfl (Nat.le_of_ble_eq_true rfl) rfl (rfl) (by omega) (by decide) ?_
              refine z_iconst (v := nI 1) dX4_addsLetter_85 rfl (by decide) ?_
              refine z_iadd dX4_addsLetter_86 rfl ?_
              refine z_iastN (j := (lns + 1) - 1) dX4_addsLetter_87 rfl (Nat.le_of_ble_eq_true rfl) rfl (rfl) (by omega) (by decide) ?_
              refine z_n (L' := [(19, (oTxt G 19 (nI (X4_pointOf_pT0_0 pts (lns + 1) ltr (nI 1) lo lt)) (nI (lns + 1)) (nI ltr) (nI 1))), (20, (zI G 10 (X4_pointOf_cT1 pts (lns + 1) ltr (nI 1) lo lt))), (21, (zI G 12 (upd (upd sz lns (nI 0)) ((lns + 1) - 1) (((upd sz lns (nI 0)) ((lns + 1) - 1)) + (nI 1))))), (23, (zI G 5 ((updR wd ((lns + 1) - 1) (upd (wd ((lns + 1) - 1)) ((upd sz lns (nI 0)) ((lns + 1) - 1)).toNatClampNeg (X4_pointOf_v pts (lns + 1) ltr (nI 1) lo lt))) 0))), (24, (zI G 5 ((updR wd ((lns + 1) - 1) (upd (wd ((lns + 1) - 1)) ((upd sz lns (nI 0)) ((lns + 1) - 1)).toNatClampNeg (X4_pointOf_v pts (lns + 1) ltr (nI 1) lo lt))) 1))), (25, (zI G 5 ((updR wd ((lns + 1) - 1) (upd (wd ((lns + 1) - 1)) ((upd sz lns (nI 0)) ((lns + 1) - 1)).toNatClampNeg (X4_pointOf_v pts (lns + 1) ltr (nI 1) lo lt))) 2))), (26, (zI G 5 ((updR wd ((lns + 1) - 1) (upd (wd ((lns + 1) - 1)) ((upd sz lns (nI 0)) ((lns + 1) - 1)).toNatClampNeg (X4_pointOf_v pts (lns + 1) ltr (nI 1) lo lt))) 3))), (27, (zI G 5 ((updR wd ((lns + 1) - 1) (upd (wd ((lns + 1) - 1)) ((upd sz lns (nI 0)) ((lns + 1) - 1)).toNatClampNeg (X4_pointOf_v pts (lns + 1) ltr (nI 1) lo lt))) 4))), (28, (zI G 5 ((updR wd ((lns + 1) - 1) (upd (wd ((lns + 1) - 1)) ((upd sz lns (nI 0)) ((lns + 1) - 1)).toNatClampNeg (X4_pointOf_v pts (lns + 1) ltr (nI 1) lo lt))) 5))), (29, (zI G 5 ((updR wd ((lns + 1) - 1) (upd (wd ((lns + 1) - 1)) ((upd sz lns (nI 0)) ((lns + 1) - 1)).toNatClampNeg (X4_pointOf_v pts (lns + 1) ltr (nI 1) lo lt))) 6))), (30, (zI G 5 ((updR wd ((lns + 1) - 1) (upd (wd ((lns + 1) - 1)) ((upd sz lns (nI 0)) ((lns + 1) - 1)).toNatClampNeg (X4_pointOf_v pts (lns + 1) ltr (nI 1) lo lt))) 7))), (31, (zI G 5 ((updR wd ((lns + 1) - 1) (upd (wd ((lns + 1) - 1)) ((upd sz lns (nI 0)) ((lns + 1) - 1)).toNatClampNeg (X4_pointOf_v pts (lns + 1) ltr (nI 1) lo lt))) 8))), (32, (zI G 5 ((updR wd ((lns + 1) - 1) (upd (wd ((lns + 1) - 1)) ((upd sz lns (nI 0)) ((lns + 1) - 1)).toNatClampNeg (X4_pointOf_v pts (lns + 1) ltr (nI 1) lo lt))) 9))), (33, (zI G 5 ((updR wd ((lns + 1) - 1) (upd (wd ((lns + 1) - 1)) ((upd sz lns (nI 0)) ((lns + 1) - 1)).toNatClampNeg (X4_pointOf_v pts (lns + 1) ltr (nI 1) lo lt))) 10))), (34, (zI G 5 ((updR wd ((lns + 1) - 1) (upd (wd ((lns + 1) - 1)) ((upd sz lns (nI 0)) ((lns + 1) - 1)).toNatClampNeg (X4_pointOf_v pts (lns + 1) ltr (nI 1) lo lt))) 11))), (35, (zI G 12 (upd msk lns (nI 0))))]) rfl ?_
              refine z_aload_n dX4_addsLetter_88 rfl rfl ?_
              refine z_get dX4_addsLetter_89 rfl hiX4_addsLetter_X4 6 lkX4_addsLetter_33 (Nat.le_of_ble_eq_true rfl) rfl rfl (by decide) rfl ?_
              refine z_iload_n dX4_addsLetter_92 rfl rfl ?_
              refine z_dup2 dX4_addsLetter_93 rfl rfl rfl ?_
              refine z_ialdN (j := (lns + 1) - 1) dX4_addsLetter_94 rfl (Nat.le_of_ble_eq_true rfl) rfl (rfl) (by omega) (by decide) ?_
              refine z_iconst (v := nI 1) dX4_addsLetter_95 rfl (by decide) ?_
              refine z_iload_n dX4_addsLetter_96 rfl rfl ?_
              refine z_ishl dX4_addsLetter_97 rfl ?_
              refine z_ior dX4_addsLetter_98 rfl ?_
              refine z_iastN (j := (lns + 1) - 1) dX4_addsLetter_99 rfl (Nat.le_of_ble_eq_true rfl) rfl (rfl) (by omega) (by decide) ?_
              refine z_n (L' := [(19, (oTxt G 19 (nI (X4_pointOf_pT0_0 pts (lns + 1) ltr (nI 1) lo lt)) (nI (lns + 1)) (nI ltr) (nI 1))), (20, (zI G 10 (X4_pointOf_cT1 pts (lns + 1) ltr (nI 1) lo lt))), (21, (zI G 12 (upd (upd sz lns (nI 0)) ((lns + 1) - 1) (((upd sz lns (nI 0)) ((lns + 1) - 1)) + (nI 1))))), (23, (zI G 5 ((updR wd ((lns + 1) - 1) (upd (wd ((lns + 1) - 1)) ((upd sz lns (nI 0)) ((lns + 1) - 1)).toNatClampNeg (X4_pointOf_v pts (lns + 1) ltr (nI 1) lo lt))) 0))), (24, (zI G 5 ((updR wd ((lns + 1) - 1) (upd (wd ((lns + 1) - 1)) ((upd sz lns (nI 0)) ((lns + 1) - 1)).toNatClampNeg (X4_pointOf_v pts (lns + 1) ltr (nI 1) lo lt))) 1))), (25, (zI G 5 ((updR wd ((lns + 1) - 1) (upd (wd ((lns + 1) - 1)) ((upd sz lns (nI 0)) ((lns + 1) - 1)).toNatClampNeg (X4_pointOf_v pts (lns + 1) ltr (nI 1) lo lt))) 2))), (26, (zI G 5 ((updR wd ((lns + 1) - 1) (upd (wd ((lns + 1) - 1)) ((upd sz lns (nI 0)) ((lns + 1) - 1)).toNatClampNeg (X4_pointOf_v pts (lns + 1) ltr (nI 1) lo lt))) 3))), (27, (zI G 5 ((updR wd ((lns + 1) - 1) (upd (wd ((lns + 1) - 1)) ((upd sz lns (nI 0)) ((lns + 1) - 1)).toNatClampNeg (X4_pointOf_v pts (lns + 1) ltr (nI 1) lo lt))) 4))), (28, (zI G 5 ((updR wd ((lns + 1) - 1) (upd (wd ((lns + 1) - 1)) ((upd sz lns (nI 0)) ((lns + 1) - 1)).toNatClampNeg (X4_pointOf_v pts (lns + 1) ltr (nI 1) lo lt))) 5))), (29, (zI G 5 ((updR wd ((lns + 1) - 1) (upd (wd ((lns + 1) - 1)) ((upd sz lns (nI 0)) ((lns + 1) - 1)).toNatClampNeg (X4_pointOf_v pts (lns + 1) ltr (nI 1) lo lt))) 6))), (30, (zI G 5 ((updR wd ((lns + 1) - 1) (upd (wd ((lns + 1) - 1)) ((upd sz lns (nI 0)) ((lns + 1) - 1)).toNatClampNeg (X4_pointOf_v pts (lns + 1) ltr (nI 1) lo lt))) 7))), (31, (zI G 5 ((updR wd ((lns + 1) - 1) (upd (wd ((lns + 1) - 1)) ((upd sz lns (nI 0)) ((lns + 1) - 1)).toNatClampNeg (X4_pointOf_v pts (lns + 1) ltr (nI 1) lo lt))) 8))), (32, (zI G 5 ((updR wd ((lns + 1) - 1) (upd (wd ((lns + 1) - 1)) ((upd sz lns (nI 0)) ((lns + 1) - 1)).toNatClampNeg (X4_pointOf_v pts (lns + 1) ltr (nI 1) lo lt))) 9))), (33, (zI G 5 ((updR wd ((lns + 1) - 1) (upd (wd ((lns + 1) - 1)) ((upd sz lns (nI 0)) ((lns + 1) - 1)).toNatClampNeg (X4_pointOf_v pts (lns + 1) ltr (nI 1) lo lt))) 10))), (34, (zI G 5 ((updR wd ((lns + 1) - 1) (upd (wd ((lns + 1) - 1)) ((upd sz lns (nI 0)) ((lns + 1) - 1)).toNatClampNeg (X4_pointOf_v pts (lns + 1) ltr (nI 1) lo lt))) 11))), (35, (zI G 12 (upd (upd msk lns (nI 0)) ((lns + 1) - 1) (((upd msk lns (nI 0)) ((lns + 1) - 1)) ||| ((nI 1) <<< ((X4_pointOf_v pts (lns + 1) ltr (nI 1) lo lt) &&& 31))))))]) rfl ?_
              refine z_aload_n dX4_addsLetter_100 rfl rfl ?_
              refine z_dup dX4_addsLetter_101 rfl rfl ?_
              refine z_get dX4_addsLetter_102 rfl hiX4_addsLetter_X4 2 lkX4_addsLetter_18 (Nat.le_of_ble_eq_true rfl) rfl rfl (by decide) rfl ?_
              refine z_iconst (v := nI 1) dX4_addsLetter_105 rfl (by decide) ?_
              refine z_iadd dX4_addsLetter_106 rfl ?_
              refine z_top (show (nI ltr) + (nI 1) = nI (ltr + 1) from (zq_add rfl rfl)) ?_
              refine z_putN (e9 := (oTxt G 19 (nI (X4_pointOf_pT0_0 pts (lns + 1) ltr (nI 1) lo lt)) (nI (lns + 1)) (nI (ltr + 1)) (nI 1))) tyX4 tyX4_ok nmX4 dX4_addsLetter_107 rfl hiX4_addsLetter_X4 2 lkX4_addsLetter_18 rfl (by decide +kernel) (Nat.le_of_ble_eq_true rfl) rfl rfl (by decide) (Nat.le_of_ble_eq_true rfl) rfl rfl rfl ?_
              refine z_n (L' := [(19, (oTxt G 19 (nI (X4_pointOf_pT0_0 pts (lns + 1) ltr (nI 1) lo lt)) (nI (lns + 1)) (nI (ltr + 1)) (nI 1))), (20, (zI G 10 (X4_pointOf_cT1 pts (lns + 1) ltr (nI 1) lo lt))), (21, (zI G 12 (upd (upd sz lns (nI 0)) ((lns + 1) - 1) (((upd sz lns (nI 0)) ((lns + 1) - 1)) + (nI 1))))), (23, (zI G 5 ((updR wd ((lns + 1) - 1) (upd (wd ((lns + 1) - 1)) ((upd sz lns (nI 0)) ((lns + 1) - 1)).toNatClampNeg (X4_pointOf_v pts (lns + 1) ltr (nI 1) lo lt))) 0))), (24, (zI G 5 ((updR wd ((lns + 1) - 1) (upd (wd ((lns + 1) - 1)) ((upd sz lns (nI 0)) ((lns + 1) - 1)).toNatClampNeg (X4_pointOf_v pts (lns + 1) ltr (nI 1) lo lt))) 1))), (25, (zI G 5 ((updR wd ((lns + 1) - 1) (upd (wd ((lns + 1) - 1)) ((upd sz lns (nI 0)) ((lns + 1) - 1)).toNatClampNeg (X4_pointOf_v pts (lns + 1) ltr (nI 1) lo lt))) 2))), (26, (zI G 5 ((updR wd ((lns + 1) - 1) (upd (wd ((lns + 1) - 1)) ((upd sz lns (nI 0)) ((lns + 1) - 1)).toNatClampNeg (X4_pointOf_v pts (lns + 1) ltr (nI 1) lo lt))) 3))), (27, (zI G 5 ((updR wd ((lns + 1) - 1) (upd (wd ((lns + 1) - 1)) ((upd sz lns (nI 0)) ((lns + 1) - 1)).toNatClampNeg (X4_pointOf_v pts (lns + 1) ltr (nI 1) lo lt))) 4))), (28, (zI G 5 ((updR wd ((lns + 1) - 1) (upd (wd ((lns + 1) - 1)) ((upd sz lns (nI 0)) ((lns + 1) - 1)).toNatClampNeg (X4_pointOf_v pts (lns + 1) ltr (nI 1) lo lt))) 5))), (29, (zI G 5 ((updR wd ((lns + 1) - 1) (upd (wd ((lns + 1) - 1)) ((upd sz lns (nI 0)) ((lns + 1) - 1)).toNatClampNeg (X4_pointOf_v pts (lns + 1) ltr (nI 1) lo lt))) 6))), (30, (zI G 5 ((updR wd ((lns + 1) - 1) (upd (wd ((lns + 1) - 1)) ((upd sz lns (nI 0)) ((lns + 1) - 1)).toNatClampNeg (X4_pointOf_v pts (lns + 1) ltr (nI 1) lo lt))) 7))), (31, (zI G 5 ((updR wd ((lns + 1) - 1) (upd (wd ((lns + 1) - 1)) ((upd sz lns (nI 0)) ((lns + 1) - 1)).toNatClampNeg (X4_pointOf_v pts (lns + 1) ltr (nI 1) lo lt))) 8))), (32, (zI G 5 ((updR wd ((lns + 1) - 1) (upd (wd ((lns + 1) - 1)) ((upd sz lns (nI 0)) ((lns + 1) - 1)).toNatClampNeg (X4_pointOf_v pts (lns + 1) ltr (nI 1) lo lt))) 9))), (33, (zI G 5 ((updR wd ((lns + 1) - 1) (upd (wd ((lns + 1) - 1)) ((upd sz lns (nI 0)) ((lns + 1) - 1)).toNatClampNeg (X4_pointOf_v pts (lns + 1) ltr (nI 1) lo lt))) 10))), (34, (zI G 5 ((updR wd ((lns + 1) - 1) (upd (wd ((lns + 1) - 1)) ((upd sz lns (nI 0)) ((lns + 1) - 1)).toNatClampNeg (X4_pointOf_v pts (lns + 1) ltr (nI 1) lo lt))) 11))), (35, (zI G 12 (upd (upd msk lns (nI 0)) ((lns + 1) - 1) (((upd msk lns (nI 0)) ((lns + 1) - 1)) ||| ((nI 1) <<< ((X4_pointOf_v pts (lns + 1) ltr (nI 1) lo lt) &&& 31))))))]) rfl ?_
              refine z_iconst (v := nI 1) dX4_addsLetter_110 rfl (by decide) ?_
              exact z_ireturn dX4_addsLetter_111 rfl rfl (Nat.le_refl _) (Nat.le_refl _) (fun _ => rfl) ⟨by simp only [X4_addsLetter_v, if_neg c3, if_neg c9, if_pos c16, if_neg c23, if_neg c48, if_pos c59], by simp only [X4_addsLetter_pT0_0, X4_addsLetter_pT0_1, X4_addsLetter_pT0_2, X4_addsLetter_pT0_3, X4_addsLetter_cT1, X4_addsLetter_cT2, X4_addsLetter_cT4, X4_addsLetter_cT16, if_neg c3, if_neg c9, if_pos c16, if_neg c23, if_neg c48, if_pos c59]⟩
            · refine z_iconst (v := nI 0) dX4_addsLetter_62 rfl (by decide) ?_
              exact z_ireturn dX4_addsLetter_63 rfl rfl (Nat.le_refl _) (Nat.le_refl _) (fun _ => rfl) ⟨by simp only [X4_addsLetter_v, if_neg c3, if_neg c9, if_pos c16, if_neg c23, if_neg c48, if_neg c59], by simp only [X4_addsLetter_pT0_0, X4_addsLetter_pT0_1, X4_addsLetter_pT0_2, X4_addsLetter_pT0_3, X4_addsLetter_cT1, X4_addsLetter_cT2, X4_addsLetter_cT4, X4_addsLetter_cT16, if_neg c3, if_neg c9, if_pos c16, if_neg c23, if_neg c48, if_neg c59]⟩
        · refine z_iconst (v := nI 0) dX4_addsLetter_26 rfl (by decide) ?_
          exact z_ireturn dX4_addsLetter_27 rfl rfl (Nat.le_refl _) (Nat.le_refl _) (fun _ => rfl) ⟨by simp only [X4_addsLetter_v, if_neg c3, if_neg c9, if_pos c16, if_pos c23], by simp only [X4_addsLetter_pT0_0, X4_addsLetter_pT0_1, X4_addsLetter_pT0_2, X4_addsLetter_pT0_3, X4_addsLetter_cT1, X4_addsLetter_cT2, X4_addsLetter_cT4, X4_addsLetter_cT16, if_neg c3, if_neg c9, if_pos c16, if_pos c23]⟩
