abbrev mX0_judge : zM := (cX0_judge, 8, (some .int), RX0, wsX0_judge, "judge")
theorem lkX0_judge_79 : Cond.fieldLink RX0 79 "ConfigSearch$Following" "TERM_TURN" "[I" ∈ wsX0_judge := by decide +kernel
theorem okk_X0_tell : zOk yX0_tell 2 := by unfold zOk; decide +kernel
def X0_judge_L10_F (now : Nat → Int32) (rl : Nat → Int32) (tm : Nat) (a9 : (Int32) × (Int32) × (Int32)) : (Int32) × (Int32) × (Int32) := if (X0_signIn_v now rl tm 0) = (-4) then (if a9.1 = (-4) then (if (X0_signIn_v now rl tm 0) = (X0_signIn_v now rl tm 1) then (a9.1, a9.2.1, a9.2.2) else (nI tm, a9.2.1, a9.2.2)) else (a9.1, a9.2.1, a9.2.2)) else (if (X0_signIn_v now rl tm 1) = (-4) then (if a9.1 = (-4) then (if (X0_signIn_v now rl tm 0) = (X0_signIn_v now rl tm 1) then (a9.1, a9.2.1, a9.2.2) else (nI tm, a9.2.1, a9.2.2)) else (a9.1, a9.2.1, a9.2.2)) else (if (((ttI tm) * (X0_signIn_v now rl tm 0)) * (X0_signIn_v now rl tm 1)) ≤ 0 then (if 0 ≤ (((ttI tm) * (X0_signIn_v now rl tm 0)) * (X0_signIn_v now rl tm 1)) then (a9.1, a9.2.1 + (nI 0), a9.2.2 + (nI 0)) else (a9.1, a9.2.1 + (nI 0), a9.2.2 + (nI 1))) else (if 0 ≤ (((ttI tm) * (X0_signIn_v now rl tm 0)) * (X0_signIn_v now rl tm 1)) then (a9.1, a9.2.1 + (nI 1), a9.2.2 + (nI 0)) else (a9.1, a9.2.1 + (nI 1), a9.2.2 + (nI 1)))))
def X0_judge_L10_B (ts : Int32) (now : Nat → Int32) (rl : Nat → Int32) (tt : Nat → Int32) (tm : Nat) (a9 : (Int32) × (Int32) × (Int32)) : Option ((Int32) × (Int32) × (Nat → Int32)) := if (X0_signIn_v now rl tm 0) = (-4) then (if a9.1 = (-4) then (if (X0_signIn_v now rl tm 0) = (X0_signIn_v now rl tm 1) then (some ((-4), ts, tt)) else none) else (some ((-4), ts, tt))) else (if (X0_signIn_v now rl tm 1) = (-4) then (if a9.1 = (-4) then (if (X0_signIn_v now rl tm 0) = (X0_signIn_v now rl tm 1) then (some ((-4), ts, tt)) else none) else (some ((-4), ts, tt))) else (if (((ttI tm) * (X0_signIn_v now rl tm 0)) * (X0_signIn_v now rl tm 1)) ≤ 0 then (if 0 ≤ (((ttI tm) * (X0_signIn_v now rl tm 0)) * (X0_signIn_v now rl tm 1)) then none else none) else (if 0 ≤ (((ttI tm) * (X0_signIn_v now rl tm 0)) * (X0_signIn_v now rl tm 1)) then none else none)))
def X0_judge_v (rows outc ts : Int32) (now rl tt ba : Nat → Int32) : Int32 := zpick (zfoldB (X0_judge_L10_B ts now rl tt) (X0_judge_L10_F now rl) 3 0 ((-4), nI 0, nI 0)) (fun b => b.1) (fun am10 => if am10.2.1 ≤ 0 then (if am10.2.2 ≤ 0 then (if am10.1 = (-4) then (-4) else (X0_tell_v now rl ba am10.1.toNatClampNeg (nI 0))) else (if am10.1 = (-4) then (nI 1) else (X0_tell_v now rl ba am10.1.toNatClampNeg (nI 1)))) else (if am10.2.2 ≤ 0 then (if am10.1 = (-4) then (nI 1) else (X0_tell_v now rl ba am10.1.toNatClampNeg (-1))) else (if am10.1 = (-4) then (-4) else (-4))))
def X0_judge_p59_2 (rows outc ts : Int32) (now rl tt ba : Nat → Int32) : Int32 := zpick (zfoldB (X0_judge_L10_B ts now rl tt) (X0_judge_L10_F now rl) 3 0 ((-4), nI 0, nI 0)) (fun b => b.2.1) (fun am10 => if am10.2.1 ≤ 0 then (if am10.2.2 ≤ 0 then (if am10.1 = (-4) then ts else (X0_tell_p59_2 ts now rl ba am10.1.toNatClampNeg (nI 0))) else (if am10.1 = (-4) then ts else (X0_tell_p59_2 ts now rl ba am10.1.toNatClampNeg (nI 1)))) else (if am10.2.2 ≤ 0 then (if am10.1 = (-4) then ts else (X0_tell_p59_2 ts now rl ba am10.1.toNatClampNeg (-1))) else (if am10.1 = (-4) then ts else ts)))
def X0_judge_c66 (rows outc ts : Int32) (now rl tt ba : Nat → Int32) : Nat → Int32 := zpick (zfoldB (X0_judge_L10_B ts now rl tt) (X0_judge_L10_F now rl) 3 0 ((-4), nI 0, nI 0)) (fun b => b.2.2) (fun am10 => if am10.2.1 ≤ 0 then (if am10.2.2 ≤ 0 then (if am10.1 = (-4) then tt else (X0_tell_c66 now rl tt ba am10.1.toNatClampNeg (nI 0))) else (if am10.1 = (-4) then tt else (X0_tell_c66 now rl tt ba am10.1.toNatClampNeg (nI 1)))) else (if am10.2.2 ≤ 0 then (if am10.1 = (-4) then tt else (X0_tell_c66 now rl tt ba am10.1.toNatClampNeg (-1))) else (if am10.1 = (-4) then tt else tt)))
set_option maxRecDepth 100000 in
set_option maxHeartbeats 4000000 in
theorem c_X0_judge (G : zG) (ex : Bool) (g : Nat → va_E) (rows outc ts : Int32) (bo oo : Int32) (now rl tt ba : Nat → Int32) (hr : ∀ j, j < 5 → vp_in (rl j) 10) (hrd : ∀ i j, i < 5 → j < 5 → i ≠ j → (rl i).toNatClampNeg ≠ (rl j).toNatClampNeg) (h59 : g 59 = (oFol G rows outc ts)) (h64 : g 64 = (zI G 1000 now)) (h65 : g 65 = (zI G 5 rl)) (h66 : g 66 = (zI G 3 tt)) (h36 : g 36 = (oTld G bo oo)) (h38 : g 38 = (zZ G 120 ba)) : zC G yX0_judge wsX0_judge (zrm 3 74) ex [.ref (zB G + 59)] (zN, g) (fun r h => r = some (.int (X0_judge_v rows outc ts now rl tt ba)) ∧ h = (zN, zus g [(59, (oFol G rows outc (X0_judge_p59_2 rows outc ts now rl tt ba))), (66, zI G 3 (X0_judge_c66 rows outc ts now rl tt ba))])) := by
  refine zC_of mX0_judge (lv := [some (.ref (zB G + 59)), none, none, none, none, none, none, none]) rfl rfl (by decide) (by intro v hv; simp at hv; subst hv; rfl) (Nat.le_of_ble_eq_true rfl) rfl ?_
  refine z_0 ?_
  refine z_heap (g' := zu (zus g []) 59 (oFol G rows outc ts)) (zu_self (zus g []) 59 _ h59).symm ?_
  refine z_n (L' := [(59, (oFol G rows outc ts))]) rfl ?_
  refine z_heap (g' := zu (zus g [(59, (oFol G rows outc ts))]) 66 (zI G 3 tt)) (zu_self (zus g [(59, (oFol G rows outc ts))]) 66 _ h66).symm ?_
  refine z_n (L' := [(59, (oFol G rows outc ts)), (66, (zI G 3 tt))]) rfl ?_
  refine z_bipush (v := (-4)) dX0_judge_0 rfl (by decide) ?_
  refine z_istore_1 dX0_judge_2 rfl ?_
  refine z_iconst (v := nI 0) dX0_judge_3 rfl (by decide) ?_
  refine z_istore_2 dX0_judge_4 rfl ?_
  refine z_iconst (v := nI 0) dX0_judge_5 rfl (by decide) ?_
  refine z_istore_3 dX0_judge_6 rfl ?_
  refine z_iconst (v := nI 0) dX0_judge_7 rfl (by decide) ?_
  refine z_istore_4 dX0_judge_8 rfl ?_
  refine z_forB (head := fun tm (st9 : (Int32) × (Int32) × (Int32)) => ∀ y5 y6 y7 : Option Value, Z G mX0_judge (zrm 3 74) ex _ 10 [some (.ref (zB G + 59)), some (.int st9.1), some (.int st9.2.1), some (.int st9.2.2), some (.int (nI tm)), y5, y6, y7] [] (zN, zus g [(59, (oFol G rows outc ts)), (66, (zI G 3 tt))]) 0 0) (out := fun b _ => (some (Value.int b.1) = some (Value.int (X0_judge_v rows outc ts now rl tt ba))) ∧ ((zN, zus g [(59, (oFol G rows outc b.2.1)), (66, (zI G 3 b.2.2))]) : zAH) = (zN, zus g [(59, (oFol G rows outc (X0_judge_p59_2 rows outc ts now rl tt ba))), (66, zI G 3 (X0_judge_c66 rows outc ts now rl tt ba))])) (B := (X0_judge_L10_B ts now rl tt)) (F := (X0_judge_L10_F now rl)) (n := 3) (fun _ a => a.1 = -4 ∨ vp_in a.1 3) (fun i a hi h _ => by
        unfold X0_judge_L10_F
        repeat' split
        all_goals first | exact h | exact Or.inr (vp_in_nI hi (by decide))) ?_ 3 0 ((-4), nI 0, nI 0) (by omega) (Or.inl rfl) ?_ ?_ _ _ _
  · intro tm a9 hi hI Ko K
    obtain ⟨op, ab, be⟩ := a9
    intro y5 y6 y7
    refine z_iload dX0_judge_10 rfl rfl ?_
    refine z_iconst (v := nI 3) dX0_judge_12 rfl (by decide) ?_
    refine z_icmp_ge (tgt := 116) dX0_judge_13 rfl (by decide) (fun c13 => ?_) (fun c13 => ?_)
    · exact absurd c13 (nI_ge hi (by omega))
    · refine z_aload_n dX0_judge_16 rfl rfl ?_
      refine z_iload dX0_judge_17 rfl rfl ?_
      refine z_iconst (v := nI 0) dX0_judge_19 rfl (by decide) ?_
      refine z_callVi (c_X0_signIn G ex _ rows outc ts now rl tm 0 (by omega) (by omega) (by assumption) rfl h64 h65) gX0_judge_X0_signIn rfl dX0_judge_20 rfl rfl rfl okk_X0_signIn (Nat.le_of_ble_eq_true rfl) rfl rfl ⟨Nat.le_of_ble_eq_true rfl, Nat.le_of_ble_eq_true rfl⟩ ⟨Nat.le_of_ble_eq_true rfl, Nat.le_of_ble_eq_true rfl⟩ (Nat.le_of_ble_eq_true rfl) ?_
      refine z_istore_5 dX0_judge_23 rfl ?_
      refine z_aload_n dX0_judge_25 rfl rfl ?_
      refine z_iload dX0_judge_26 rfl rfl ?_
      refine z_iconst (v := nI 1) dX0_judge_28 rfl (by decide) ?_
      refine z_callVi (c_X0_signIn G ex _ rows outc ts now rl tm 1 (by omega) (by omega) (by assumption) rfl h64 h65) gX0_judge_X0_signIn rfl dX0_judge_29 rfl rfl rfl okk_X0_signIn (Nat.le_of_ble_eq_true rfl) rfl rfl ⟨Nat.le_of_ble_eq_true rfl, Nat.le_of_ble_eq_true rfl⟩ ⟨Nat.le_of_ble_eq_true rfl, Nat.le_of_ble_eq_true rfl⟩ (Nat.le_of_ble_eq_true rfl) ?_
      refine z_istore_6 dX0_judge_32 rfl ?_
      refine z_iload dX0_judge_34 rfl rfl ?_
      refine z_bipush (v := (-4)) dX0_judge_36 rfl (by decide) ?_
      refine z_icmp_eq (tgt := 91) dX0_judge_38 rfl (by decide) (fun c38 => ?_) (fun c38 => ?_)
      · refine z_iload_n dX0_judge_91 rfl rfl ?_
        refine z_bipush (v := (-4)) dX0_judge_92 rfl (by decide) ?_
        refine z_icmp_ne (tgt := 104) dX0_judge_94 rfl (by decide) (fun c94 => ?_) (fun c94 => ?_)
        · refine z_bipush (v := (-4)) dX0_judge_104 rfl (by decide) ?_
          exact z_ireturn dX0_judge_106 rfl rfl (Nat.le_refl _) (Nat.le_refl _) (fun _ => rfl) (Ko ((-4), ts, tt) (by simp only [X0_judge_L10_B, if_pos c38, if_neg c94]))
        · refine z_iload dX0_judge_97 rfl rfl ?_
          refine z_iload dX0_judge_99 rfl rfl ?_
          refine z_icmp_ne (tgt := 107) dX0_judge_101 rfl (by decide) (fun c101 => ?_) (fun c101 => ?_)
          · refine z_iload dX0_judge_107 rfl rfl ?_
            refine z_istore_1 dX0_judge_109 rfl ?_
            refine z_iinc_4 (v := nI (tm + 1)) dX0_judge_110 rfl (zinc _) ?_
            refine z_goto (tgt := 10) dX0_judge_113 (by decide) ?_
            have K9 := (K (by simp only [X0_judge_L10_B, if_pos c38, if_pos c94, if_neg c101]))
            try simp only [X0_judge_L10_F, if_pos c38, if_pos c94, if_neg c101] at K9
            exact K9 _ _ _
          · refine z_bipush (v := (-4)) dX0_judge_104 rfl (by decide) ?_
            exact z_ireturn dX0_judge_106 rfl rfl (Nat.le_refl _) (Nat.le_refl _) (fun _ => rfl) (Ko ((-4), ts, tt) (by simp only [X0_judge_L10_B, if_pos c38, if_pos c94, if_pos c101]))
      · refine z_iload dX0_judge_41 rfl rfl ?_
        refine z_bipush (v := (-4)) dX0_judge_43 rfl (by decide) ?_
        refine z_icmp_eq (tgt := 91) dX0_judge_45 rfl (by decide) (fun c45 => ?_) (fun c45 => ?_)
        · refine z_iload_n dX0_judge_91 rfl rfl ?_
          refine z_bipush (v := (-4)) dX0_judge_92 rfl (by decide) ?_
          refine z_icmp_ne (tgt := 104) dX0_judge_94 rfl (by decide) (fun c94 => ?_) (fun c94 => ?_)
          · refine z_bipush (v := (-4)) dX0_judge_104 rfl (by decide) ?_
            exact z_ireturn dX0_judge_106 rfl rfl (Nat.le_refl _) (Nat.le_refl _) (fun _ => rfl) (Ko ((-4), ts, tt) (by simp only [X0_judge_L10_B, if_neg c38, if_pos c45, if_neg c94]))
          · refine z_iload dX0_judge_97 rfl rfl ?_
            refine z_iload dX0_judge_99 rfl rfl ?_
            refine z_icmp_ne (tgt := 107) dX0_judge_101 rfl (by decide) (fun c101 => ?_) (fun c101 => ?_)
            · refine z_iload dX0_judge_107 rfl rfl ?_
              refine z_istore_1 dX0_judge_109 rfl ?_
              refine z_iinc_4 (v := nI (tm + 1)) dX0_judge_110 rfl (zinc _) ?_
              refine z_goto (tgt := 10) dX0_judge_113 (by decide) ?_
              have K9 := (K (by simp only [X0_judge_L10_B, if_neg c38, if_pos c45, if_pos c94, if_neg c101]))
              try simp only [X0_judge_L10_F, if_neg c38, if_pos c45, if_pos c94, if_neg c101] at K9
              exact K9 _ _ _
            · refine z_bipush (v := (-4)) dX0_judge_104 rfl (by decide) ?_
              exact z_ireturn dX0_judge_106 rfl rfl (Nat.le_refl _) (Nat.le_refl _) (fun _ => rfl) (Ko ((-4), ts, tt) (by simp only [X0_judge_L10_B, if_neg c38, if_pos c45, if_pos c94, if_pos c101]))
        · refine z_gsT dX0_judge_48 rfl lkX0_judge_79 ?_
          refine z_iload dX0_judge_51 rfl rfl ?_
          refine z_tTN (j := tm) dX0_judge_53 rfl (rfl) (by omega) ?_
          refine z_iload dX0_judge_54 rfl rfl ?_
          refine z_imul dX0_judge_56 rfl ?_
          refine z_iload dX0_judge_57 rfl rfl ?_
          refine z_imul dX0_judge_59 rfl ?_
          refine z_istore_7 dX0_judge_60 rfl ?_
          refine z_iload_n dX0_judge_62 rfl rfl ?_
          refine z_iload dX0_judge_63 rfl rfl ?_
          refine z_if_le (tgt := 72) dX0_judge_65 rfl (by decide) (fun c65 => ?_) (fun c65 => ?_)
          · refine z_iconst (v := nI 0) dX0_judge_72 rfl (by decide) ?_
            refine z_iadd dX0_judge_73 rfl ?_
            refine z_istore_2 dX0_judge_74 rfl ?_
            refine z_iload_n dX0_judge_75 rfl rfl ?_
            refine z_iload dX0_judge_76 rfl rfl ?_
            refine z_if_ge (tgt := 85) dX0_judge_78 rfl (by decide) (fun c78 => ?_) (fun c78 => ?_)
            · refine z_iconst (v := nI 0) dX0_judge_85 rfl (by decide) ?_
              refine z_iadd dX0_judge_86 rfl ?_
              refine z_istore_3 dX0_judge_87 rfl ?_
              refine z_goto (tgt := 110) dX0_judge_88 (by decide) ?_
              refine z_iinc_4 (v := nI (tm + 1)) dX0_judge_110 rfl (zinc _) ?_
              refine z_goto (tgt := 10) dX0_judge_113 (by decide) ?_
              have K9 := (K (by simp only [X0_judge_L10_B, if_neg c38, if_neg c45, if_pos c65, if_pos c78]))
              try simp only [X0_judge_L10_F, if_neg c38, if_neg c45, if_pos c65, if_pos c78] at K9
              exact K9 _ _ _
            · refine z_iconst (v := nI 1) dX0_judge_81 rfl (by decide) ?_
              refine z_goto (tgt := 86) dX0_judge_82 (by decide) ?_
              refine z_iadd dX0_judge_86 rfl ?_
              refine z_istore_3 dX0_judge_87 rfl ?_
              refine z_goto (tgt := 110) dX0_judge_88 (by decide) ?_
              refine z_iinc_4 (v := nI (tm + 1)) dX0_judge_110 rfl (zinc _) ?_
              refine z_goto (tgt := 10) dX0_judge_113 (by decide) ?_
              have K9 := (K (by simp only [X0_judge_L10_B, if_neg c38, if_neg c45, if_pos c65, if_neg c78]))
              try simp only [X0_judge_L10_F, if_neg c38, if_neg c45, if_pos c65, if_neg c78] at K9
              exact K9 _ _ _
          · refine z_iconst (v := nI 1) dX0_judge_68 rfl (by decide) ?_
            refine z_goto (tgt := 73) dX0_judge_69 (by decide) ?_
            refine z_iadd dX0_judge_73 rfl ?_
            refine z_istore_2 dX0_judge_74 rfl ?_
            refine z_iload_n dX0_judge_75 rfl rfl ?_
            refine z_iload dX0_judge_76 rfl rfl ?_
            refine z_if_ge (tgt := 85) dX0_judge_78 rfl (by decide) (fun c78 => ?_) (fun c78 => ?_)
            · refine z_iconst (v := nI 0) dX0_judge_85 rfl (by decide) ?_
              refine z_iadd dX0_judge_86 rfl ?_
              refine z_istore_3 dX0_judge_87 rfl ?_
              refine z_goto (tgt := 110) dX0_judge_88 (by decide) ?_
              refine z_iinc_4 (v := nI (tm + 1)) dX0_judge_110 rfl (zinc _) ?_
              refine z_goto (tgt := 10) dX0_judge_113 (by decide) ?_
              have K9 := (K (by simp only [X0_judge_L10_B, if_neg c38, if_neg c45, if_neg c65, if_pos c78]))
              try simp only [X0_judge_L10_F, if_neg c38, if_neg c45, if_neg c65, if_pos c78] at K9
              exact K9 _ _ _
            · refine z_iconst (v := nI 1) dX0_judge_81 rfl (by decide) ?_
              refine z_goto (tgt := 86) dX0_judge_82 (by decide) ?_
              refine z_iadd dX0_judge_86 rfl ?_
              refine z_istore_3 dX0_judge_87 rfl ?_
              refine z_goto (tgt := 110) dX0_judge_88 (by decide) ?_
              refine z_iinc_4 (v := nI (tm + 1)) dX0_judge_110 rfl (zinc _) ?_
              refine z_goto (tgt := 10) dX0_judge_113 (by decide) ?_
              have K9 := (K (by simp only [X0_judge_L10_B, if_neg c38, if_neg c45, if_neg c65, if_neg c78]))
              try simp only [X0_judge_L10_F, if_neg c38, if_neg c45, if_neg c65, if_neg c78] at K9
              exact K9 _ _ _
  · intro b a9 hz10
    exact ⟨by simp only [X0_judge_v, hz10, zpick_s], by simp only [X0_judge_p59_2, X0_judge_c66, hz10, zpick_s]⟩
  · intro a9 hz10 hI
    obtain ⟨op, ab, be⟩ := a9
    intro y5 y6 y7
    refine z_iload dX0_judge_10 rfl rfl ?_
    refine z_iconst (v := nI 3) dX0_judge_12 rfl (by decide) ?_
    refine z_icmp_ge (tgt := 116) dX0_judge_13 rfl (by decide) (fun c13 => ?_) (fun c13 => ?_)
    · refine z_iload_n dX0_judge_116 rfl rfl ?_
      refine z_if_le (tgt := 124) dX0_judge_117 rfl (by decide) (fun c117 => ?_) (fun c117 => ?_)
      · refine z_iconst (v := nI 0) dX0_judge_124 rfl (by decide) ?_
        refine z_iload_n dX0_judge_125 rfl rfl ?_
        refine z_if_le (tgt := 133) dX0_judge_126 rfl (by decide) (fun c126 => ?_) (fun c126 => ?_)
        · refine z_iconst (v := nI 0) dX0_judge_133 rfl (by decide) ?_
          refine z_icmp_ne (tgt := 141) dX0_judge_134 rfl (by decide) (fun c134 => ?_) (fun c134 => ?_)
          · exact absurd (by decide) c134
          · refine z_iconst (v := nI 1) dX0_judge_137 rfl (by decide) ?_
            refine z_goto (tgt := 142) dX0_judge_138 (by decide) ?_
            refine z_istore_4 dX0_judge_142 rfl ?_
            refine z_iload_n dX0_judge_144 rfl rfl ?_
            refine z_bipush (v := (-4)) dX0_judge_145 rfl (by decide) ?_
            refine z_icmp_ne (tgt := 162) dX0_judge_147 rfl (by decide) (fun c147 => ?_) (fun c147 => ?_)
            · refine z_iload dX0_judge_162 rfl rfl ?_
              refine z_if_eq (tgt := 174) dX0_judge_164 rfl (by decide) (fun c164 => ?_) (fun c164 => ?_)
              · exact absurd c164 (by decide)
              · refine z_iload_n dX0_judge_167 rfl rfl ?_
                refine z_if_le (tgt := 174) dX0_judge_168 rfl (by decide) (fun c168 => ?_) (fun c168 => ?_)
                · refine z_aload_n dX0_judge_174 rfl rfl ?_
                  refine z_iload_n dX0_judge_175 rfl rfl ?_
                  refine z_iload dX0_judge_176 rfl rfl ?_
                  refine z_if_eq (tgt := 185) dX0_judge_178 rfl (by decide) (fun c178 => ?_) (fun c178 => ?_)
                  · exact absurd c178 (by decide)
                  · refine z_iconst (v := nI 0) dX0_judge_181 rfl (by decide) ?_
                    refine z_goto (tgt := 194) dX0_judge_182 (by decide) ?_
                    rw [show op = nI op.toNatClampNeg from zvin (hI.resolve_left c147)]
                    refine z_callVi (c_X0_tell G ex _ rows outc ts bo oo now rl tt ba op.toNatClampNeg (nI 0) (zvlt (hI.resolve_left c147)) (by assumption) (by assumption) rfl h64 h65 rfl h36 h38) gX0_judge_X0_tell rfl dX0_judge_194 rfl rfl rfl okk_X0_tell (Nat.le_of_ble_eq_true rfl) rfl rfl ⟨Nat.le_of_ble_eq_true rfl, Nat.le_of_ble_eq_true rfl⟩ ⟨Nat.le_of_ble_eq_true rfl, Nat.le_of_ble_eq_true rfl⟩ (Nat.le_of_ble_eq_true rfl) ?_
                    refine z_nn (L' := [(59, (oFol G rows outc (X0_tell_p59_2 ts now rl ba op.toNatClampNeg (nI 0)))), (66, (zI G 3 (X0_tell_c66 now rl tt ba op.toNatClampNeg (nI 0))))]) rfl ?_
                    exact z_ireturn dX0_judge_197 rfl rfl (Nat.le_refl _) (Nat.le_refl _) (fun _ => rfl) ⟨by simp only [X0_judge_v, hz10, zpick_n, if_pos c117, if_pos c126, if_neg c147], by simp only [X0_judge_p59_2, X0_judge_c66, hz10, zpick_n, if_pos c117, if_pos c126, if_neg c147]⟩
                · exact absurd c117 c168
            · refine z_iload dX0_judge_150 rfl rfl ?_
              refine z_if_eq (tgt := 160) dX0_judge_152 rfl (by decide) (fun c152 => ?_) (fun c152 => ?_)
              · exact absurd c152 (by decide)
              · refine z_bipush (v := (-4)) dX0_judge_155 rfl (by decide) ?_
                refine z_goto (tgt := 161) dX0_judge_157 (by decide) ?_
                exact z_ireturn dX0_judge_161 rfl rfl (Nat.le_refl _) (Nat.le_refl _) (fun _ => rfl) ⟨by simp only [X0_judge_v, hz10, zpick_n, if_pos c117, if_pos c126, if_pos c147], by simp only [X0_judge_p59_2, X0_judge_c66, hz10, zpick_n, if_pos c117, if_pos c126, if_pos c147]⟩
        · refine z_iconst (v := nI 1) dX0_judge_129 rfl (by decide) ?_
          refine z_goto (tgt := 134) dX0_judge_130 (by decide) ?_
          refine z_icmp_ne (tgt := 141) dX0_judge_134 rfl (by decide) (fun c134 => ?_) (fun c134 => ?_)
          · refine z_iconst (v := nI 0) dX0_judge_141 rfl (by decide) ?_
            refine z_istore_4 dX0_judge_142 rfl ?_
            refine z_iload_n dX0_judge_144 rfl rfl ?_
            refine z_bipush (v := (-4)) dX0_judge_145 rfl (by decide) ?_
            refine z_icmp_ne (tgt := 162) dX0_judge_147 rfl (by decide) (fun c147 => ?_) (fun c147 => ?_)
            · refine z_iload dX0_judge_162 rfl rfl ?_
              refine z_if_eq (tgt := 174) dX0_judge_164 rfl (by decide) (fun c164 => ?_) (fun c164 => ?_)
              · refine z_aload_n dX0_judge_174 rfl rfl ?_
                refine z_iload_n dX0_judge_175 rfl rfl ?_
                refine z_iload dX0_judge_176 rfl rfl ?_
                refine z_if_eq (tgt := 185) dX0_judge_178 rfl (by decide) (fun c178 => ?_) (fun c178 => ?_)
                · refine z_iload_n dX0_judge_185 rfl rfl ?_
                  refine z_if_le (tgt := 193) dX0_judge_186 rfl (by decide) (fun c186 => ?_) (fun c186 => ?_)
                  · refine z_iconst (v := nI 1) dX0_judge_193 rfl (by decide) ?_
                    rw [show op = nI op.toNatClampNeg from zvin (hI.resolve_left c147)]
                    refine z_callVi (c_X0_tell G ex _ rows outc ts bo oo now rl tt ba op.toNatClampNeg (nI 1) (zvlt (hI.resolve_left c147)) (by assumption) (by assumption) rfl h64 h65 rfl h36 h38) gX0_judge_X0_tell rfl dX0_judge_194 rfl rfl rfl okk_X0_tell (Nat.le_of_ble_eq_true rfl) rfl rfl ⟨Nat.le_of_ble_eq_true rfl, Nat.le_of_ble_eq_true rfl⟩ ⟨Nat.le_of_ble_eq_true rfl, Nat.le_of_ble_eq_true rfl⟩ (Nat.le_of_ble_eq_true rfl) ?_
                    refine z_nn (L' := [(59, (oFol G rows outc (X0_tell_p59_2 ts now rl ba op.toNatClampNeg (nI 1)))), (66, (zI G 3 (X0_tell_c66 now rl tt ba op.toNatClampNeg (nI 1))))]) rfl ?_
                    exact z_ireturn dX0_judge_197 rfl rfl (Nat.le_refl _) (Nat.le_refl _) (fun _ => rfl) ⟨by simp only [X0_judge_v, hz10, zpick_n, if_pos c117, if_neg c126, if_neg c147], by simp only [X0_judge_p59_2, X0_judge_c66, hz10, zpick_n, if_pos c117, if_neg c126, if_neg c147]⟩
                  · exact absurd c117 c186
                · exact absurd (by decide) c178
              · exact absurd (by decide) c164
            · refine z_iload dX0_judge_150 rfl rfl ?_
              refine z_if_eq (tgt := 160) dX0_judge_152 rfl (by decide) (fun c152 => ?_) (fun c152 => ?_)
              · refine z_iconst (v := nI 1) dX0_judge_160 rfl (by decide) ?_
                exact z_ireturn dX0_judge_161 rfl rfl (Nat.le_refl _) (Nat.le_refl _) (fun _ => rfl) ⟨by simp only [X0_judge_v, hz10, zpick_n, if_pos c117, if_neg c126, if_pos c147], by simp only [X0_judge_p59_2, X0_judge_c66, hz10, zpick_n, if_pos c117, if_neg c126, if_pos c147]⟩
              · exact absurd (by decide) c152
          · exact absurd c134 (by decide)
      · refine z_iconst (v := nI 1) dX0_judge_120 rfl (by decide) ?_
        refine z_goto (tgt := 125) dX0_judge_121 (by decide) ?_
        refine z_iload_n dX0_judge_125 rfl rfl ?_
        refine z_if_le (tgt := 133) dX0_judge_126 rfl (by decide) (fun c126 => ?_) (fun c126 => ?_)
        · refine z_iconst (v := nI 0) dX0_judge_133 rfl (by decide) ?_
          refine z_icmp_ne (tgt := 141) dX0_judge_134 rfl (by decide) (fun c134 => ?_) (fun c134 => ?_)
          · refine z_iconst (v := nI 0) dX0_judge_141 rfl (by decide) ?_
            refine z_istore_4 dX0_judge_142 rfl ?_
            refine z_iload_n dX0_judge_144 rfl rfl ?_
            refine z_bipush (v := (-4)) dX0_judge_145 rfl (by decide) ?_
            refine z_icmp_ne (tgt := 162) dX0_judge_147 rfl (by decide) (fun c147 => ?_) (fun c147 => ?_)
            · refine z_iload dX0_judge_162 rfl rfl ?_
              refine z_if_eq (tgt := 174) dX0_judge_164 rfl (by decide) (fun c164 => ?_) (fun c164 => ?_)
              · refine z_aload_n dX0_judge_174 rfl rfl ?_
                refine z_iload_n dX0_judge_175 rfl rfl ?_
                refine z_iload dX0_judge_176 rfl rfl ?_
                refine z_if_eq (tgt := 185) dX0_judge_178 rfl (by decide) (fun c178 => ?_) (fun c178 => ?_)
                · refine z_iload_n dX0_judge_185 rfl rfl ?_
                  refine z_if_le (tgt := 193) dX0_judge_186 rfl (by decide) (fun c186 => ?_) (fun c186 => ?_)
                  · exact absurd c186 c117
                  · refine z_iconst (v := (-1)) dX0_judge_189 rfl (by decide) ?_
                    refine z_goto (tgt := 194) dX0_judge_190 (by decide) ?_
                    rw [show op = nI op.toNatClampNeg from zvin (hI.resolve_left c147)]
                    refine z_callVi (c_X0_tell G ex _ rows outc ts bo oo now rl tt ba op.toNatClampNeg (-1) (zvlt (hI.resolve_left c147)) (by assumption) (by assumption) rfl h64 h65 rfl h36 h38) gX0_judge_X0_tell rfl dX0_judge_194 rfl rfl rfl okk_X0_tell (Nat.le_of_ble_eq_true rfl) rfl rfl ⟨Nat.le_of_ble_eq_true rfl, Nat.le_of_ble_eq_true rfl⟩ ⟨Nat.le_of_ble_eq_true rfl, Nat.le_of_ble_eq_true rfl⟩ (Nat.le_of_ble_eq_true rfl) ?_
                    refine z_nn (L' := [(59, (oFol G rows outc (X0_tell_p59_2 ts now rl ba op.toNatClampNeg (-1)))), (66, (zI G 3 (X0_tell_c66 now rl tt ba op.toNatClampNeg (-1))))]) rfl ?_
                    exact z_ireturn dX0_judge_197 rfl rfl (Nat.le_refl _) (Nat.le_refl _) (fun _ => rfl) ⟨by simp only [X0_judge_v, hz10, zpick_n, if_neg c117, if_pos c126, if_neg c147], by simp only [X0_judge_p59_2, X0_judge_c66, hz10, zpick_n, if_neg c117, if_pos c126, if_neg c147]⟩
                · exact absurd (by decide) c178
              · exact absurd (by decide) c164
            · refine z_iload dX0_judge_150 rfl rfl ?_
              refine z_if_eq (tgt := 160) dX0_judge_152 rfl (by decide) (fun c152 => ?_) (fun c152 => ?_)
              · refine z_iconst (v := nI 1) dX0_judge_160 rfl (by decide) ?_
                exact z_ireturn dX0_judge_161 rfl rfl (Nat.le_refl _) (Nat.le_refl _) (fun _ => rfl) ⟨by simp only [X0_judge_v, hz10, zpick_n, if_neg c117, if_pos c126, if_pos c147], by simp only [X0_judge_p59_2, X0_judge_c66, hz10, zpick_n, if_neg c117, if_pos c126, if_pos c147]⟩
              · exact absurd (by decide) c152
          · exact absurd c134 (by decide)
        · refine z_iconst (v := nI 1) dX0_judge_129 rfl (by decide) ?_
          refine z_goto (tgt := 134) dX0_judge_130 (by decide) ?_
          refine z_icmp_ne (tgt := 141) dX0_judge_134 rfl (by decide) (fun c134 => ?_) (fun c134 => ?_)
          · exact absurd (by decide) c134
          · refine z_iconst (v := nI 1) dX0_judge_137 rfl (by decide) ?_
            refine z_goto (tgt := 142) dX0_judge_138 (by decide) ?_
            refine z_istore_4 dX0_judge_142 rfl ?_
            refine z_iload_n dX0_judge_144 rfl rfl ?_
            refine z_bipush (v := (-4)) dX0_judge_145 rfl (by decide) ?_
            refine z_icmp_ne (tgt := 162) dX0_judge_147 rfl (by decide) (fun c147 => ?_) (fun c147 => ?_)
            · refine z_iload dX0_judge_162 rfl rfl ?_
              refine z_if_eq (tgt := 174) dX0_judge_164 rfl (by decide) (fun c164 => ?_) (fun c164 => ?_)
              · exact absurd c164 (by decide)
              · refine z_iload_n dX0_judge_167 rfl rfl ?_
                refine z_if_le (tgt := 174) dX0_judge_168 rfl (by decide) (fun c168 => ?_) (fun c168 => ?_)
                · exact absurd c168 c117
                · refine z_bipush (v := (-4)) dX0_judge_171 rfl (by decide) ?_
                  exact z_ireturn dX0_judge_173 rfl rfl (Nat.le_refl _) (Nat.le_refl _) (fun _ => rfl) ⟨by simp only [X0_judge_v, hz10, zpick_n, if_neg c117, if_neg c126, if_neg c147], by simp only [X0_judge_p59_2, X0_judge_c66, hz10, zpick_n, if_neg c117, if_neg c126, if_neg c147]⟩
            · refine z_iload dX0_judge_150 rfl rfl ?_
              refine z_if_eq (tgt := 160) dX0_judge_152 rfl (by decide) (fun c152 => ?_) (fun c152 => ?_)
              · exact absurd c152 (by decide)
              · refine z_bipush (v := (-4)) dX0_judge_155 rfl (by decide) ?_
                refine z_goto (tgt := 161) dX0_judge_157 (by decide) ?_
                exact z_ireturn dX0_judge_161 rfl rfl (Nat.le_refl _) (Nat.le_refl _) (fun _ => rfl) ⟨by simp only [X0_judge_v, hz10, zpick_n, if_neg c117, if_neg c126, if_pos c147], by simp only [X0_judge_p59_2, X0_judge_c66, hz10, zpick_n, if_neg c117, if_neg c126, if_pos c147]⟩
    · exact absurd (nI_le (Nat.le_refl _) (by omega)) c13
abbrev mX0_gather : zM := (cX0_gather, 6, none, RX0, wsX0_gather, "gather")
theorem hiX0_gather_X0 : ∀ w ∈ wsX00, w ∈ wsX0_gather := fun w h => List.mem_cons_of_mem _ (List.mem_append_left _ (List.mem_append_right _ h))
theorem lkX0_gather_31 : Cond.fieldLink RX0 31 "ConfigSearch$Following" "now" "[I" ∈ wsX0_gather := by decide +kernel
theorem okk_J7_fill_53178 : zOk yJ7_fill_53178 2 := by unfold zOk; decide +kernel
theorem lkX0_gather_43 : Cond.fieldLink RX0 43 "ConfigSearch$Following" "told" "LConfigSearch$Told;" ∈ wsX0_gather := by decide +kernel
theorem hiX0_gather_X5 : ∀ w ∈ wsX50, w ∈ wsX0_gather := fun w h => List.mem_cons_of_mem _ (List.mem_append_right _ h)
theorem lkX0_gather_94 : Cond.fieldLink RX0 94 "ConfigSearch$Told" "flat" "[Z" ∈ wsX0_gather := by decide +kernel
theorem lkX0_gather_98 : Cond.fieldLink RX0 98 "ConfigSearch$Told" "oriented" "[I" ∈ wsX0_gather := by decide +kernel
theorem okk_X0_learn : zOk yX0_learn 1 := by unfold zOk; decide +kernel
def X0_gather_L27_F (fl : Nat → Int32) (ori : Nat → Int32) (hh : Nat) (mm : Nat) (ll : Nat) (a9 : (Nat → Int32)) : (Nat → Int32) := if (fl (spN ll mm hh)) = 0 then (if (ori (spN ll mm hh)) = 0 then a9 else (X0_setNow_c64 a9 ll mm hh (ori (spN ll mm hh)))) else (X0_setNow_c64 a9 ll mm hh (ori (spN ll mm hh)))
def X0_gather_L19_F (fl : Nat → Int32) (ori : Nat → Int32) (hh : Nat) (mm : Nat) (a9 : (Nat → Int32)) : (Nat → Int32) := (zfold (X0_gather_L27_F fl ori hh mm) mm 0 a9)
def X0_gather_L11_F (fl : Nat → Int32) (ori : Nat → Int32) (hh : Nat) (a9 : (Nat → Int32)) : (Nat → Int32) := (zfold (X0_gather_L19_F fl ori hh) (hh - 1) 1 a9)
def X0_gather_L106_F (kd : Nat → Int32) (sgn : Nat → Int32) (tri : Nat → Int32) (k : Nat) (a9 : (Nat → Int32)) : (Nat → Int32) := X0_learn_c64 a9 kd sgn tri k
def X0_gather_c64 (now kd sgn tri fl ori : Nat → Int32) (ah : Nat) : Nat → Int32 := (zfold (X0_gather_L106_F kd sgn tri) ah 0 (zfold (X0_gather_L11_F fl ori) 8 2 (fillF 1000 (-4) now)))
set_option maxRecDepth 100000 in
set_option maxHeartbeats 4000000 in
theorem c_X0_gather (G : zG) (ex : Bool) (g : Nat → va_E) (rows outc ts : Int32) (bo oo : Int32) (now kd sgn tri fl ori : Nat → Int32) (ah : Nat) (hah : ah ≤ 60) (h3 : ∀ i, i < ah → ¬ kd i = nI 1 → ∀ j, j < 3 → vp_in (tri (3 * i + j)) 10) (h59 : g 59 = (oFol G rows outc ts)) (h64 : g 64 = (zI G 1000 now)) (h60 : g 60 = (zI G 60 kd)) (h61 : g 61 = (zI G 60 sgn)) (h63 : g 63 = (zI G 180 tri)) (h36 : g 36 = (oTld G bo oo)) (h37 : g 37 = (zZ G 120 fl)) (h39 : g 39 = (zI G 120 ori)) : zC G yX0_gather wsX0_gather (zrm 3 67) ex [.ref (zB G + 59), .int (nI ah)] (zN, g) (fun r h => r = none ∧ h = (zN, zus g [(64, zI G 1000 (X0_gather_c64 now kd sgn tri fl ori ah))])) := by
  refine zC_of mX0_gather (lv := [some (.ref (zB G + 59)), some (.int (nI ah)), none, none, none, none]) rfl rfl (by decide) (by intro v hv; simp at hv; rcases hv with rfl | rfl <;> rfl) (Nat.le_of_ble_eq_true rfl) rfl ?_
  refine z_0 ?_
  refine z_heap (g' := zu (zus g []) 64 (zI G 1000 now)) (zu_self (zus g []) 64 _ h64).symm ?_
  refine z_n (L' := [(64, (zI G 1000 now))]) rfl ?_
  refine z_aload_n dX0_gather_0 rfl rfl ?_
  refine z_get dX0_gather_1 rfl hiX0_gather_X0 7 lkX0_gather_31 (Nat.le_of_ble_eq_true rfl) h59 rfl (by decide) rfl ?_
  refine z_bipush (v := (-4)) dX0_gather_4 rfl (by decide) ?_
  refine z_callSv (c_fill_64 G ex _ now (-4) rfl) gX0_gather_J7_fill_53178 rfl dX0_gather_6 rfl rfl okk_J7_fill_53178 ⟨Nat.le_of_ble_eq_true rfl, Nat.le_of_ble_eq_true rfl⟩ ⟨Nat.le_of_ble_eq_true rfl, Nat.le_of_ble_eq_true rfl⟩ (Nat.le_of_ble_eq_true rfl) ?_
  refine z_nn (L' := [(64, (zI G 1000 (fillF 1000 (-4) now)))]) rfl ?_
  refine z_iconst (v := nI 2) dX0_gather_9 rfl (by decide) ?_
  refine z_istore_2 dX0_gather_10 rfl ?_
  refine z_forI (head := fun hh (st9 : (Nat → Int32)) => ∀ y3 y4 y5 : Option Value, Z G mX0_gather (zrm 3 67) ex _ 11 [some (.ref (zB G + 59)), some (.int (nI ah)), some (.int (nI hh)), y3, y4, y5] [] (zN, zus g [(64, (zI G 1000 st9))]) 0 0) (F := (X0_gather_L11_F fl ori)) (n := 10) (fun hh _ => 2 ≤ hh) (fun _ _ _ h => Nat.le_succ_of_le h) ?_ 8 2 (fillF 1000 (-4) now) (by omega) (Nat.le_refl _) ?_ _ _ _
  · intro hh nw1 hi hI K
    intro y3 y4 y5
    have hI2 : 2 ≤ hh := hI
    have hh10 : hh < 10 := hi
    refine z_iload_n dX0_gather_11 rfl rfl ?_
    refine z_bipush (v := nI 10) dX0_gather_12 rfl (by decide) ?_
    refine z_icmp_ge (tgt := 104) dX0_gather_14 rfl (by decide) (fun c14 => ?_) (fun c14 => ?_)
    · exact absurd c14 (nI_ge hi (by omega))
    · refine z_iconst (v := nI 1) dX0_gather_17 rfl (by decide) ?_
      refine z_istore_3 dX0_gather_18 rfl ?_
      refine z_forI (head := fun mm (st9 : (Nat → Int32)) => ∀ y4 y5 : Option Value, Z G mX0_gather (zrm 3 67) ex _ 19 [some (.ref (zB G + 59)), some (.int (nI ah)), some (.int (nI hh)), some (.int (nI mm)), y4, y5] [] (zN, zus g [(64, (zI G 1000 st9))]) 0 0) (F := (X0_gather_L19_F fl ori hh)) (n := hh) (fun _ _ => True) (fun _ _ _ _ => trivial) ?_ (hh - 1) 1 nw1 (by omega) trivial ?_ _ _
      · intro mm nw2 hi _ K
        intro y4 y5
        have hmh : mm < hh := hi
        refine z_iload_n dX0_gather_19 rfl rfl ?_
        refine z_iload_n dX0_gather_20 rfl rfl ?_
        refine z_icmp_ge (tgt := 98) dX0_gather_21 rfl (by decide) (fun c21 => ?_) (fun c21 => ?_)
        · exact absurd c21 (nI_ge hi (by omega))
        · refine z_iconst (v := nI 0) dX0_gather_24 rfl (by decide) ?_
          refine z_istore_4 dX0_gather_25 rfl ?_
          refine z_forI (head := fun ll (st9 : (Nat → Int32)) => ∀ y5 : Option Value, Z G mX0_gather (zrm 3 67) ex _ 27 [some (.ref (zB G + 59)), some (.int (nI ah)), some (.int (nI hh)), some (.int (nI mm)), some (.int (nI ll)), y5] [] (zN, zus g [(64, (zI G 1000 st9))]) 0 0) (F := (X0_gather_L27_F fl ori hh mm)) (n := mm) (fun _ _ => True) (fun _ _ _ _ => trivial) ?_ mm 0 nw2 (by omega) trivial ?_ _
          · intro ll nw3 hi _ K
            intro y5
            have hlm : ll < mm := hi
            refine z_iload dX0_gather_27 rfl rfl ?_
            refine z_iload_n dX0_gather_29 rfl rfl ?_
            refine z_icmp_ge (tgt := 92) dX0_gather_30 rfl (by decide) (fun c30 => ?_) (fun c30 => ?_)
            · exact absurd c30 (nI_ge hi (by omega))
            · refine z_iload dX0_gather_33 rfl rfl ?_
              refine z_iload_n dX0_gather_35 rfl rfl ?_
              refine z_iload_n dX0_gather_36 rfl rfl ?_
              refine z_callSi (c_X5_spotOf_N G ex _ ll mm hh (by omega) (by omega) (by omega)) gX0_gather_X5_spotOf rfl dX0_gather_37 rfl rfl okk_X5_spotOf ⟨Nat.le_of_ble_eq_true rfl, Nat.le_of_ble_eq_true rfl⟩ ⟨Nat.le_of_ble_eq_true rfl, Nat.le_of_ble_eq_true rfl⟩ (Nat.le_of_ble_eq_true rfl) ?_
              refine z_istore_5 dX0_gather_40 rfl ?_
              refine z_aload_n dX0_gather_42 rfl rfl ?_
              refine z_get dX0_gather_43 rfl hiX0_gather_X0 4 lkX0_gather_43 (Nat.le_of_ble_eq_true rfl) h59 rfl (by decide) rfl ?_
              refine z_get dX0_gather_46 rfl hiX0_gather_X5 0 lkX0_gather_94 (Nat.le_of_ble_eq_true rfl) h36 rfl (by decide) rfl ?_
              refine z_iload dX0_gather_49 rfl rfl ?_
              refine z_zaldN (j := spN ll mm hh) dX0_gather_51 rfl (Nat.le_of_ble_eq_true rfl) h37 (rfl) (spN_lt (by omega) (by omega) (by omega) (by omega) (by omega) (by omega)) (by decide) ?_
              refine z_if_ne (tgt := 68) dX0_gather_52 rfl (by decide) (fun c52 => ?_) (fun c52 => ?_)
              · refine z_aload_n dX0_gather_68 rfl rfl ?_
                refine z_iload dX0_gather_69 rfl rfl ?_
                refine z_iload_n dX0_gather_71 rfl rfl ?_
                refine z_iload_n dX0_gather_72 rfl rfl ?_
                refine z_aload_n dX0_gather_73 rfl rfl ?_
                refine z_get dX0_gather_74 rfl hiX0_gather_X0 4 lkX0_gather_43 (Nat.le_of_ble_eq_true rfl) h59 rfl (by decide) rfl ?_
                refine z_get dX0_gather_77 rfl hiX0_gather_X5 2 lkX0_gather_98 (Nat.le_of_ble_eq_true rfl) h36 rfl (by decide) rfl ?_
                refine z_iload dX0_gather_80 rfl rfl ?_
                refine z_ialdN (j := spN ll mm hh) dX0_gather_82 rfl (Nat.le_of_ble_eq_true rfl) h39 (rfl) (spN_lt (by omega) (by omega) (by omega) (by omega) (by omega) (by omega)) (by decide) ?_
                refine z_callVv (c_X0_setNow G ex _ rows outc ts nw3 ll mm hh (ori (spN ll mm hh)) (by omega) (by omega) (by omega) h59 rfl) gX0_gather_X0_setNow rfl dX0_gather_83 rfl rfl rfl okk_X0_setNow (Nat.le_of_ble_eq_true rfl) h59 rfl ⟨Nat.le_of_ble_eq_true rfl, Nat.le_of_ble_eq_true rfl⟩ ⟨Nat.le_of_ble_eq_true rfl, Nat.le_of_ble_eq_true rfl⟩ (Nat.le_of_ble_eq_true rfl) ?_
                refine z_nn (L' := [(64, (zI G 1000 (X0_setNow_c64 nw3 ll mm hh (ori (spN ll mm hh)))))]) rfl ?_
                refine z_iinc_4 (v := nI (ll + 1)) dX0_gather_86 rfl (zinc _) ?_
                refine z_goto (tgt := 27) dX0_gather_89 (by decide) ?_
                have K9 := K
                try simp only [X0_gather_L27_F, if_neg c52] at K9
                exact K9 _
              · refine z_aload_n dX0_gather_55 rfl rfl ?_
                refine z_get dX0_gather_56 rfl hiX0_gather_X0 4 lkX0_gather_43 (Nat.le_of_ble_eq_true rfl) h59 rfl (by decide) rfl ?_
                refine z_get dX0_gather_59 rfl hiX0_gather_X5 2 lkX0_gather_98 (Nat.le_of_ble_eq_true rfl) h36 rfl (by decide) rfl ?_
                refine z_iload dX0_gather_62 rfl rfl ?_
                refine z_ialdN (j := spN ll mm hh) dX0_gather_64 rfl (Nat.le_of_ble_eq_true rfl) h39 (rfl) (spN_lt (by omega) (by omega) (by omega) (by omega) (by omega) (by omega)) (by decide) ?_
                refine z_if_eq (tgt := 86) dX0_gather_65 rfl (by decide) (fun c65 => ?_) (fun c65 => ?_)
                · refine z_iinc_4 (v := nI (ll + 1)) dX0_gather_86 rfl (zinc _) ?_
                  refine z_goto (tgt := 27) dX0_gather_89 (by decide) ?_
                  have K9 := K
                  try simp only [X0_gather_L27_F, if_pos c52, if_pos c65] at K9
                  exact K9 _
                · refine z_aload_n dX0_gather_68 rfl rfl ?_
                  refine z_iload dX0_gather_69 rfl rfl ?_
                  refine z_iload_n dX0_gather_71 rfl rfl ?_
                  refine z_iload_n dX0_gather_72 rfl rfl ?_
                  refine z_aload_n dX0_gather_73 rfl rfl ?_
                  refine z_get dX0_gather_74 rfl hiX0_gather_X0 4 lkX0_gather_43 (Nat.le_of_ble_eq_true rfl) h59 rfl (by decide) rfl ?_
                  refine z_get dX0_gather_77 rfl hiX0_gather_X5 2 lkX0_gather_98 (Nat.le_of_ble_eq_true rfl) h36 rfl (by decide) rfl ?_
                  refine z_iload dX0_gather_80 rfl rfl ?_
                  refine z_ialdN (j := spN ll mm hh) dX0_gather_82 rfl (Nat.le_of_ble_eq_true rfl) h39 (rfl) (spN_lt (by omega) (by omega) (by omega) (by omega) (by omega) (by omega)) (by decide) ?_
                  refine z_callVv (c_X0_setNow G ex _ rows outc ts nw3 ll mm hh (ori (spN ll mm hh)) (by omega) (by omega) (by omega) h59 rfl) gX0_gather_X0_setNow rfl dX0_gather_83 rfl rfl rfl okk_X0_setNow (Nat.le_of_ble_eq_true rfl) h59 rfl ⟨Nat.le_of_ble_eq_true rfl, Nat.le_of_ble_eq_true rfl⟩ ⟨Nat.le_of_ble_eq_true rfl, Nat.le_of_ble_eq_true rfl⟩ (Nat.le_of_ble_eq_true rfl) ?_
                  refine z_nn (L' := [(64, (zI G 1000 (X0_setNow_c64 nw3 ll mm hh (ori (spN ll mm hh)))))]) rfl ?_
                  refine z_iinc_4 (v := nI (ll + 1)) dX0_gather_86 rfl (zinc _) ?_
                  refine z_goto (tgt := 27) dX0_gather_89 (by decide) ?_
                  have K9 := K
                  try simp only [X0_gather_L27_F, if_pos c52, if_neg c65] at K9
                  exact K9 _
          · intro _ y5
            refine z_iload dX0_gather_27 rfl rfl ?_
            refine z_iload_n dX0_gather_29 rfl rfl ?_
            refine z_icmp_ge (tgt := 92) dX0_gather_30 rfl (by decide) (fun c30 => ?_) (fun c30 => ?_)
            · refine z_iinc_3 (v := nI (mm + 1)) dX0_gather_92 rfl (zinc _) ?_
              refine z_goto (tgt := 19) dX0_gather_95 (by decide) ?_
              exact K _ _
            · exact absurd (nI_le (Nat.le_refl _) (by omega)) c30
      · intro _ y4 y5
        refine z_iload_n dX0_gather_19 rfl rfl ?_
        refine z_iload_n dX0_gather_20 rfl rfl ?_
        refine z_icmp_ge (tgt := 98) dX0_gather_21 rfl (by decide) (fun c21 => ?_) (fun c21 => ?_)
        · refine z_iinc_2 (v := nI (hh + 1)) dX0_gather_98 rfl (zinc _) ?_
          refine z_goto (tgt := 11) dX0_gather_101 (by decide) ?_
          exact K _ _ _
        · exact absurd (nI_le (Nat.le_refl _) (by omega)) c21
  · intro hI y3 y4 y5
    refine z_iload_n dX0_gather_11 rfl rfl ?_
    refine z_bipush (v := nI 10) dX0_gather_12 rfl (by decide) ?_
    refine z_icmp_ge (tgt := 104) dX0_gather_14 rfl (by decide) (fun c14 => ?_) (fun c14 => ?_)
    · refine z_iconst (v := nI 0) dX0_gather_104 rfl (by decide) ?_
      refine z_istore_2 dX0_gather_105 rfl ?_
      refine z_forI (head := fun k (st9 : (Nat → Int32)) => Z G mX0_gather (zrm 3 67) ex _ 106 [some (.ref (zB G + 59)), some (.int (nI ah)), some (.int (nI k)), y3, y4, y5] [] (zN, zus g [(64, (zI G 1000 st9))]) 0 0) (F := (X0_gather_L106_F kd sgn tri)) (n := ah) (fun _ _ => True) (fun _ _ _ _ => trivial) ?_ ah 0 (zfold (X0_gather_L11_F fl ori) 8 2 (fillF 1000 (-4) now)) (by omega) trivial ?_
      · intro k nw4 hi _ K
        refine z_iload_n dX0_gather_106 rfl rfl ?_
        refine z_iload_n dX0_gather_107 rfl rfl ?_
        refine z_icmp_ge (tgt := 122) dX0_gather_108 rfl (by decide) (fun c108 => ?_) (fun c108 => ?_)
        · exact absurd c108 (nI_ge hi (by omega))
        · refine z_aload_n dX0_gather_111 rfl rfl ?_
          refine z_iload_n dX0_gather_112 rfl rfl ?_
          refine z_callVv (c_X0_learn G ex _ rows outc ts nw4 kd sgn tri k (by omega) (h3 k (by omega)) h59 rfl h60 h61 h63) gX0_gather_X0_learn rfl dX0_gather_113 rfl rfl rfl okk_X0_learn (Nat.le_of_ble_eq_true rfl) h59 rfl ⟨Nat.le_of_ble_eq_true rfl, Nat.le_of_ble_eq_true rfl⟩ ⟨Nat.le_of_ble_eq_true rfl, Nat.le_of_ble_eq_true rfl⟩ (Nat.le_of_ble_eq_true rfl) ?_
          refine z_nn (L' := [(64, (zI G 1000 (X0_learn_c64 nw4 kd sgn tri k)))]) rfl ?_
          refine z_iinc_2 (v := nI (k + 1)) dX0_gather_116 rfl (zinc _) ?_
          refine z_goto (tgt := 106) dX0_gather_119 (by decide) ?_
          exact K
      · intro _
        refine z_iload_n dX0_gather_106 rfl rfl ?_
        refine z_iload_n dX0_gather_107 rfl rfl ?_
        refine z_icmp_ge (tgt := 122) dX0_gather_108 rfl (by decide) (fun c108 => ?_) (fun c108 => ?_)
        · exact z_return dX0_gather_122 rfl (Nat.le_refl _) (Nat.le_refl _) (fun _ => rfl) ⟨rfl, by simp only [X0_gather_c64]⟩
        · exact absurd (nI_le (Nat.le_refl _) (by omega)) c108
    · exact absurd (nI_le (Nat.le_refl _) (by omega)) c14
