abbrev mX5_turnOf : zM := (cX5_turnOf, 4, (some .int), RX5, wsX5_turnOf, "turnOf")
def X5_turnOf_v (a b c : Int32) : Int32 := if a ≤ b then (if a ≤ c then (if b ≤ c then (if ((nI ((0 + 0) + 0)) &&& (nI 1)) = 0 then (nI 1) else (-1)) else (if ((nI ((0 + 0) + 1)) &&& (nI 1)) = 0 then (nI 1) else (-1))) else (if b ≤ c then (if ((nI ((0 + 1) + 0)) &&& (nI 1)) = 0 then (nI 1) else (-1)) else (if ((nI ((0 + 1) + 1)) &&& (nI 1)) = 0 then (nI 1) else (-1)))) else (if a ≤ c then (if b ≤ c then (if ((nI ((1 + 0) + 0)) &&& (nI 1)) = 0 then (nI 1) else (-1)) else (if ((nI ((1 + 0) + 1)) &&& (nI 1)) = 0 then (nI 1) else (-1))) else (if b ≤ c then (if ((nI ((1 + 1) + 0)) &&& (nI 1)) = 0 then (nI 1) else (-1)) else (if ((nI ((1 + 1) + 1)) &&& (nI 1)) = 0 then (nI 1) else (-1))))
set_option maxRecDepth 100000 in
set_option maxHeartbeats 4000000 in
theorem c_X5_turnOf (G : zG) (ex : Bool) (g : Nat → va_E) (a b c : Int32)   : zC G yX5_turnOf wsX5_turnOf (zrm 0 0) ex [.int a, .int b, .int c] (zN, g) (fun r h => r = some (.int (X5_turnOf_v a b c)) ∧ h = (zN, g)) := by
  refine zC_of mX5_turnOf (lv := [some (.int a), some (.int b), some (.int c), none]) rfl rfl (by decide) (by intro v hv; simp at hv; rcases hv with rfl | rfl | rfl <;> rfl) (Nat.le_of_ble_eq_true rfl) rfl ?_
  refine z_0 ?_
  refine z_iload_n dX5_turnOf_0 rfl rfl ?_
  refine z_iload_n dX5_turnOf_1 rfl rfl ?_
  refine z_icmp_le (tgt := 9) dX5_turnOf_2 rfl (by decide) (fun c2 => ?_) (fun c2 => ?_)
  · refine z_iconst (v := nI 0) dX5_turnOf_9 rfl (by decide) ?_
    refine z_iload_n dX5_turnOf_10 rfl rfl ?_
    refine z_iload_n dX5_turnOf_11 rfl rfl ?_
    refine z_icmp_le (tgt := 19) dX5_turnOf_12 rfl (by decide) (fun c12 => ?_) (fun c12 => ?_)
    · refine z_iconst (v := nI 0) dX5_turnOf_19 rfl (by decide) ?_
      refine z_iadd dX5_turnOf_20 rfl ?_
      refine z_iload_n dX5_turnOf_21 rfl rfl ?_
      refine z_iload_n dX5_turnOf_22 rfl rfl ?_
      refine z_icmp_le (tgt := 30) dX5_turnOf_23 rfl (by decide) (fun c23 => ?_) (fun c23 => ?_)
      · refine z_iconst (v := nI 0) dX5_turnOf_30 rfl (by decide) ?_
        refine z_iadd dX5_turnOf_31 rfl ?_
        refine z_top (show ((nI 0) + (nI 0)) + (nI 0) = nI ((0 + 0) + 0) from (zq_add (zq_add rfl rfl) rfl)) ?_
        refine z_istore_3 dX5_turnOf_32 rfl ?_
        refine z_iload_n dX5_turnOf_33 rfl rfl ?_
        refine z_iconst (v := nI 1) dX5_turnOf_34 rfl (by decide) ?_
        refine z_iand dX5_turnOf_35 rfl ?_
        refine z_if_ne (tgt := 43) dX5_turnOf_36 rfl (by decide) (fun c36 => ?_) (fun c36 => ?_)
        · refine z_iconst (v := (-1)) dX5_turnOf_43 rfl (by decide) ?_
          exact z_ireturn dX5_turnOf_44 rfl rfl (Nat.le_refl _) (Nat.le_refl _) (fun _ => rfl) ⟨by simp only [X5_turnOf_v, if_pos c2, if_pos c12, if_pos c23, if_neg c36], rfl⟩
        · refine z_iconst (v := nI 1) dX5_turnOf_39 rfl (by decide) ?_
          refine z_goto (tgt := 44) dX5_turnOf_40 (by decide) ?_
          exact z_ireturn dX5_turnOf_44 rfl rfl (Nat.le_refl _) (Nat.le_refl _) (fun _ => rfl) ⟨by simp only [X5_turnOf_v, if_pos c2, if_pos c12, if_pos c23, if_pos c36], rfl⟩
      · refine z_iconst (v := nI 1) dX5_turnOf_26 rfl (by decide) ?_
        refine z_goto (tgt := 31) dX5_turnOf_27 (by decide) ?_
        refine z_iadd dX5_turnOf_31 rfl ?_
        refine z_top (show ((nI 0) + (nI 0)) + (nI 1) = nI ((0 + 0) + 1) from (zq_add (zq_add rfl rfl) rfl)) ?_
        refine z_istore_3 dX5_turnOf_32 rfl ?_
        refine z_iload_n dX5_turnOf_33 rfl rfl ?_
        refine z_iconst (v := nI 1) dX5_turnOf_34 rfl (by decide) ?_
        refine z_iand dX5_turnOf_35 rfl ?_
        refine z_if_ne (tgt := 43) dX5_turnOf_36 rfl (by decide) (fun c36 => ?_) (fun c36 => ?_)
        · refine z_iconst (v := (-1)) dX5_turnOf_43 rfl (by decide) ?_
          exact z_ireturn dX5_turnOf_44 rfl rfl (Nat.le_refl _) (Nat.le_refl _) (fun _ => rfl) ⟨by simp only [X5_turnOf_v, if_pos c2, if_pos c12, if_neg c23, if_neg c36], rfl⟩
        · refine z_iconst (v := nI 1) dX5_turnOf_39 rfl (by decide) ?_
          refine z_goto (tgt := 44) dX5_turnOf_40 (by decide) ?_
          exact z_ireturn dX5_turnOf_44 rfl rfl (Nat.le_refl _) (Nat.le_refl _) (fun _ => rfl) ⟨by simp only [X5_turnOf_v, if_pos c2, if_pos c12, if_neg c23, if_pos c36], rfl⟩
    · refine z_iconst (v := nI 1) dX5_turnOf_15 rfl (by decide) ?_
      refine z_goto (tgt := 20) dX5_turnOf_16 (by decide) ?_
      refine z_iadd dX5_turnOf_20 rfl ?_
      refine z_iload_n dX5_turnOf_21 rfl rfl ?_
      refine z_iload_n dX5_turnOf_22 rfl rfl ?_
      refine z_icmp_le (tgt := 30) dX5_turnOf_23 rfl (by decide) (fun c23 => ?_) (fun c23 => ?_)
      · refine z_iconst (v := nI 0) dX5_turnOf_30 rfl (by decide) ?_
        refine z_iadd dX5_turnOf_31 rfl ?_
        refine z_top (show ((nI 0) + (nI 1)) + (nI 0) = nI ((0 + 1) + 0) from (zq_add (zq_add rfl rfl) rfl)) ?_
        refine z_istore_3 dX5_turnOf_32 rfl ?_
        refine z_iload_n dX5_turnOf_33 rfl rfl ?_
        refine z_iconst (v := nI 1) dX5_turnOf_34 rfl (by decide) ?_
        refine z_iand dX5_turnOf_35 rfl ?_
        refine z_if_ne (tgt := 43) dX5_turnOf_36 rfl (by decide) (fun c36 => ?_) (fun c36 => ?_)
        · refine z_iconst (v := (-1)) dX5_turnOf_43 rfl (by decide) ?_
          exact z_ireturn dX5_turnOf_44 rfl rfl (Nat.le_refl _) (Nat.le_refl _) (fun _ => rfl) ⟨by simp only [X5_turnOf_v, if_pos c2, if_neg c12, if_pos c23, if_neg c36], rfl⟩
        · refine z_iconst (v := nI 1) dX5_turnOf_39 rfl (by decide) ?_
          refine z_goto (tgt := 44) dX5_turnOf_40 (by decide) ?_
          exact z_ireturn dX5_turnOf_44 rfl rfl (Nat.le_refl _) (Nat.le_refl _) (fun _ => rfl) ⟨by simp only [X5_turnOf_v, if_pos c2, if_neg c12, if_pos c23, if_pos c36], rfl⟩
      · refine z_iconst (v := nI 1) dX5_turnOf_26 rfl (by decide) ?_
        refine z_goto (tgt := 31) dX5_turnOf_27 (by decide) ?_
        refine z_iadd dX5_turnOf_31 rfl ?_
        refine z_top (show ((nI 0) + (nI 1)) + (nI 1) = nI ((0 + 1) + 1) from (zq_add (zq_add rfl rfl) rfl)) ?_
        refine z_istore_3 dX5_turnOf_32 rfl ?_
        refine z_iload_n dX5_turnOf_33 rfl rfl ?_
        refine z_iconst (v := nI 1) dX5_turnOf_34 rfl (by decide) ?_
        refine z_iand dX5_turnOf_35 rfl ?_
        refine z_if_ne (tgt := 43) dX5_turnOf_36 rfl (by decide) (fun c36 => ?_) (fun c36 => ?_)
        · refine z_iconst (v := (-1)) dX5_turnOf_43 rfl (by decide) ?_
          exact z_ireturn dX5_turnOf_44 rfl rfl (Nat.le_refl _) (Nat.le_refl _) (fun _ => rfl) ⟨by simp only [X5_turnOf_v, if_pos c2, if_neg c12, if_neg c23, if_neg c36], rfl⟩
        · refine z_iconst (v := nI 1) dX5_turnOf_39 rfl (by decide) ?_
          refine z_goto (tgt := 44) dX5_turnOf_40 (by decide) ?_
          exact z_ireturn dX5_turnOf_44 rfl rfl (Nat.le_refl _) (Nat.le_refl _) (fun _ => rfl) ⟨by simp only [X5_turnOf_v, if_pos c2, if_neg c12, if_neg c23, if_pos c36], rfl⟩
  · refine z_iconst (v := nI 1) dX5_turnOf_5 rfl (by decide) ?_
    refine z_goto (tgt := 10) dX5_turnOf_6 (by decide) ?_
    refine z_iload_n dX5_turnOf_10 rfl rfl ?_
    refine z_iload_n dX5_turnOf_11 rfl rfl ?_
    refine z_icmp_le (tgt := 19) dX5_turnOf_12 rfl (by decide) (fun c12 => ?_) (fun c12 => ?_)
    · refine z_iconst (v := nI 0) dX5_turnOf_19 rfl (by decide) ?_
      refine z_iadd dX5_turnOf_20 rfl ?_
      refine z_iload_n dX5_turnOf_21 rfl rfl ?_
      refine z_iload_n dX5_turnOf_22 rfl rfl ?_
      refine z_icmp_le (tgt := 30) dX5_turnOf_23 rfl (by decide) (fun c23 => ?_) (fun c23 => ?_)
      · refine z_iconst (v := nI 0) dX5_turnOf_30 rfl (by decide) ?_
        refine z_iadd dX5_turnOf_31 rfl ?_
        refine z_top (show ((nI 1) + (nI 0)) + (nI 0) = nI ((1 + 0) + 0) from (zq_add (zq_add rfl rfl) rfl)) ?_
        refine z_istore_3 dX5_turnOf_32 rfl ?_
        refine z_iload_n dX5_turnOf_33 rfl rfl ?_
        refine z_iconst (v := nI 1) dX5_turnOf_34 rfl (by decide) ?_
        refine z_iand dX5_turnOf_35 rfl ?_
        refine z_if_ne (tgt := 43) dX5_turnOf_36 rfl (by decide) (fun c36 => ?_) (fun c36 => ?_)
        · refine z_iconst (v := (-1)) dX5_turnOf_43 rfl (by decide) ?_
          exact z_ireturn dX5_turnOf_44 rfl rfl (Nat.le_refl _) (Nat.le_refl _) (fun _ => rfl) ⟨by simp only [X5_turnOf_v, if_neg c2, if_pos c12, if_pos c23, if_neg c36], rfl⟩
        · refine z_iconst (v := nI 1) dX5_turnOf_39 rfl (by decide) ?_
          refine z_goto (tgt := 44) dX5_turnOf_40 (by decide) ?_
          exact z_ireturn dX5_turnOf_44 rfl rfl (Nat.le_refl _) (Nat.le_refl _) (fun _ => rfl) ⟨by simp only [X5_turnOf_v, if_neg c2, if_pos c12, if_pos c23, if_pos c36], rfl⟩
      · refine z_iconst (v := nI 1) dX5_turnOf_26 rfl (by decide) ?_
        refine z_goto (tgt := 31) dX5_turnOf_27 (by decide) ?_
        refine z_iadd dX5_turnOf_31 rfl ?_
        refine z_top (show ((nI 1) + (nI 0)) + (nI 1) = nI ((1 + 0) + 1) from (zq_add (zq_add rfl rfl) rfl)) ?_
        refine z_istore_3 dX5_turnOf_32 rfl ?_
        refine z_iload_n dX5_turnOf_33 rfl rfl ?_
        refine z_iconst (v := nI 1) dX5_turnOf_34 rfl (by decide) ?_
        refine z_iand dX5_turnOf_35 rfl ?_
        refine z_if_ne (tgt := 43) dX5_turnOf_36 rfl (by decide) (fun c36 => ?_) (fun c36 => ?_)
        · refine z_iconst (v := (-1)) dX5_turnOf_43 rfl (by decide) ?_
          exact z_ireturn dX5_turnOf_44 rfl rfl (Nat.le_refl _) (Nat.le_refl _) (fun _ => rfl) ⟨by simp only [X5_turnOf_v, if_neg c2, if_pos c12, if_neg c23, if_neg c36], rfl⟩
        · refine z_iconst (v := nI 1) dX5_turnOf_39 rfl (by decide) ?_
          refine z_goto (tgt := 44) dX5_turnOf_40 (by decide) ?_
          exact z_ireturn dX5_turnOf_44 rfl rfl (Nat.le_refl _) (Nat.le_refl _) (fun _ => rfl) ⟨by simp only [X5_turnOf_v, if_neg c2, if_pos c12, if_neg c23, if_pos c36], rfl⟩
    · refine z_iconst (v := nI 1) dX5_turnOf_15 rfl (by decide) ?_
      refine z_goto (tgt := 20) dX5_turnOf_16 (by decide) ?_
      refine z_iadd dX5_turnOf_20 rfl ?_
      refine z_iload_n dX5_turnOf_21 rfl rfl ?_
      refine z_iload_n dX5_turnOf_22 rfl rfl ?_
      refine z_icmp_le (tgt := 30) dX5_turnOf_23 rfl (by decide) (fun c23 => ?_) (fun c23 => ?_)
      · refine z_iconst (v := nI 0) dX5_turnOf_30 rfl (by decide) ?_
        refine z_iadd dX5_turnOf_31 rfl ?_
        refine z_top (show ((nI 1) + (nI 1)) + (nI 0) = nI ((1 + 1) + 0) from (zq_add (zq_add rfl rfl) rfl)) ?_
        refine z_istore_3 dX5_turnOf_32 rfl ?_
        refine z_iload_n dX5_turnOf_33 rfl rfl ?_
        refine z_iconst (v := nI 1) dX5_turnOf_34 rfl (by decide) ?_
        refine z_iand dX5_turnOf_35 rfl ?_
        refine z_if_ne (tgt := 43) dX5_turnOf_36 rfl (by decide) (fun c36 => ?_) (fun c36 => ?_)
        · refine z_iconst (v := (-1)) dX5_turnOf_43 rfl (by decide) ?_
          exact z_ireturn dX5_turnOf_44 rfl rfl (Nat.le_refl _) (Nat.le_refl _) (fun _ => rfl) ⟨by simp only [X5_turnOf_v, if_neg c2, if_neg c12, if_pos c23, if_neg c36], rfl⟩
        · refine z_iconst (v := nI 1) dX5_turnOf_39 rfl (by decide) ?_
          refine z_goto (tgt := 44) dX5_turnOf_40 (by decide) ?_
          exact z_ireturn dX5_turnOf_44 rfl rfl (Nat.le_refl _) (Nat.le_refl _) (fun _ => rfl) ⟨by simp only [X5_turnOf_v, if_neg c2, if_neg c12, if_pos c23, if_pos c36], rfl⟩
      · refine z_iconst (v := nI 1) dX5_turnOf_26 rfl (by decide) ?_
        refine z_goto (tgt := 31) dX5_turnOf_27 (by decide) ?_
        refine z_iadd dX5_turnOf_31 rfl ?_
        refine z_top (show ((nI 1) + (nI 1)) + (nI 1) = nI ((1 + 1) + 1) from (zq_add (zq_add rfl rfl) rfl)) ?_
        refine z_istore_3 dX5_turnOf_32 rfl ?_
        refine z_iload_n dX5_turnOf_33 rfl rfl ?_
        refine z_iconst (v := nI 1) dX5_turnOf_34 rfl (by decide) ?_
        refine z_iand dX5_turnOf_35 rfl ?_
        refine z_if_ne (tgt := 43) dX5_turnOf_36 rfl (by decide) (fun c36 => ?_) (fun c36 => ?_)
        · refine z_iconst (v := (-1)) dX5_turnOf_43 rfl (by decide) ?_
          exact z_ireturn dX5_turnOf_44 rfl rfl (Nat.le_refl _) (Nat.le_refl _) (fun _ => rfl) ⟨by simp only [X5_turnOf_v, if_neg c2, if_neg c12, if_neg c23, if_neg c36], rfl⟩
        · refine z_iconst (v := nI 1) dX5_turnOf_39 rfl (by decide) ?_
          refine z_goto (tgt := 44) dX5_turnOf_40 (by decide) ?_
          exact z_ireturn dX5_turnOf_44 rfl rfl (Nat.le_refl _) (Nat.le_refl _) (fun _ => rfl) ⟨by simp only [X5_turnOf_v, if_neg c2, if_neg c12, if_neg c23, if_pos c36], rfl⟩
abbrev mX5_spotOf : zM := (cX5_spotOf, 6, (some .int), RX5, wsX5_spotOf, "spotOf")
theorem meX5_spotOf_min1_29 : Cond.methodLink RX5 29 Lib.Math.min.name ∈ wsX5_spotOf := by decide +kernel
theorem meX5_spotOf_min2 : Cond.static Lib.Math.min.name ∈ wsX5_spotOf := by decide +kernel
theorem meX5_spotOf_math : Cond.initialized "java/lang/Math" ∈ wsX5_spotOf := by decide +kernel
theorem meX5_spotOf_min4 : Cond.code Lib.Math.min.name Lib.Math.min.code 2 (some .int) ∈ wsX5_spotOf := by decide +kernel
theorem meX5_spotOf_max1_35 : Cond.methodLink RX5 35 Lib.Math.max.name ∈ wsX5_spotOf := by decide +kernel
theorem meX5_spotOf_max2 : Cond.static Lib.Math.max.name ∈ wsX5_spotOf := by decide +kernel
theorem meX5_spotOf_max4 : Cond.code Lib.Math.max.name Lib.Math.max.code 2 (some .int) ∈ wsX5_spotOf := by decide +kernel
def X5_spotOf_v (a b c : Int32) : Int32 := (((((if a < (if b < c then c else b) then (if b < c then c else b) else a) * ((if a < (if b < c then c else b) then (if b < c then c else b) else a) - (nI 1))) * ((if a < (if b < c then c else b) then (if b < c then c else b) else a) - (nI 2))) / (nI 6)) + ((((((a + b) + c) - (if (if c < b then c else b) < a then (if c < b then c else b) else a)) - (if a < (if b < c then c else b) then (if b < c then c else b) else a)) * (((((a + b) + c) - (if (if c < b then c else b) < a then (if c < b then c else b) else a)) - (if a < (if b < c then c else b) then (if b < c then c else b) else a)) - (nI 1))) / (nI 2))) + (if (if c < b then c else b) < a then (if c < b then c else b) else a)
set_option maxRecDepth 100000 in
set_option maxHeartbeats 4000000 in
theorem c_X5_spotOf (G : zG) (ex : Bool) (g : Nat → va_E) (a b c : Int32)   : zC G yX5_spotOf wsX5_spotOf (zrm 1 21) ex [.int a, .int b, .int c] (zN, g) (fun r h => r = some (.int (X5_spotOf_v a b c)) ∧ h = (zN, g)) := by
  refine zC_of mX5_spotOf (lv := [some (.int a), some (.int b), some (.int c), none, none, none]) rfl rfl (by decide) (by intro v hv; simp at hv; rcases hv with rfl | rfl | rfl <;> rfl) (Nat.le_of_ble_eq_true rfl) rfl ?_
  refine z_0 ?_
  refine z_iload_n dX5_spotOf_0 rfl rfl ?_
  refine z_iload_n dX5_spotOf_1 rfl rfl ?_
  refine z_iload_n dX5_spotOf_2 rfl rfl ?_
  refine z_mmin dX5_spotOf_3 rfl meX5_spotOf_min1_29 meX5_spotOf_min2 meX5_spotOf_math meX5_spotOf_min4 ⟨Nat.le_of_ble_eq_true rfl, Nat.le_of_ble_eq_true rfl⟩ ⟨Nat.le_of_ble_eq_true rfl, Nat.le_of_ble_eq_true rfl⟩ ?_
  refine z_mmin dX5_spotOf_6 rfl meX5_spotOf_min1_29 meX5_spotOf_min2 meX5_spotOf_math meX5_spotOf_min4 ⟨Nat.le_of_ble_eq_true rfl, Nat.le_of_ble_eq_true rfl⟩ ⟨Nat.le_of_ble_eq_true rfl, Nat.le_of_ble_eq_true rfl⟩ ?_
  refine z_istore_3 dX5_spotOf_9 rfl ?_
  refine z_iload_n dX5_spotOf_10 rfl rfl ?_
  refine z_iload_n dX5_spotOf_11 rfl rfl ?_
  refine z_iload_n dX5_spotOf_12 rfl rfl ?_
  refine z_mmax dX5_spotOf_13 rfl meX5_spotOf_max1_35 meX5_spotOf_max2 meX5_spotOf_math meX5_spotOf_max4 ⟨Nat.le_of_ble_eq_true rfl, Nat.le_of_ble_eq_true rfl⟩ ⟨Nat.le_of_ble_eq_true rfl, Nat.le_of_ble_eq_true rfl⟩ ?_
  refine z_mmax dX5_spotOf_16 rfl meX5_spotOf_max1_35 meX5_spotOf_max2 meX5_spotOf_math meX5_spotOf_max4 ⟨Nat.le_of_ble_eq_true rfl, Nat.le_of_ble_eq_true rfl⟩ ⟨Nat.le_of_ble_eq_true rfl, Nat.le_of_ble_eq_true rfl⟩ ?_
  refine z_istore_4 dX5_spotOf_19 rfl ?_
  refine z_iload_n dX5_spotOf_21 rfl rfl ?_
  refine z_iload_n dX5_spotOf_22 rfl rfl ?_
  refine z_iadd dX5_spotOf_23 rfl ?_
  refine z_iload_n dX5_spotOf_24 rfl rfl ?_
  refine z_iadd dX5_spotOf_25 rfl ?_
  refine z_iload_n dX5_spotOf_26 rfl rfl ?_
  refine z_isub dX5_spotOf_27 rfl ?_
  refine z_iload dX5_spotOf_28 rfl rfl ?_
  refine z_isub dX5_spotOf_30 rfl ?_
  refine z_istore_5 dX5_spotOf_31 rfl ?_
  refine z_iload dX5_spotOf_33 rfl rfl ?_
  refine z_iload dX5_spotOf_35 rfl rfl ?_
  refine z_iconst (v := nI 1) dX5_spotOf_37 rfl (by decide) ?_
  refine z_isub dX5_spotOf_38 rfl ?_
  refine z_imul dX5_spotOf_39 rfl ?_
  refine z_iload dX5_spotOf_40 rfl rfl ?_
  refine z_iconst (v := nI 2) dX5_spotOf_42 rfl (by decide) ?_
  refine z_isub dX5_spotOf_43 rfl ?_
  refine z_imul dX5_spotOf_44 rfl ?_
  refine z_bipush (v := nI 6) dX5_spotOf_45 rfl (by decide) ?_
  refine z_idiv dX5_spotOf_47 rfl (by decide) ?_
  refine z_iload dX5_spotOf_48 rfl rfl ?_
  refine z_iload dX5_spotOf_50 rfl rfl ?_
  refine z_iconst (v := nI 1) dX5_spotOf_52 rfl (by decide) ?_
  refine z_isub dX5_spotOf_53 rfl ?_
  refine z_imul dX5_spotOf_54 rfl ?_
  refine z_iconst (v := nI 2) dX5_spotOf_55 rfl (by decide) ?_
  refine z_idiv dX5_spotOf_56 rfl (by decide) ?_
  refine z_iadd dX5_spotOf_57 rfl ?_
  refine z_iload_n dX5_spotOf_58 rfl rfl ?_
  refine z_iadd dX5_spotOf_59 rfl ?_
  exact z_ireturn dX5_spotOf_60 rfl rfl (Nat.le_refl _) (Nat.le_refl _) (fun _ => rfl) ⟨by simp only [X5_spotOf_v], rfl⟩
/-- the spot of three points -/
def spN (a b c : Nat) : Nat :=
  let l := min a (min b c)
  let h := max a (max b c)
  let m := a + b + c - l - h
  h * (h - 1) * (h - 2) / 6 + m * (m - 1) / 2 + l
set_option maxRecDepth 100000 in
theorem spN_ok0 : ∀ a, a < 10 → ∀ b, b < 10 → ∀ c, c < 10 → X5_spotOf_v (nI a) (nI b) (nI c) = nI (spN a b c) := by decide +kernel
theorem spN_ok {a b c : Nat} (ha : a < 10) (hb : b < 10) (hc : c < 10) : X5_spotOf_v (nI a) (nI b) (nI c) = nI (spN a b c) := spN_ok0 a ha b hb c hc
theorem spN_lt0 : ∀ a, a < 10 → ∀ b, b < 10 → ∀ c, c < 10 → (a = b ∨ a = c ∨ b = c ∨ spN a b c < 120) := by decide +kernel
theorem spN_lt {a b c : Nat} (ha : a < 10) (hb : b < 10) (hc : c < 10) (h1 : a ≠ b) (h2 : a ≠ c) (h3 : b ≠ c) : spN a b c < 120 := by
  rcases spN_lt0 a ha b hb c hc with h | h | h | h
  · exact absurd h h1
  · exact absurd h h2
  · exact absurd h h3
  · exact h
theorem c_X5_spotOf_N (G : zG) (ex : Bool) (g : Nat → va_E) (a b c : Nat) (ha : a < 10) (hb : b < 10) (hc : c < 10) : zC G yX5_spotOf wsX5_spotOf (zrm 1 21) ex [.int (nI a), .int (nI b), .int (nI c)] (zN, g) (fun r h => r = some (.int (nI (spN a b c))) ∧ h = (zN, g)) := by
  have h := c_X5_spotOf G ex g (nI a) (nI b) (nI c)
  rw [spN_ok ha hb hc] at h
  exact h
theorem zvin {x : Int32} {n : Nat} (h : vp_in x n) : x = nI x.toNatClampNeg := by
  by_cases h0 : x < 0
  · exact absurd (Or.inl h0) h
  · obtain ⟨j, h1, h2⟩ := nI_of h0
    rw [h2, nI_clamp h1]
theorem zvlt {x : Int32} {n : Nat} (h : vp_in x n) : x.toNatClampNeg < n := Nat.not_le.mp (fun q => h (Or.inr q))
abbrev mX5_addBarred : zM := (cX5_addBarred, 2, (some .int), RX5, wsX5_addBarred, "addBarred")
theorem hiX5_addBarred_X5 : ∀ w ∈ wsX50, w ∈ wsX5_addBarred := fun w h => List.mem_cons_of_mem _ (List.mem_append_right _ h)
theorem lkX5_addBarred_15 : Cond.fieldLink RX5 15 "ConfigSearch$Told" "barred" "[Z" ∈ wsX5_addBarred := by decide +kernel
theorem lkX5_addBarred_22 : Cond.fieldLink RX5 22 "ConfigSearch$Told" "barredOnes" "I" ∈ wsX5_addBarred := by decide +kernel
def X5_addBarred_v (bo : Int32) (ba : Nat → Int32) (sp : Nat) : Int32 := if (ba sp) = 0 then (if bo < (nI 20) then (bo + (nI 1)) else (-3)) else bo
def X5_addBarred_p36_0 (bo : Int32) (ba : Nat → Int32) (sp : Nat) : Int32 := if (ba sp) = 0 then (if bo < (nI 20) then (bo + (nI 1)) else bo) else bo
def X5_addBarred_c38 (bo : Int32) (ba : Nat → Int32) (sp : Nat) : Nat → Int32 := if (ba sp) = 0 then (if bo < (nI 20) then (upd ba sp (nI 1)) else ba) else ba
set_option maxRecDepth 100000 in
set_option maxHeartbeats 4000000 in
theorem c_X5_addBarred (G : zG) (ex : Bool) (g : Nat → va_E) (bo oo : Int32) (ba : Nat → Int32) (sp : Nat) (hs : sp < 120) (h36 : g 36 = (oTld G bo oo)) (h38 : g 38 = (zZ G 120 ba)) : zC G yX5_addBarred wsX5_addBarred (zrm 0 0) ex [.ref (zB G + 36), .int (nI sp)] (zN, g) (fun r h => r = some (.int (X5_addBarred_v bo ba sp)) ∧ h = (zN, zus g [(36, (oTld G (X5_addBarred_p36_0 bo ba sp) oo)), (38, zZ G 120 (X5_addBarred_c38 bo ba sp))])) := by
  refine zC_of mX5_addBarred (lv := [some (.ref (zB G + 36)), some (.int (nI sp))]) rfl rfl (by decide) (by intro v hv; simp at hv; rcases hv with rfl | rfl <;> rfl) (Nat.le_of_ble_eq_true rfl) rfl ?_
  refine z_0 ?_
  refine z_heap (g' := zu (zus g []) 36 (oTld G bo oo)) (zu_self (zus g []) 36 _ h36).symm ?_
  refine z_n (L' := [(36, (oTld G bo oo))]) rfl ?_
  refine z_heap (g' := zu (zus g [(36, (oTld G bo oo))]) 38 (zZ G 120 ba)) (zu_self (zus g [(36, (oTld G bo oo))]) 38 _ h38).symm ?_
  refine z_n (L' := [(36, (oTld G bo oo)), (38, (zZ G 120 ba))]) rfl ?_
  refine z_aload_n dX5_addBarred_0 rfl rfl ?_
  refine z_get dX5_addBarred_1 rfl hiX5_addBarred_X5 1 lkX5_addBarred_15 (Nat.le_of_ble_eq_true rfl) rfl rfl (by decide) rfl ?_
  refine z_iload_n dX5_addBarred_4 rfl rfl ?_
  refine z_zaldN (j := sp) dX5_addBarred_5 rfl (Nat.le_of_ble_eq_true rfl) rfl (rfl) (by omega) (by decide) ?_
  refine z_if_ne (tgt := 38) dX5_addBarred_6 rfl (by decide) (fun c6 => ?_) (fun c6 => ?_)
  · refine z_aload_n dX5_addBarred_38 rfl rfl ?_
    refine z_get dX5_addBarred_39 rfl hiX5_addBarred_X5 3 lkX5_addBarred_22 (Nat.le_of_ble_eq_true rfl) rfl rfl (by decide) rfl ?_
    exact z_ireturn dX5_addBarred_42 rfl rfl (Nat.le_refl _) (Nat.le_refl _) (fun _ => rfl) ⟨by simp only [X5_addBarred_v, if_neg c6], by simp only [X5_addBarred_p36_0, X5_addBarred_c38, if_neg c6]⟩
  · refine z_aload_n dX5_addBarred_9 rfl rfl ?_
    refine z_get dX5_addBarred_10 rfl hiX5_addBarred_X5 3 lkX5_addBarred_22 (Nat.le_of_ble_eq_true rfl) rfl rfl (by decide) rfl ?_
    refine z_bipush (v := nI 20) dX5_addBarred_13 rfl (by decide) ?_
    refine z_icmp_lt (tgt := 21) dX5_addBarred_15 rfl (by decide) (fun c15 => ?_) (fun c15 => ?_)
    · refine z_aload_n dX5_addBarred_21 rfl rfl ?_
      refine z_get dX5_addBarred_22 rfl hiX5_addBarred_X5 1 lkX5_addBarred_15 (Nat.le_of_ble_eq_true rfl) rfl rfl (by decide) rfl ?_
      refine z_iload_n dX5_addBarred_25 rfl rfl ?_
      refine z_iconst (v := nI 1) dX5_addBarred_26 rfl (by decide) ?_
      refine z_zastN (j := sp) dX5_addBarred_27 rfl (Nat.le_of_ble_eq_true rfl) rfl (rfl) (by omega) (by decide) rfl ?_
      refine z_n (L' := [(36, (oTld G bo oo)), (38, (zZ G 120 (upd ba sp (nI 1))))]) rfl ?_
      refine z_aload_n dX5_addBarred_28 rfl rfl ?_
      refine z_dup dX5_addBarred_29 rfl rfl ?_
      refine z_get dX5_addBarred_30 rfl hiX5_addBarred_X5 3 lkX5_addBarred_22 (Nat.le_of_ble_eq_true rfl) rfl rfl (by decide) rfl ?_
      refine z_iconst (v := nI 1) dX5_addBarred_33 rfl (by decide) ?_
      refine z_iadd dX5_addBarred_34 rfl ?_
      refine z_putN (e9 := (oTld G (bo + (nI 1)) oo)) tyX5 tyX5_ok nmX5 dX5_addBarred_35 rfl hiX5_addBarred_X5 3 lkX5_addBarred_22 rfl (by decide +kernel) (Nat.le_of_ble_eq_true rfl) rfl rfl (by decide) (Nat.le_of_ble_eq_true rfl) rfl rfl rfl ?_
      refine z_n (L' := [(36, (oTld G (bo + (nI 1)) oo)), (38, (zZ G 120 (upd ba sp (nI 1))))]) rfl ?_
      refine z_aload_n dX5_addBarred_38 rfl rfl ?_
      refine z_get dX5_addBarred_39 rfl hiX5_addBarred_X5 3 lkX5_addBarred_22 (Nat.le_of_ble_eq_true rfl) rfl rfl (by decide) rfl ?_
      exact z_ireturn dX5_addBarred_42 rfl rfl (Nat.le_refl _) (Nat.le_refl _) (fun _ => rfl) ⟨by simp only [X5_addBarred_v, if_pos c6, if_pos c15], by simp only [X5_addBarred_p36_0, X5_addBarred_c38, if_pos c6, if_pos c15]⟩
    · refine z_bipush (v := (-3)) dX5_addBarred_18 rfl (by decide) ?_
      exact z_ireturn dX5_addBarred_20 rfl rfl (Nat.le_refl _) (Nat.le_refl _) (fun _ => rfl) ⟨by simp only [X5_addBarred_v, if_pos c6, if_neg c15], by simp only [X5_addBarred_p36_0, X5_addBarred_c38, if_pos c6, if_neg c15]⟩
abbrev mX5_addOriented : zM := (cX5_addOriented, 3, (some .int), RX5, wsX5_addOriented, "addOriented")
theorem hiX5_addOriented_X5 : ∀ w ∈ wsX50, w ∈ wsX5_addOriented := fun w h => List.mem_cons_of_mem _ (List.mem_append_right _ h)
theorem lkX5_addOriented_18 : Cond.fieldLink RX5 18 "ConfigSearch$Told" "oriented" "[I" ∈ wsX5_addOriented := by decide +kernel
theorem lkX5_addOriented_26 : Cond.fieldLink RX5 26 "ConfigSearch$Told" "orientedOnes" "I" ∈ wsX5_addOriented := by decide +kernel
def X5_addOriented_v (oo : Int32) (ori : Nat → Int32) (sp : Nat) : Int32 := if (ori sp) = 0 then (if oo < (nI 20) then (oo + (nI 1)) else (-3)) else oo
def X5_addOriented_p36_1 (oo : Int32) (ori : Nat → Int32) (sp : Nat) : Int32 := if (ori sp) = 0 then (if oo < (nI 20) then (oo + (nI 1)) else oo) else oo
def X5_addOriented_c39 (oo : Int32) (ori : Nat → Int32) (sp : Nat) (rs : Int32) : Nat → Int32 := if (ori sp) = 0 then (if oo < (nI 20) then (upd ori sp rs) else ori) else ori
set_option maxRecDepth 100000 in
set_option maxHeartbeats 4000000 in
theorem c_X5_addOriented (G : zG) (ex : Bool) (g : Nat → va_E) (bo oo : Int32) (ori : Nat → Int32) (sp : Nat) (rs : Int32) (hs : sp < 120) (h36 : g 36 = (oTld G bo oo)) (h39 : g 39 = (zI G 120 ori)) : zC G yX5_addOriented wsX5_addOriented (zrm 0 0) ex [.ref (zB G + 36), .int (nI sp), .int rs] (zN, g) (fun r h => r = some (.int (X5_addOriented_v oo ori sp)) ∧ h = (zN, zus g [(36, (oTld G bo (X5_addOriented_p36_1 oo ori sp))), (39, zI G 120 (X5_addOriented_c39 oo ori sp rs))])) := by
  refine zC_of mX5_addOriented (lv := [some (.ref (zB G + 36)), some (.int (nI sp)), some (.int rs)]) rfl rfl (by decide) (by intro v hv; simp at hv; rcases hv with rfl | rfl | rfl <;> rfl) (Nat.le_of_ble_eq_true rfl) rfl ?_
  refine z_0 ?_
  refine z_heap (g' := zu (zus g []) 36 (oTld G bo oo)) (zu_self (zus g []) 36 _ h36).symm ?_
  refine z_n (L' := [(36, (oTld G bo oo))]) rfl ?_
  refine z_heap (g' := zu (zus g [(36, (oTld G bo oo))]) 39 (zI G 120 ori)) (zu_self (zus g [(36, (oTld G bo oo))]) 39 _ h39).symm ?_
  refine z_n (L' := [(36, (oTld G bo oo)), (39, (zI G 120 ori))]) rfl ?_
  refine z_aload_n dX5_addOriented_0 rfl rfl ?_
  refine z_get dX5_addOriented_1 rfl hiX5_addOriented_X5 2 lkX5_addOriented_18 (Nat.le_of_ble_eq_true rfl) rfl rfl (by decide) rfl ?_
  refine z_iload_n dX5_addOriented_4 rfl rfl ?_
  refine z_ialdN (j := sp) dX5_addOriented_5 rfl (Nat.le_of_ble_eq_true rfl) rfl (rfl) (by omega) (by decide) ?_
  refine z_if_ne (tgt := 38) dX5_addOriented_6 rfl (by decide) (fun c6 => ?_) (fun c6 => ?_)
  · refine z_aload_n dX5_addOriented_38 rfl rfl ?_
    refine z_get dX5_addOriented_39 rfl hiX5_addOriented_X5 4 lkX5_addOriented_26 (Nat.le_of_ble_eq_true rfl) rfl rfl (by decide) rfl ?_
    exact z_ireturn dX5_addOriented_42 rfl rfl (Nat.le_refl _) (Nat.le_refl _) (fun _ => rfl) ⟨by simp only [X5_addOriented_v, if_neg c6], by simp only [X5_addOriented_p36_1, X5_addOriented_c39, if_neg c6]⟩
  · refine z_aload_n dX5_addOriented_9 rfl rfl ?_
    refine z_get dX5_addOriented_10 rfl hiX5_addOriented_X5 4 lkX5_addOriented_26 (Nat.le_of_ble_eq_true rfl) rfl rfl (by decide) rfl ?_
    refine z_bipush (v := nI 20) dX5_addOriented_13 rfl (by decide) ?_
    refine z_icmp_lt (tgt := 21) dX5_addOriented_15 rfl (by decide) (fun c15 => ?_) (fun c15 => ?_)
    · refine z_aload_n dX5_addOriented_21 rfl rfl ?_
      refine z_get dX5_addOriented_22 rfl hiX5_addOriented_X5 2 lkX5_addOriented_18 (Nat.le_of_ble_eq_true rfl) rfl rfl (by decide) rfl ?_
      refine z_iload_n dX5_addOriented_25 rfl rfl ?_
      refine z_iload_n dX5_addOriented_26 rfl rfl ?_
      refine z_iastN (j := sp) dX5_addOriented_27 rfl (Nat.le_of_ble_eq_true rfl) rfl (rfl) (by omega) (by decide) ?_
      refine z_n (L' := [(36, (oTld G bo oo)), (39, (zI G 120 (upd ori sp rs)))]) rfl ?_
      refine z_aload_n dX5_addOriented_28 rfl rfl ?_
      refine z_dup dX5_addOriented_29 rfl rfl ?_
      refine z_get dX5_addOriented_30 rfl hiX5_addOriented_X5 4 lkX5_addOriented_26 (Nat.le_of_ble_eq_true rfl) rfl rfl (by decide) rfl ?_
      refine z_iconst (v := nI 1) dX5_addOriented_33 rfl (by decide) ?_
      refine z_iadd dX5_addOriented_34 rfl ?_
      refine z_putN (e9 := (oTld G bo (oo + (nI 1)))) tyX5 tyX5_ok nmX5 dX5_addOriented_35 rfl hiX5_addOriented_X5 4 lkX5_addOriented_26 rfl (by decide +kernel) (Nat.le_of_ble_eq_true rfl) rfl rfl (by decide) (Nat.le_of_ble_eq_true rfl) rfl rfl rfl ?_
      refine z_n (L' := [(36, (oTld G bo (oo + (nI 1)))), (39, (zI G 120 (upd ori sp rs)))]) rfl ?_
      refine z_aload_n dX5_addOriented_38 rfl rfl ?_
      refine z_get dX5_addOriented_39 rfl hiX5_addOriented_X5 4 lkX5_addOriented_26 (Nat.le_of_ble_eq_true rfl) rfl rfl (by decide) rfl ?_
      exact z_ireturn dX5_addOriented_42 rfl rfl (Nat.le_refl _) (Nat.le_refl _) (fun _ => rfl) ⟨by simp only [X5_addOriented_v, if_pos c6, if_pos c15], by simp only [X5_addOriented_p36_1, X5_addOriented_c39, if_pos c6, if_pos c15]⟩
    · refine z_bipush (v := (-3)) dX5_addOriented_18 rfl (by decide) ?_
      exact z_ireturn dX5_addOriented_20 rfl rfl (Nat.le_refl _) (Nat.le_refl _) (fun _ => rfl) ⟨by simp only [X5_addOriented_v, if_pos c6, if_neg c15], by simp only [X5_addOriented_p36_1, X5_addOriented_c39, if_pos c6, if_neg c15]⟩
abbrev mX0_hasRow : zM := (cX0_hasRow, 2, (some .boolean), RX0, wsX0_hasRow, "hasRow")
theorem hiX0_hasRow_X0 : ∀ w ∈ wsX00, w ∈ wsX0_hasRow := fun w h => List.mem_cons_of_mem _ (List.mem_append_right _ h)
theorem lkX0_hasRow_9 : Cond.fieldLink RX0 9 "ConfigSearch$Following" "rows" "I" ∈ wsX0_hasRow := by decide +kernel
def X0_hasRow_v (rows i : Int32) : Int32 := if i < 0 then (nI 0) else (if rows ≤ i then (nI 0) else (nI 1))
set_option maxRecDepth 100000 in
set_option maxHeartbeats 4000000 in
theorem c_X0_hasRow (G : zG) (ex : Bool) (g : Nat → va_E) (rows outc ts i : Int32)  (h59 : g 59 = (oFol G rows outc ts)) : zC G yX0_hasRow wsX0_hasRow (zrm 0 0) ex [.ref (zB G + 59), .int i] (zN, g) (fun r h => r = some (.int (X0_hasRow_v rows i)) ∧ h = (zN, g)) := by
  refine zC_of mX0_hasRow (lv := [some (.ref (zB G + 59)), some (.int i)]) rfl rfl (by decide) (by intro v hv; simp at hv; rcases hv with rfl | rfl <;> rfl) (Nat.le_of_ble_eq_true rfl) rfl ?_
  refine z_0 ?_
  refine z_iload_n dX0_hasRow_0 rfl rfl ?_
  refine z_if_lt (tgt := 16) dX0_hasRow_1 rfl (by decide) (fun c1 => ?_) (fun c1 => ?_)
  · refine z_iconst (v := nI 0) dX0_hasRow_16 rfl (by decide) ?_
    exact z_ireturn dX0_hasRow_17 rfl rfl (Nat.le_refl _) (Nat.le_refl _) (fun _ => rfl) ⟨by simp only [X0_hasRow_v, if_pos c1], rfl⟩
  · refine z_iload_n dX0_hasRow_4 rfl rfl ?_
    refine z_aload_n dX0_hasRow_5 rfl rfl ?_
    refine z_get dX0_hasRow_6 rfl hiX0_hasRow_X0 0 lkX0_hasRow_9 (Nat.le_of_ble_eq_true rfl) h59 rfl (by decide) rfl ?_
    refine z_icmp_ge (tgt := 16) dX0_hasRow_9 rfl (by decide) (fun c9 => ?_) (fun c9 => ?_)
    · refine z_iconst (v := nI 0) dX0_hasRow_16 rfl (by decide) ?_
      exact z_ireturn dX0_hasRow_17 rfl rfl (Nat.le_refl _) (Nat.le_refl _) (fun _ => rfl) ⟨by simp only [X0_hasRow_v, if_neg c1, if_pos c9], rfl⟩
    · refine z_iconst (v := nI 1) dX0_hasRow_12 rfl (by decide) ?_
      refine z_goto (tgt := 17) dX0_hasRow_13 (by decide) ?_
      exact z_ireturn dX0_hasRow_17 rfl rfl (Nat.le_refl _) (Nat.le_refl _) (fun _ => rfl) ⟨by simp only [X0_hasRow_v, if_neg c1, if_neg c9], rfl⟩
abbrev mX0_forget : zM := (cX0_forget, 1, none, RX0, wsX0_forget, "forget")
theorem hiX0_forget_X0 : ∀ w ∈ wsX00, w ∈ wsX0_forget := fun w h => List.mem_cons_of_mem _ (List.mem_append_right _ h)
theorem lkX0_forget_9 : Cond.fieldLink RX0 9 "ConfigSearch$Following" "rows" "I" ∈ wsX0_forget := by decide +kernel
theorem lkX0_forget_15 : Cond.fieldLink RX0 15 "ConfigSearch$Following" "outcome" "I" ∈ wsX0_forget := by decide +kernel
def X0_forget_p59_0 : Nat := 0
def X0_forget_p59_1 : Int32 := (-4)
set_option maxRecDepth 100000 in
set_option maxHeartbeats 4000000 in
theorem c_X0_forget (G : zG) (ex : Bool) (g : Nat → va_E) (rows outc ts : Int32)  (h59 : g 59 = (oFol G rows outc ts)) : zC G yX0_forget wsX0_forget (zrm 0 0) ex [.ref (zB G + 59)] (zN, g) (fun r h => r = none ∧ h = (zN, zus g [(59, (oFol G (nI X0_forget_p59_0) X0_forget_p59_1 ts))])) := by
  refine zC_of mX0_forget (lv := [some (.ref (zB G + 59))]) rfl rfl (by decide) (by intro v hv; simp at hv; subst hv; rfl) (Nat.le_of_ble_eq_true rfl) rfl ?_
  refine z_0 ?_
  refine z_heap (g' := zu (zus g []) 59 (oFol G rows outc ts)) (zu_self (zus g []) 59 _ h59).symm ?_
  refine z_n (L' := [(59, (oFol G rows outc ts))]) rfl ?_
  refine z_aload_n dX0_forget_0 rfl rfl ?_
  refine z_iconst (v := nI 0) dX0_forget_1 rfl (by decide) ?_
  refine z_putN (e9 := (oFol G (nI 0) outc ts)) tyX0 tyX0_ok nmX0 dX0_forget_2 rfl hiX0_forget_X0 0 lkX0_forget_9 rfl (by decide +kernel) (Nat.le_of_ble_eq_true rfl) rfl rfl (by decide) (Nat.le_of_ble_eq_true rfl) rfl rfl rfl ?_
  refine z_n (L' := [(59, (oFol G (nI 0) outc ts))]) rfl ?_
  refine z_aload_n dX0_forget_5 rfl rfl ?_
  refine z_bipush (v := (-4)) dX0_forget_6 rfl (by decide) ?_
  refine z_putN (e9 := (oFol G (nI 0) (-4) ts)) tyX0 tyX0_ok nmX0 dX0_forget_8 rfl hiX0_forget_X0 1 lkX0_forget_15 rfl (by decide +kernel) (Nat.le_of_ble_eq_true rfl) rfl rfl (by decide) (Nat.le_of_ble_eq_true rfl) rfl rfl rfl ?_
  refine z_n (L' := [(59, (oFol G (nI 0) (-4) ts))]) rfl ?_
  exact z_return dX0_forget_11 rfl (Nat.le_refl _) (Nat.le_refl _) (fun _ => rfl) ⟨rfl, by simp only [X0_forget_p59_0, X0_forget_p59_1]⟩
abbrev mX0_orderOf : zM := (cX0_orderOf, 3, (some .int), RX0, wsX0_orderOf, "orderOf")
set_option maxRecDepth 100000 in
set_option maxHeartbeats 4000000 in
theorem c_X0_orderOf (G : zG) (ex : Bool) (g : Nat → va_E) (a b c : Nat)   : zC G yX0_orderOf wsX0_orderOf (zrm 0 0) ex [.int (nI a), .int (nI b), .int (nI c)] (zN, g) (fun r h => r = some (.int (nI ((((a * 10) + b) * 10) + c))) ∧ h = (zN, g)) := by
  refine zC_of mX0_orderOf (lv := [some (.int (nI a)), some (.int (nI b)), some (.int (nI c))]) rfl rfl (by decide) (by intro v hv; simp at hv; rcases hv with rfl | rfl | rfl <;> rfl) (Nat.le_of_ble_eq_true rfl) rfl ?_
  refine z_0 ?_
  refine z_iload_n dX0_orderOf_0 rfl rfl ?_
  refine z_bipush (v := nI 10) dX0_orderOf_1 rfl (by decide) ?_
  refine z_imul dX0_orderOf_3 rfl ?_
  refine z_iload_n dX0_orderOf_4 rfl rfl ?_
  refine z_iadd dX0_orderOf_5 rfl ?_
  refine z_bipush (v := nI 10) dX0_orderOf_6 rfl (by decide) ?_
  refine z_imul dX0_orderOf_8 rfl ?_
  refine z_iload_n dX0_orderOf_9 rfl rfl ?_
  refine z_iadd dX0_orderOf_10 rfl ?_
  refine z_top (show ((((nI a) * (nI 10)) + (nI b)) * (nI 10)) + (nI c) = nI ((((a * 10) + b) * 10) + c) from (zq_add (zq_mul (zq_add (zq_mul rfl rfl) rfl) rfl) rfl)) ?_
  exact z_ireturn dX0_orderOf_11 rfl rfl (Nat.le_refl _) (Nat.le_refl _) (fun _ => rfl) ⟨rfl, rfl⟩
abbrev mX0_setNow : zM := (cX0_setNow, 5, none, RX0, wsX0_setNow, "setNow")
theorem hiX0_setNow_X0 : ∀ w ∈ wsX00, w ∈ wsX0_setNow := fun w h => List.mem_cons_of_mem _ (List.mem_append_right _ h)
theorem lkX0_setNow_31 : Cond.fieldLink RX0 31 "ConfigSearch$Following" "now" "[I" ∈ wsX0_setNow := by decide +kernel
theorem okk_X0_orderOf : zOk yX0_orderOf 3 := by unfold zOk; decide +kernel
def X0_setNow_c64 (now : Nat → Int32) (a b c : Nat) (sg : Int32) : Nat → Int32 := upd (upd (upd (upd (upd (upd now ((((a * 10) + b) * 10) + c) sg) ((((b * 10) + c) * 10) + a) sg) ((((c * 10) + a) * 10) + b) sg) ((((b * 10) + a) * 10) + c) (-sg)) ((((a * 10) + c) * 10) + b) (-sg)) ((((c * 10) + b) * 10) + a) (-sg)
set_option maxRecDepth 100000 in
set_option maxHeartbeats 4000000 in
theorem c_X0_setNow (G : zG) (ex : Bool) (g : Nat → va_E) (rows outc ts : Int32) (now : Nat → Int32) (a b c : Nat) (sg : Int32) (ha : a < 10) (hb : b < 10) (hc : c < 10) (h59 : g 59 = (oFol G rows outc ts)) (h64 : g 64 = (zI G 1000 now)) : zC G yX0_setNow wsX0_setNow (zrm 1 22) ex [.ref (zB G + 59), .int (nI a), .int (nI b), .int (nI c), .int sg] (zN, g) (fun r h => r = none ∧ h = (zN, zus g [(64, zI G 1000 (X0_setNow_c64 now a b c sg))])) := by
  refine zC_of mX0_setNow (lv := [some (.ref (zB G + 59)), some (.int (nI a)), some (.int (nI b)), some (.int (nI c)), some (.int sg)]) rfl rfl (by decide) (by intro v hv; simp at hv; rcases hv with rfl | rfl | rfl | rfl | rfl <;> rfl) (Nat.le_of_ble_eq_true rfl) rfl ?_
  refine z_0 ?_
  refine z_heap (g' := zu (zus g []) 64 (zI G 1000 now)) (zu_self (zus g []) 64 _ h64).symm ?_
  refine z_n (L' := [(64, (zI G 1000 now))]) rfl ?_
  refine z_aload_n dX0_setNow_0 rfl rfl ?_
  refine z_get dX0_setNow_1 rfl hiX0_setNow_X0 7 lkX0_setNow_31 (Nat.le_of_ble_eq_true rfl) h59 rfl (by decide) rfl ?_
  refine z_iload_n dX0_setNow_4 rfl rfl ?_
  refine z_iload_n dX0_setNow_5 rfl rfl ?_
  refine z_iload_n dX0_setNow_6 rfl rfl ?_
  refine z_callSi (c_X0_orderOf G ex _ a b c) gX0_setNow_X0_orderOf rfl dX0_setNow_7 rfl rfl okk_X0_orderOf ⟨Nat.le_of_ble_eq_true rfl, Nat.le_of_ble_eq_true rfl⟩ ⟨Nat.le_of_ble_eq_true rfl, Nat.le_of_ble_eq_true rfl⟩ (Nat.le_of_ble_eq_true rfl) ?_
  refine z_iload dX0_setNow_10 rfl rfl ?_
  refine z_iastN (j := (((a * 10) + b) * 10) + c) dX0_setNow_12 rfl (Nat.le_of_ble_eq_true rfl) rfl (rfl) (by omega) (by decide) ?_
  refine z_n (L' := [(64, (zI G 1000 (upd now ((((a * 10) + b) * 10) + c) sg)))]) rfl ?_
  refine z_aload_n dX0_setNow_13 rfl rfl ?_
  refine z_get dX0_setNow_14 rfl hiX0_setNow_X0 7 lkX0_setNow_31 (Nat.le_of_ble_eq_true rfl) h59 rfl (by decide) rfl ?_
  refine z_iload_n dX0_setNow_17 rfl rfl ?_
  refine z_iload_n dX0_setNow_18 rfl rfl ?_
  refine z_iload_n dX0_setNow_19 rfl rfl ?_
  refine z_callSi (c_X0_orderOf G ex _ b c a) gX0_setNow_X0_orderOf rfl dX0_setNow_20 rfl rfl okk_X0_orderOf ⟨Nat.le_of_ble_eq_true rfl, Nat.le_of_ble_eq_true rfl⟩ ⟨Nat.le_of_ble_eq_true rfl, Nat.le_of_ble_eq_true rfl⟩ (Nat.le_of_ble_eq_true rfl) ?_
  refine z_iload dX0_setNow_23 rfl rfl ?_
  refine z_iastN (j := (((b * 10) + c) * 10) + a) dX0_setNow_25 rfl (Nat.le_of_ble_eq_true rfl) rfl (rfl) (by omega) (by decide) ?_
  refine z_n (L' := [(64, (zI G 1000 (upd (upd now ((((a * 10) + b) * 10) + c) sg) ((((b * 10) + c) * 10) + a) sg)))]) rfl ?_
  refine z_aload_n dX0_setNow_26 rfl rfl ?_
  refine z_get dX0_setNow_27 rfl hiX0_setNow_X0 7 lkX0_setNow_31 (Nat.le_of_ble_eq_true rfl) h59 rfl (by decide) rfl ?_
  refine z_iload_n dX0_setNow_30 rfl rfl ?_
  refine z_iload_n dX0_setNow_31 rfl rfl ?_
  refine z_iload_n dX0_setNow_32 rfl rfl ?_
  refine z_callSi (c_X0_orderOf G ex _ c a b) gX0_setNow_X0_orderOf rfl dX0_setNow_33 rfl rfl okk_X0_orderOf ⟨Nat.le_of_ble_eq_true rfl, Nat.le_of_ble_eq_true rfl⟩ ⟨Nat.le_of_ble_eq_true rfl, Nat.le_of_ble_eq_true rfl⟩ (Nat.le_of_ble_eq_true rfl) ?_
  refine z_iload dX0_setNow_36 rfl rfl ?_
  refine z_iastN (j := (((c * 10) + a) * 10) + b) dX0_setNow_38 rfl (Nat.le_of_ble_eq_true rfl) rfl (rfl) (by omega) (by decide) ?_
  refine z_n (L' := [(64, (zI G 1000 (upd (upd (upd now ((((a * 10) + b) * 10) + c) sg) ((((b * 10) + c) * 10) + a) sg) ((((c * 10) + a) * 10) + b) sg)))]) rfl ?_
  refine z_aload_n dX0_setNow_39 rfl rfl ?_
  refine z_get dX0_setNow_40 rfl hiX0_setNow_X0 7 lkX0_setNow_31 (Nat.le_of_ble_eq_true rfl) h59 rfl (by decide) rfl ?_
  refine z_iload_n dX0_setNow_43 rfl rfl ?_
  refine z_iload_n dX0_setNow_44 rfl rfl ?_
  refine z_iload_n dX0_setNow_45 rfl rfl ?_
  refine z_callSi (c_X0_orderOf G ex _ b a c) gX0_setNow_X0_orderOf rfl dX0_setNow_46 rfl rfl okk_X0_orderOf ⟨Nat.le_of_ble_eq_true rfl, Nat.le_of_ble_eq_true rfl⟩ ⟨Nat.le_of_ble_eq_true rfl, Nat.le_of_ble_eq_true rfl⟩ (Nat.le_of_ble_eq_true rfl) ?_
  refine z_iload dX0_setNow_49 rfl rfl ?_
  refine z_ineg dX0_setNow_51 rfl ?_
  refine z_iastN (j := (((b * 10) + a) * 10) + c) dX0_setNow_52 rfl (Nat.le_of_ble_eq_true rfl) rfl (rfl) (by omega) (by decide) ?_
  refine z_n (L' := [(64, (zI G 1000 (upd (upd (upd (upd now ((((a * 10) + b) * 10) + c) sg) ((((b * 10) + c) * 10) + a) sg) ((((c * 10) + a) * 10) + b) sg) ((((b * 10) + a) * 10) + c) (-sg))))]) rfl ?_
  refine z_aload_n dX0_setNow_53 rfl rfl ?_
  refine z_get dX0_setNow_54 rfl hiX0_setNow_X0 7 lkX0_setNow_31 (Nat.le_of_ble_eq_true rfl) h59 rfl (by decide) rfl ?_
  refine z_iload_n dX0_setNow_57 rfl rfl ?_
  refine z_iload_n dX0_setNow_58 rfl rfl ?_
  refine z_iload_n dX0_setNow_59 rfl rfl ?_
  refine z_callSi (c_X0_orderOf G ex _ a c b) gX0_setNow_X0_orderOf rfl dX0_setNow_60 rfl rfl okk_X0_orderOf ⟨Nat.le_of_ble_eq_true rfl, Nat.le_of_ble_eq_true rfl⟩ ⟨Nat.le_of_ble_eq_true rfl, Nat.le_of_ble_eq_true rfl⟩ (Nat.le_of_ble_eq_true rfl) ?_
  refine z_iload dX0_setNow_63 rfl rfl ?_
  refine z_ineg dX0_setNow_65 rfl ?_
  refine z_iastN (j := (((a * 10) + c) * 10) + b) dX0_setNow_66 rfl (Nat.le_of_ble_eq_true rfl) rfl (rfl) (by omega) (by decide) ?_
  refine z_n (L' := [(64, (zI G 1000 (upd (upd (upd (upd (upd now ((((a * 10) + b) * 10) + c) sg) ((((b * 10) + c) * 10) + a) sg) ((((c * 10) + a) * 10) + b) sg) ((((b * 10) + a) * 10) + c) (-sg)) ((((a * 10) + c) * 10) + b) (-sg))))]) rfl ?_
  refine z_aload_n dX0_setNow_67 rfl rfl ?_
  refine z_get dX0_setNow_68 rfl hiX0_setNow_X0 7 lkX0_setNow_31 (Nat.le_of_ble_eq_true rfl) h59 rfl (by decide) rfl ?_
  refine z_iload_n dX0_setNow_71 rfl rfl ?_
  refine z_iload_n dX0_setNow_72 rfl rfl ?_
  refine z_iload_n dX0_setNow_73 rfl rfl ?_
  refine z_callSi (c_X0_orderOf G ex _ c b a) gX0_setNow_X0_orderOf rfl dX0_setNow_74 rfl rfl okk_X0_orderOf ⟨Nat.le_of_ble_eq_true rfl, Nat.le_of_ble_eq_true rfl⟩ ⟨Nat.le_of_ble_eq_true rfl, Nat.le_of_ble_eq_true rfl⟩ (Nat.le_of_ble_eq_true rfl) ?_
  refine z_iload dX0_setNow_77 rfl rfl ?_
  refine z_ineg dX0_setNow_79 rfl ?_
  refine z_iastN (j := (((c * 10) + b) * 10) + a) dX0_setNow_80 rfl (Nat.le_of_ble_eq_true rfl) rfl (rfl) (by omega) (by decide) ?_
  refine z_n (L' := [(64, (zI G 1000 (upd (upd (upd (upd (upd (upd now ((((a * 10) + b) * 10) + c) sg) ((((b * 10) + c) * 10) + a) sg) ((((c * 10) + a) * 10) + b) sg) ((((b * 10) + a) * 10) + c) (-sg)) ((((a * 10) + c) * 10) + b) (-sg)) ((((c * 10) + b) * 10) + a) (-sg))))]) rfl ?_
  exact z_return dX0_setNow_81 rfl (Nat.le_refl _) (Nat.le_refl _) (fun _ => rfl) ⟨rfl, by simp only [X0_setNow_c64]⟩
abbrev mX0_signNow : zM := (cX0_signNow, 4, (some .int), RX0, wsX0_signNow, "signNow")
theorem hiX0_signNow_X0 : ∀ w ∈ wsX00, w ∈ wsX0_signNow := fun w h => List.mem_cons_of_mem _ (List.mem_append_right _ h)
theorem lkX0_signNow_31 : Cond.fieldLink RX0 31 "ConfigSearch$Following" "now" "[I" ∈ wsX0_signNow := by decide +kernel
def X0_signNow_v (now : Nat → Int32) (a b c : Nat) : Int32 := now ((((a * 10) + b) * 10) + c)
set_option maxRecDepth 100000 in
set_option maxHeartbeats 4000000 in
theorem c_X0_signNow (G : zG) (ex : Bool) (g : Nat → va_E) (rows outc ts : Int32) (now : Nat → Int32) (a b c : Nat) (ha : a < 10) (hb : b < 10) (hc : c < 10) (h59 : g 59 = (oFol G rows outc ts)) (h64 : g 64 = (zI G 1000 now)) : zC G yX0_signNow wsX0_signNow (zrm 1 22) ex [.ref (zB G + 59), .int (nI a), .int (nI b), .int (nI c)] (zN, g) (fun r h => r = some (.int (X0_signNow_v now a b c)) ∧ h = (zN, g)) := by
  refine zC_of mX0_signNow (lv := [some (.ref (zB G + 59)), some (.int (nI a)), some (.int (nI b)), some (.int (nI c))]) rfl rfl (by decide) (by intro v hv; simp at hv; rcases hv with rfl | rfl | rfl | rfl <;> rfl) (Nat.le_of_ble_eq_true rfl) rfl ?_
  refine z_0 ?_
  refine z_aload_n dX0_signNow_0 rfl rfl ?_
  refine z_get dX0_signNow_1 rfl hiX0_signNow_X0 7 lkX0_signNow_31 (Nat.le_of_ble_eq_true rfl) h59 rfl (by decide) rfl ?_
  refine z_iload_n dX0_signNow_4 rfl rfl ?_
  refine z_iload_n dX0_signNow_5 rfl rfl ?_
  refine z_iload_n dX0_signNow_6 rfl rfl ?_
  refine z_callSi (c_X0_orderOf G ex _ a b c) gX0_signNow_X0_orderOf rfl dX0_signNow_7 rfl rfl okk_X0_orderOf ⟨Nat.le_of_ble_eq_true rfl, Nat.le_of_ble_eq_true rfl⟩ ⟨Nat.le_of_ble_eq_true rfl, Nat.le_of_ble_eq_true rfl⟩ (Nat.le_of_ble_eq_true rfl) ?_
  refine z_ialdN (j := (((a * 10) + b) * 10) + c) dX0_signNow_10 rfl (Nat.le_of_ble_eq_true rfl) h64 (rfl) (by omega) (by decide) ?_
  exact z_ireturn dX0_signNow_11 rfl rfl (Nat.le_refl _) (Nat.le_refl _) (fun _ => rfl) ⟨by simp only [X0_signNow_v], rfl⟩
abbrev mX0_learn : zM := (cX0_learn, 2, none, RX0, wsX0_learn, "learn")
theorem hiX0_learn_X0 : ∀ w ∈ wsX00, w ∈ wsX0_learn := fun w h => List.mem_cons_of_mem _ (List.mem_append_right _ h)
theorem lkX0_learn_18 : Cond.fieldLink RX0 18 "ConfigSearch$Following" "kind" "[I" ∈ wsX0_learn := by decide +kernel
theorem lkX0_learn_28 : Cond.fieldLink RX0 28 "ConfigSearch$Following" "triples" "[I" ∈ wsX0_learn := by decide +kernel
theorem lkX0_learn_22 : Cond.fieldLink RX0 22 "ConfigSearch$Following" "signs" "[I" ∈ wsX0_learn := by decide +kernel
theorem okk_X0_setNow : zOk yX0_setNow 4 := by unfold zOk; decide +kernel
def X0_learn_c64 (now kd sgn tri : Nat → Int32) (i : Nat) : Nat → Int32 := if (kd i) = (nI 1) then now else (X0_setNow_c64 now ((tri (3 * i)).toNatClampNeg) ((tri (3 * i + 1)).toNatClampNeg) ((tri (3 * i + 2)).toNatClampNeg) (sgn i))
set_option maxRecDepth 100000 in
set_option maxHeartbeats 4000000 in
theorem c_X0_learn (G : zG) (ex : Bool) (g : Nat → va_E) (rows outc ts : Int32) (now kd sgn tri : Nat → Int32) (i : Nat) (hi : i < 60) (h3 : ¬ kd i = nI 1 → ∀ j, j < 3 → vp_in (tri (3 * i + j)) 10) (h59 : g 59 = (oFol G rows outc ts)) (h64 : g 64 = (zI G 1000 now)) (h60 : g 60 = (zI G 60 kd)) (h61 : g 61 = (zI G 60 sgn)) (h63 : g 63 = (zI G 180 tri)) : zC G yX0_learn wsX0_learn (zrm 2 46) ex [.ref (zB G + 59), .int (nI i)] (zN, g) (fun r h => r = none ∧ h = (zN, zus g [(64, zI G 1000 (X0_learn_c64 now kd sgn tri i))])) := by
  refine zC_of mX0_learn (lv := [some (.ref (zB G + 59)), some (.int (nI i))]) rfl rfl (by decide) (by intro v hv; simp at hv; rcases hv with rfl | rfl <;> rfl) (Nat.le_of_ble_eq_true rfl) rfl ?_
  refine z_0 ?_
  refine z_heap (g' := zu (zus g []) 64 (zI G 1000 now)) (zu_self (zus g []) 64 _ h64).symm ?_
  refine z_n (L' := [(64, (zI G 1000 now))]) rfl ?_
  refine z_aload_n dX0_learn_0 rfl rfl ?_
  refine z_get dX0_learn_1 rfl hiX0_learn_X0 2 lkX0_learn_18 (Nat.le_of_ble_eq_true rfl) h59 rfl (by decide) rfl ?_
  refine z_iload_n dX0_learn_4 rfl rfl ?_
  refine z_ialdN (j := i) dX0_learn_5 rfl (Nat.le_of_ble_eq_true rfl) h60 (rfl) (by omega) (by decide) ?_
  refine z_iconst (v := nI 1) dX0_learn_6 rfl (by decide) ?_
  refine z_icmp_eq (tgt := 48) dX0_learn_7 rfl (by decide) (fun c7 => ?_) (fun c7 => ?_)
  · exact z_return dX0_learn_48 rfl (Nat.le_refl _) (Nat.le_refl _) (fun _ => rfl) ⟨rfl, by simp only [X0_learn_c64, if_pos c7]⟩
  · refine z_aload_n dX0_learn_10 rfl rfl ?_
    refine z_aload_n dX0_learn_11 rfl rfl ?_
    refine z_get dX0_learn_12 rfl hiX0_learn_X0 6 lkX0_learn_28 (Nat.le_of_ble_eq_true rfl) h59 rfl (by decide) rfl ?_
    refine z_iconst (v := nI 3) dX0_learn_15 rfl (by decide) ?_
    refine z_iload_n dX0_learn_16 rfl rfl ?_
    refine z_imul dX0_learn_17 rfl ?_
    refine z_ialdN (j := 3 * i) dX0_learn_18 rfl (Nat.le_of_ble_eq_true rfl) h63 ((zq_mul rfl rfl)) (by omega) (by decide) ?_
    refine z_top (show tri (3 * i) = nI ((tri (3 * i)).toNatClampNeg) from zvin (h3 c7 0 (by omega))) ?_
    refine z_aload_n dX0_learn_19 rfl rfl ?_
    refine z_get dX0_learn_20 rfl hiX0_learn_X0 6 lkX0_learn_28 (Nat.le_of_ble_eq_true rfl) h59 rfl (by decide) rfl ?_
    refine z_iconst (v := nI 3) dX0_learn_23 rfl (by decide) ?_
    refine z_iload_n dX0_learn_24 rfl rfl ?_
    refine z_imul dX0_learn_25 rfl ?_
    refine z_iconst (v := nI 1) dX0_learn_26 rfl (by decide) ?_
    refine z_iadd dX0_learn_27 rfl ?_
    refine z_ialdN (j := (3 * i) + 1) dX0_learn_28 rfl (Nat.le_of_ble_eq_true rfl) h63 ((zq_add (zq_mul rfl rfl) rfl)) (by omega) (by decide) ?_
    refine z_top (show tri ((3 * i) + 1) = nI ((tri (3 * i + 1)).toNatClampNeg) from zvin (h3 c7 1 (by omega))) ?_
    refine z_aload_n dX0_learn_29 rfl rfl ?_
    refine z_get dX0_learn_30 rfl hiX0_learn_X0 6 lkX0_learn_28 (Nat.le_of_ble_eq_true rfl) h59 rfl (by decide) rfl ?_
    refine z_iconst (v := nI 3) dX0_learn_33 rfl (by decide) ?_
    refine z_iload_n dX0_learn_34 rfl rfl ?_
    refine z_imul dX0_learn_35 rfl ?_
    refine z_iconst (v := nI 2) dX0_learn_36 rfl (by decide) ?_
    refine z_iadd dX0_learn_37 rfl ?_
    refine z_ialdN (j := (3 * i) + 2) dX0_learn_38 rfl (Nat.le_of_ble_eq_true rfl) h63 ((zq_add (zq_mul rfl rfl) rfl)) (by omega) (by decide) ?_
    refine z_top (show tri ((3 * i) + 2) = nI ((tri (3 * i + 2)).toNatClampNeg) from zvin (h3 c7 2 (by omega))) ?_
    refine z_aload_n dX0_learn_39 rfl rfl ?_
    refine z_get dX0_learn_40 rfl hiX0_learn_X0 3 lkX0_learn_22 (Nat.le_of_ble_eq_true rfl) h59 rfl (by decide) rfl ?_
    refine z_iload_n dX0_learn_43 rfl rfl ?_
    refine z_ialdN (j := i) dX0_learn_44 rfl (Nat.le_of_ble_eq_true rfl) h61 (rfl) (by omega) (by decide) ?_
    refine z_callVv (c_X0_setNow G ex _ rows outc ts now ((tri (3 * i)).toNatClampNeg) ((tri (3 * i + 1)).toNatClampNeg) ((tri (3 * i + 2)).toNatClampNeg) (sgn i) (zvlt (h3 c7 0 (by omega))) (zvlt (h3 c7 1 (by omega))) (zvlt (h3 c7 2 (by omega))) h59 rfl) gX0_learn_X0_setNow rfl dX0_learn_45 rfl rfl rfl okk_X0_setNow (Nat.le_of_ble_eq_true rfl) h59 rfl ⟨Nat.le_of_ble_eq_true rfl, Nat.le_of_ble_eq_true rfl⟩ ⟨Nat.le_of_ble_eq_true rfl, Nat.le_of_ble_eq_true rfl⟩ (Nat.le_of_ble_eq_true rfl) ?_
    refine z_nn (L' := [(64, (zI G 1000 (X0_setNow_c64 now ((tri (3 * i)).toNatClampNeg) ((tri (3 * i + 1)).toNatClampNeg) ((tri (3 * i + 2)).toNatClampNeg) (sgn i))))]) rfl ?_
    exact z_return dX0_learn_48 rfl (Nat.le_refl _) (Nat.le_refl _) (fun _ => rfl) ⟨rfl, by simp only [X0_learn_c64, if_neg c7]⟩
abbrev mX0_recall : zM := (cX0_recall, 2, none, RX0, wsX0_recall, "recall")
theorem hiX0_recall_X0 : ∀ w ∈ wsX00, w ∈ wsX0_recall := fun w h => List.mem_cons_of_mem _ (List.mem_append_right _ h)
theorem lkX0_recall_25 : Cond.fieldLink RX0 25 "ConfigSearch$Following" "relations" "[I" ∈ wsX0_recall := by decide +kernel
theorem lkX0_recall_34 : Cond.fieldLink RX0 34 "ConfigSearch$Following" "relation" "[I" ∈ wsX0_recall := by decide +kernel
theorem meX0_recall_ac1_108 : Cond.methodLink RX0 108 arraycopyName ∈ wsX0_recall := by decide +kernel
theorem meX0_recall_ac2 : Cond.native arraycopyName ∈ wsX0_recall := by decide +kernel
theorem meX0_recall_ac3 : Cond.static arraycopyName ∈ wsX0_recall := by decide +kernel
theorem meX0_recall_ac4 : Cond.initialized "java/lang/System" ∈ wsX0_recall := by decide +kernel
def X0_recall_c65 (rel rl : Nat → Int32) (i : Nat) : Nat → Int32 := va_cpy rel rl (5 * i) 0 5
set_option maxRecDepth 100000 in
set_option maxHeartbeats 4000000 in
theorem c_X0_recall (G : zG) (ex : Bool) (g : Nat → va_E) (rows outc ts : Int32) (rel rl : Nat → Int32) (i : Nat) (hi : i < 60) (h59 : g 59 = (oFol G rows outc ts)) (h62 : g 62 = (zI G 300 rel)) (h65 : g 65 = (zI G 5 rl)) : zC G yX0_recall wsX0_recall (zrm 1 64) ex [.ref (zB G + 59), .int (nI i)] (zN, g) (fun r h => r = none ∧ h = (zN, zus g [(65, zI G 5 (X0_recall_c65 rel rl i))])) := by
  refine zC_of mX0_recall (lv := [some (.ref (zB G + 59)), some (.int (nI i))]) rfl rfl (by decide) (by intro v hv; simp at hv; rcases hv with rfl | rfl <;> rfl) (Nat.le_of_ble_eq_true rfl) rfl ?_
  refine z_0 ?_
  refine z_heap (g' := zu (zus g []) 65 (zI G 5 rl)) (zu_self (zus g []) 65 _ h65).symm ?_
  refine z_n (L' := [(65, (zI G 5 rl))]) rfl ?_
  refine z_aload_n dX0_recall_0 rfl rfl ?_
  refine z_get dX0_recall_1 rfl hiX0_recall_X0 5 lkX0_recall_25 (Nat.le_of_ble_eq_true rfl) h59 rfl (by decide) rfl ?_
  refine z_iconst (v := nI 5) dX0_recall_4 rfl (by decide) ?_
  refine z_iload_n dX0_recall_5 rfl rfl ?_
  refine z_imul dX0_recall_6 rfl ?_
  refine z_aload_n dX0_recall_7 rfl rfl ?_
  refine z_get dX0_recall_8 rfl hiX0_recall_X0 8 lkX0_recall_34 (Nat.le_of_ble_eq_true rfl) h59 rfl (by decide) rfl ?_
  refine z_iconst (v := nI 0) dX0_recall_11 rfl (by decide) ?_
  refine z_iconst (v := nI 5) dX0_recall_12 rfl (by decide) ?_
  refine z_copyN (sp9 := 5 * i) (dp9 := 0) (n9 := 5) dX0_recall_13 rfl meX0_recall_ac1_108 meX0_recall_ac2 meX0_recall_ac3 meX0_recall_ac4 (Nat.le_of_ble_eq_true rfl) h62 (Nat.le_of_ble_eq_true rfl) rfl (zq_mul rfl rfl) rfl rfl (by omega) (by omega) (by decide) (by decide) ⟨Nat.le_of_ble_eq_true rfl, Nat.le_of_ble_eq_true rfl⟩ ?_
  refine z_n (L' := [(65, (zI G 5 (va_cpy rel rl (5 * i) 0 5)))]) rfl ?_
  exact z_return dX0_recall_16 rfl (Nat.le_refl _) (Nat.le_refl _) (fun _ => rfl) ⟨rfl, by simp only [X0_recall_c65]⟩
abbrev mX0_tellsSame : zM := (cX0_tellsSame, 3, (some .boolean), RX0, wsX0_tellsSame, "tellsSame")
theorem hiX0_tellsSame_X0 : ∀ w ∈ wsX00, w ∈ wsX0_tellsSame := fun w h => List.mem_cons_of_mem _ (List.mem_append_right _ h)
theorem lkX0_tellsSame_28 : Cond.fieldLink RX0 28 "ConfigSearch$Following" "triples" "[I" ∈ wsX0_tellsSame := by decide +kernel
theorem lkX0_tellsSame_37 : Cond.fieldLink RX0 37 "ConfigSearch$Following" "toldTriple" "[I" ∈ wsX0_tellsSame := by decide +kernel
theorem lkX0_tellsSame_22 : Cond.fieldLink RX0 22 "ConfigSearch$Following" "signs" "[I" ∈ wsX0_tellsSame := by decide +kernel
theorem lkX0_tellsSame_40 : Cond.fieldLink RX0 40 "ConfigSearch$Following" "toldSign" "I" ∈ wsX0_tellsSame := by decide +kernel
def X0_tellsSame_L2_F (tri : Nat → Int32) (tt : Nat → Int32) (i : Nat) (j : Nat) (a9 : Unit) : Unit := if (tri ((3 * i) + j)) = (tt j) then () else ()
def X0_tellsSame_L2_B (tri : Nat → Int32) (tt : Nat → Int32) (i : Nat) (j : Nat) (a9 : Unit) : Option ((Int32)) := if (tri ((3 * i) + j)) = (tt j) then none else (some (nI 0))
def X0_tellsSame_v (ts : Int32) (sgn tri tt : Nat → Int32) (i : Nat) : Int32 := zpick (zfoldB (X0_tellsSame_L2_B tri tt i) (X0_tellsSame_L2_F tri tt i) 3 0 ()) (fun b => b) (fun am2 => if (sgn i) = ts then (nI 1) else (nI 0))
set_option maxRecDepth 100000 in
set_option maxHeartbeats 4000000 in
theorem c_X0_tellsSame (G : zG) (ex : Bool) (g : Nat → va_E) (rows outc ts : Int32) (sgn tri tt : Nat → Int32) (i : Nat) (hi : i < 60) (h59 : g 59 = (oFol G rows outc ts)) (h61 : g 61 = (zI G 60 sgn)) (h63 : g 63 = (zI G 180 tri)) (h66 : g 66 = (zI G 3 tt)) : zC G yX0_tellsSame wsX0_tellsSame (zrm 0 0) ex [.ref (zB G + 59), .int (nI i)] (zN, g) (fun r h => r = some (.int (X0_tellsSame_v ts sgn tri tt i)) ∧ h = (zN, g)) := by
  refine zC_of mX0_tellsSame (lv := [some (.ref (zB G + 59)), some (.int (nI i)), none]) rfl rfl (by decide) (by intro v hv; simp at hv; rcases hv with rfl | rfl <;> rfl) (Nat.le_of_ble_eq_true rfl) rfl ?_
  refine z_0 ?_
  refine z_iconst (v := nI 0) dX0_tellsSame_0 rfl (by decide) ?_
  refine z_istore_2 dX0_tellsSame_1 rfl ?_
  refine z_forB (head := fun j (st9 : Unit) => Z G mX0_tellsSame (zrm 0 0) ex _ 2 [some (.ref (zB G + 59)), some (.int (nI i)), some (.int (nI j))] [] (zN, zus g []) 0 0) (out := fun b _ => (some (Value.int b) = some (Value.int (X0_tellsSame_v ts sgn tri tt i))) ∧ ((zN, zus g []) : zAH) = (zN, g)) (B := (X0_tellsSame_L2_B tri tt i)) (F := (X0_tellsSame_L2_F tri tt i)) (n := 3) (fun _ _ => True) (fun _ _ _ _ _ => trivial) ?_ 3 0 () (by omega) trivial ?_ ?_
  · intro j _ hi _ Ko K
    refine z_iload_n dX0_tellsSame_2 rfl rfl ?_
    refine z_iconst (v := nI 3) dX0_tellsSame_3 rfl (by decide) ?_
    refine z_icmp_ge (tgt := 34) dX0_tellsSame_4 rfl (by decide) (fun c4 => ?_) (fun c4 => ?_)
    · exact absurd c4 (nI_ge hi (by omega))
    · refine z_aload_n dX0_tellsSame_7 rfl rfl ?_
      refine z_get dX0_tellsSame_8 rfl hiX0_tellsSame_X0 6 lkX0_tellsSame_28 (Nat.le_of_ble_eq_true rfl) h59 rfl (by decide) rfl ?_
      refine z_iconst (v := nI 3) dX0_tellsSame_11 rfl (by decide) ?_
      refine z_iload_n dX0_tellsSame_12 rfl rfl ?_
      refine z_imul dX0_tellsSame_13 rfl ?_
      refine z_iload_n dX0_tellsSame_14 rfl rfl ?_
      refine z_iadd dX0_tellsSame_15 rfl ?_
      refine z_ialdN (j := (3 * i) + j) dX0_tellsSame_16 rfl (Nat.le_of_ble_eq_true rfl) h63 ((zq_add (zq_mul rfl rfl) rfl)) (by omega) (by decide) ?_
      refine z_aload_n dX0_tellsSame_17 rfl rfl ?_
      refine z_get dX0_tellsSame_18 rfl hiX0_tellsSame_X0 9 lkX0_tellsSame_37 (Nat.le_of_ble_eq_true rfl) h59 rfl (by decide) rfl ?_
      refine z_iload_n dX0_tellsSame_21 rfl rfl ?_
      refine z_ialdN (j := j) dX0_tellsSame_22 rfl (Nat.le_of_ble_eq_true rfl) h66 (rfl) (by omega) (by decide) ?_
      refine z_icmp_eq (tgt := 28) dX0_tellsSame_23 rfl (by decide) (fun c23 => ?_) (fun c23 => ?_)
      · refine z_iinc_2 (v := nI (j + 1)) dX0_tellsSame_28 rfl (zinc _) ?_
        refine z_goto (tgt := 2) dX0_tellsSame_31 (by decide) ?_
        have K9 := (K (by simp only [X0_tellsSame_L2_B, if_pos c23]))
        try simp only [X0_tellsSame_L2_F, if_pos c23] at K9
        exact K9
      · refine z_iconst (v := nI 0) dX0_tellsSame_26 rfl (by decide) ?_
        exact z_ireturn dX0_tellsSame_27 rfl rfl (Nat.le_refl _) (Nat.le_refl _) (fun _ => rfl) (Ko (nI 0) (by simp only [X0_tellsSame_L2_B, if_neg c23]))
  · intro b a9 hz2
    exact ⟨by simp only [X0_tellsSame_v, hz2, zpick_s], rfl⟩
  · intro _ hz2 _
    refine z_iload_n dX0_tellsSame_2 rfl rfl ?_
    refine z_iconst (v := nI 3) dX0_tellsSame_3 rfl (by decide) ?_
    refine z_icmp_ge (tgt := 34) dX0_tellsSame_4 rfl (by decide) (fun c4 => ?_) (fun c4 => ?_)
    · refine z_aload_n dX0_tellsSame_34 rfl rfl ?_
      refine z_get dX0_tellsSame_35 rfl hiX0_tellsSame_X0 3 lkX0_tellsSame_22 (Nat.le_of_ble_eq_true rfl) h59 rfl (by decide) rfl ?_
      refine z_iload_n dX0_tellsSame_38 rfl rfl ?_
      refine z_ialdN (j := i) dX0_tellsSame_39 rfl (Nat.le_of_ble_eq_true rfl) h61 (rfl) (by omega) (by decide) ?_
      refine z_aload_n dX0_tellsSame_40 rfl rfl ?_
      refine z_get dX0_tellsSame_41 rfl hiX0_tellsSame_X0 10 lkX0_tellsSame_40 (Nat.le_of_ble_eq_true rfl) h59 rfl (by decide) rfl ?_
      refine z_icmp_ne (tgt := 51) dX0_tellsSame_44 rfl (by decide) (fun c44 => ?_) (fun c44 => ?_)
      · refine z_iconst (v := nI 0) dX0_tellsSame_51 rfl (by decide) ?_
        exact z_ireturn dX0_tellsSame_52 rfl rfl (Nat.le_refl _) (Nat.le_refl _) (fun _ => rfl) ⟨by simp only [X0_tellsSame_v, hz2, zpick_n, if_neg c44], rfl⟩
      · refine z_iconst (v := nI 1) dX0_tellsSame_47 rfl (by decide) ?_
        refine z_goto (tgt := 52) dX0_tellsSame_48 (by decide) ?_
        exact z_ireturn dX0_tellsSame_52 rfl rfl (Nat.le_refl _) (Nat.le_refl _) (fun _ => rfl) ⟨by simp only [X0_tellsSame_v, hz2, zpick_n, if_pos c44], rfl⟩
    · exact absurd (nI_le (Nat.le_refl _) (by omega)) c4
abbrev mX0_setRelation : zM := (cX0_setRelation, 6, none, RX0, wsX0_setRelation, "setRelation")
theorem hiX0_setRelation_X0 : ∀ w ∈ wsX00, w ∈ wsX0_setRelation := fun w h => List.mem_cons_of_mem _ (List.mem_append_right _ h)
theorem lkX0_setRelation_34 : Cond.fieldLink RX0 34 "ConfigSearch$Following" "relation" "[I" ∈ wsX0_setRelation := by decide +kernel
def X0_setRelation_c65 (rl : Nat → Int32) (a b c d e : Nat) : Nat → Int32 := if (nI a) ≤ (nI b) then (if (nI a) ≤ (nI c) then (if (nI a) ≤ (nI d) then (if (nI a) ≤ (nI e) then (upd (upd (upd (upd (upd rl 0 (nI a)) 1 (nI (b + 1))) 2 (nI (c + 1))) 3 (nI (d + 1))) 4 (nI (e + 1))) else (upd (upd (upd (upd (upd rl 0 (nI a)) 1 (nI (b + 1))) 2 (nI (c + 1))) 3 (nI (d + 1))) 4 (nI e))) else (if (nI a) ≤ (nI e) then (upd (upd (upd (upd (upd rl 0 (nI a)) 1 (nI (b + 1))) 2 (nI (c + 1))) 3 (nI d)) 4 (nI (e + 1))) else (upd (upd (upd (upd (upd rl 0 (nI a)) 1 (nI (b + 1))) 2 (nI (c + 1))) 3 (nI d)) 4 (nI e)))) else (if (nI a) ≤ (nI d) then (if (nI a) ≤ (nI e) then (upd (upd (upd (upd (upd rl 0 (nI a)) 1 (nI (b + 1))) 2 (nI c)) 3 (nI (d + 1))) 4 (nI (e + 1))) else (upd (upd (upd (upd (upd rl 0 (nI a)) 1 (nI (b + 1))) 2 (nI c)) 3 (nI (d + 1))) 4 (nI e))) else (if (nI a) ≤ (nI e) then (upd (upd (upd (upd (upd rl 0 (nI a)) 1 (nI (b + 1))) 2 (nI c)) 3 (nI d)) 4 (nI (e + 1))) else (upd (upd (upd (upd (upd rl 0 (nI a)) 1 (nI (b + 1))) 2 (nI c)) 3 (nI d)) 4 (nI e))))) else (if (nI a) ≤ (nI c) then (if (nI a) ≤ (nI d) then (if (nI a) ≤ (nI e) then (upd (upd (upd (upd (upd rl 0 (nI a)) 1 (nI b)) 2 (nI (c + 1))) 3 (nI (d + 1))) 4 (nI (e + 1))) else (upd (upd (upd (upd (upd rl 0 (nI a)) 1 (nI b)) 2 (nI (c + 1))) 3 (nI (d + 1))) 4 (nI e))) else (if (nI a) ≤ (nI e) then (upd (upd (upd (upd (upd rl 0 (nI a)) 1 (nI b)) 2 (nI (c + 1))) 3 (nI d)) 4 (nI (e + 1))) else (upd (upd (upd (upd (upd rl 0 (nI a)) 1 (nI b)) 2 (nI (c + 1))) 3 (nI d)) 4 (nI e)))) else (if (nI a) ≤ (nI d) then (if (nI a) ≤ (nI e) then (upd (upd (upd (upd (upd rl 0 (nI a)) 1 (nI b)) 2 (nI c)) 3 (nI (d + 1))) 4 (nI (e + 1))) else (upd (upd (upd (upd (upd rl 0 (nI a)) 1 (nI b)) 2 (nI c)) 3 (nI (d + 1))) 4 (nI e))) else (if (nI a) ≤ (nI e) then (upd (upd (upd (upd (upd rl 0 (nI a)) 1 (nI b)) 2 (nI c)) 3 (nI d)) 4 (nI (e + 1))) else (upd (upd (upd (upd (upd rl 0 (nI a)) 1 (nI b)) 2 (nI c)) 3 (nI d)) 4 (nI e)))))
set_option maxRecDepth 100000 in
set_option maxHeartbeats 4000000 in
theorem c_X0_setRelation (G : zG) (ex : Bool) (g : Nat → va_E) (rows outc ts : Int32) (rl : Nat → Int32) (a b c d e : Nat)  (h59 : g 59 = (oFol G rows outc ts)) (h65 : g 65 = (zI G 5 rl)) : zC G yX0_setRelation wsX0_setRelation (zrm 0 0) ex [.ref (zB G + 59), .int (nI a), .int (nI b), .int (nI c), .int (nI d), .int (nI e)] (zN, g) (fun r h => r = none ∧ h = (zN, zus g [(65, zI G 5 (X0_setRelation_c65 rl a b c d e))])) := by
  refine zC_of mX0_setRelation (lv := [some (.ref (zB G + 59)), some (.int (nI a)), some (.int (nI b)), some (.int (nI c)), some (.int (nI d)), some (.int (nI e))]) rfl rfl (by decide) (by intro v hv; simp at hv; rcases hv with rfl | rfl | rfl | rfl | rfl | rfl <;> rfl) (Nat.le_of_ble_eq_true rfl) rfl ?_
  refine z_0 ?_
  refine z_heap (g' := zu (zus g []) 65 (zI G 5 rl)) (zu_self (zus g []) 65 _ h65).symm ?_
  refine z_n (L' := [(65, (zI G 5 rl))]) rfl ?_
  refine z_aload_n dX0_setRelation_0 rfl rfl ?_
  refine z_get dX0_setRelation_1 rfl hiX0_setRelation_X0 8 lkX0_setRelation_34 (Nat.le_of_ble_eq_true rfl) h59 rfl (by decide) rfl ?_
  refine z_iconst (v := nI 0) dX0_setRelation_4 rfl (by decide) ?_
  refine z_iload_n dX0_setRelation_5 rfl rfl ?_
  refine z_iastN (j := 0) dX0_setRelation_6 rfl (Nat.le_of_ble_eq_true rfl) rfl (rfl) (by omega) (by decide) ?_
  refine z_n (L' := [(65, (zI G 5 (upd rl 0 (nI a))))]) rfl ?_
  refine z_aload_n dX0_setRelation_7 rfl rfl ?_
  refine z_get dX0_setRelation_8 rfl hiX0_setRelation_X0 8 lkX0_setRelation_34 (Nat.le_of_ble_eq_true rfl) h59 rfl (by decide) rfl ?_
  refine z_iconst (v := nI 1) dX0_setRelation_11 rfl (by decide) ?_
  refine z_iload_n dX0_setRelation_12 rfl rfl ?_
  refine z_iload_n dX0_setRelation_13 rfl rfl ?_
  refine z_icmp_ge (tgt := 21) dX0_setRelation_14 rfl (by decide) (fun c14 => ?_) (fun c14 => ?_)
  · refine z_iload_n dX0_setRelation_21 rfl rfl ?_
    refine z_iconst (v := nI 1) dX0_setRelation_22 rfl (by decide) ?_
    refine z_iadd dX0_setRelation_23 rfl ?_
    refine z_top (show (nI b) + (nI 1) = nI (b + 1) from (zq_add rfl rfl)) ?_
    refine z_iastN (j := 1) dX0_setRelation_24 rfl (Nat.le_of_ble_eq_true rfl) rfl (rfl) (by omega) (by decide) ?_
    refine z_n (L' := [(65, (zI G 5 (upd (upd rl 0 (nI a)) 1 (nI (b + 1)))))]) rfl ?_
    refine z_aload_n dX0_setRelation_25 rfl rfl ?_
    refine z_get dX0_setRelation_26 rfl hiX0_setRelation_X0 8 lkX0_setRelation_34 (Nat.le_of_ble_eq_true rfl) h59 rfl (by decide) rfl ?_
    refine z_iconst (v := nI 2) dX0_setRelation_29 rfl (by decide) ?_
    refine z_iload_n dX0_setRelation_30 rfl rfl ?_
    refine z_iload_n dX0_setRelation_31 rfl rfl ?_
    refine z_icmp_ge (tgt := 39) dX0_setRelation_32 rfl (by decide) (fun c32 => ?_) (fun c32 => ?_)
    · refine z_iload_n dX0_setRelation_39 rfl rfl ?_
      refine z_iconst (v := nI 1) dX0_setRelation_40 rfl (by decide) ?_
      refine z_iadd dX0_setRelation_41 rfl ?_
      refine z_top (show (nI c) + (nI 1) = nI (c + 1) from (zq_add rfl rfl)) ?_
      refine z_iastN (j := 2) dX0_setRelation_42 rfl (Nat.le_of_ble_eq_true rfl) rfl (rfl) (by omega) (by decide) ?_
      refine z_n (L' := [(65, (zI G 5 (upd (upd (upd rl 0 (nI a)) 1 (nI (b + 1))) 2 (nI (c + 1)))))]) rfl ?_
      refine z_aload_n dX0_setRelation_43 rfl rfl ?_
      refine z_get dX0_setRelation_44 rfl hiX0_setRelation_X0 8 lkX0_setRelation_34 (Nat.le_of_ble_eq_true rfl) h59 rfl (by decide) rfl ?_
      refine z_iconst (v := nI 3) dX0_setRelation_47 rfl (by decide) ?_
      refine z_iload dX0_setRelation_48 rfl rfl ?_
      refine z_iload_n dX0_setRelation_50 rfl rfl ?_
      refine z_icmp_ge (tgt := 59) dX0_setRelation_51 rfl (by decide) (fun c51 => ?_) (fun c51 => ?_)
      · refine z_iload dX0_setRelation_59 rfl rfl ?_
        refine z_iconst (v := nI 1) dX0_setRelation_61 rfl (by decide) ?_
        refine z_iadd dX0_setRelation_62 rfl ?_
        refine z_top (show (nI d) + (nI 1) = nI (d + 1) from (zq_add rfl rfl)) ?_
        refine z_iastN (j := 3) dX0_setRelation_63 rfl (Nat.le_of_ble_eq_true rfl) rfl (rfl) (by omega) (by decide) ?_
        refine z_n (L' := [(65, (zI G 5 (upd (upd (upd (upd rl 0 (nI a)) 1 (nI (b + 1))) 2 (nI (c + 1))) 3 (nI (d + 1)))))]) rfl ?_
        refine z_aload_n dX0_setRelation_64 rfl rfl ?_
        refine z_get dX0_setRelation_65 rfl hiX0_setRelation_X0 8 lkX0_setRelation_34 (Nat.le_of_ble_eq_true rfl) h59 rfl (by decide) rfl ?_
        refine z_iconst (v := nI 4) dX0_setRelation_68 rfl (by decide) ?_
        refine z_iload dX0_setRelation_69 rfl rfl ?_
        refine z_iload_n dX0_setRelation_71 rfl rfl ?_
        refine z_icmp_ge (tgt := 80) dX0_setRelation_72 rfl (by decide) (fun c72 => ?_) (fun c72 => ?_)
        · refine z_iload dX0_setRelation_80 rfl rfl ?_
          refine z_iconst (v := nI 1) dX0_setRelation_82 rfl (by decide) ?_
          refine z_iadd dX0_setRelation_83 rfl ?_
          refine z_top (show (nI e) + (nI 1) = nI (e + 1) from (zq_add rfl rfl)) ?_
          refine z_iastN (j := 4) dX0_setRelation_84 rfl (Nat.le_of_ble_eq_true rfl) rfl (rfl) (by omega) (by decide) ?_
          refine z_n (L' := [(65, (zI G 5 (upd (upd (upd (upd (upd rl 0 (nI a)) 1 (nI (b + 1))) 2 (nI (c + 1))) 3 (nI (d + 1))) 4 (nI (e + 1)))))]) rfl ?_
          exact z_return dX0_setRelation_85 rfl (Nat.le_refl _) (Nat.le_refl _) (fun _ => rfl) ⟨rfl, by simp only [X0_setRelation_c65, if_pos c14, if_pos c32, if_pos c51, if_pos c72]⟩
        · refine z_iload dX0_setRelation_75 rfl rfl ?_
          refine z_goto (tgt := 84) dX0_setRelation_77 (by decide) ?_
          refine z_iastN (j := 4) dX0_setRelation_84 rfl (Nat.le_of_ble_eq_true rfl) rfl (rfl) (by omega) (by decide) ?_
          refine z_n (L' := [(65, (zI G 5 (upd (upd (upd (upd (upd rl 0 (nI a)) 1 (nI (b + 1))) 2 (nI (c + 1))) 3 (nI (d + 1))) 4 (nI e))))]) rfl ?_
          exact z_return dX0_setRelation_85 rfl (Nat.le_refl _) (Nat.le_refl _) (fun _ => rfl) ⟨rfl, by simp only [X0_setRelation_c65, if_pos c14, if_pos c32, if_pos c51, if_neg c72]⟩
      · refine z_iload dX0_setRelation_54 rfl rfl ?_
        refine z_goto (tgt := 63) dX0_setRelation_56 (by decide) ?_
        refine z_iastN (j := 3) dX0_setRelation_63 rfl (Nat.le_of_ble_eq_true rfl) rfl (rfl) (by omega) (by decide) ?_
        refine z_n (L' := [(65, (zI G 5 (upd (upd (upd (upd rl 0 (nI a)) 1 (nI (b + 1))) 2 (nI (c + 1))) 3 (nI d))))]) rfl ?_
        refine z_aload_n dX0_setRelation_64 rfl rfl ?_
        refine z_get dX0_setRelation_65 rfl hiX0_setRelation_X0 8 lkX0_setRelation_34 (Nat.le_of_ble_eq_true rfl) h59 rfl (by decide) rfl ?_
        refine z_iconst (v := nI 4) dX0_setRelation_68 rfl (by decide) ?_
        refine z_iload dX0_setRelation_69 rfl rfl ?_
        refine z_iload_n dX0_setRelation_71 rfl rfl ?_
        refine z_icmp_ge (tgt := 80) dX0_setRelation_72 rfl (by decide) (fun c72 => ?_) (fun c72 => ?_)
        · refine z_iload dX0_setRelation_80 rfl rfl ?_
          refine z_iconst (v := nI 1) dX0_setRelation_82 rfl (by decide) ?_
          refine z_iadd dX0_setRelation_83 rfl ?_
          refine z_top (show (nI e) + (nI 1) = nI (e + 1) from (zq_add rfl rfl)) ?_
          refine z_iastN (j := 4) dX0_setRelation_84 rfl (Nat.le_of_ble_eq_true rfl) rfl (rfl) (by omega) (by decide) ?_
          refine z_n (L' := [(65, (zI G 5 (upd (upd (upd (upd (upd rl 0 (nI a)) 1 (nI (b + 1))) 2 (nI (c + 1))) 3 (nI d)) 4 (nI (e + 1)))))]) rfl ?_
          exact z_return dX0_setRelation_85 rfl (Nat.le_refl _) (Nat.le_refl _) (fun _ => rfl) ⟨rfl, by simp only [X0_setRelation_c65, if_pos c14, if_pos c32, if_neg c51, if_pos c72]⟩
        · refine z_iload dX0_setRelation_75 rfl rfl ?_
          refine z_goto (tgt := 84) dX0_setRelation_77 (by decide) ?_
          refine z_iastN (j := 4) dX0_setRelation_84 rfl (Nat.le_of_ble_eq_true rfl) rfl (rfl) (by omega) (by decide) ?_
          refine z_n (L' := [(65, (zI G 5 (upd (upd (upd (upd (upd rl 0 (nI a)) 1 (nI (b + 1))) 2 (nI (c + 1))) 3 (nI d)) 4 (nI e))))]) rfl ?_
          exact z_return dX0_setRelation_85 rfl (Nat.le_refl _) (Nat.le_refl _) (fun _ => rfl) ⟨rfl, by simp only [X0_setRelation_c65, if_pos c14, if_pos c32, if_neg c51, if_neg c72]⟩
    · refine z_iload_n dX0_setRelation_35 rfl rfl ?_
      refine z_goto (tgt := 42) dX0_setRelation_36 (by decide) ?_
      refine z_iastN (j := 2) dX0_setRelation_42 rfl (Nat.le_of_ble_eq_true rfl) rfl (rfl) (by omega) (by decide) ?_
      refine z_n (L' := [(65, (zI G 5 (upd (upd (upd rl 0 (nI a)) 1 (nI (b + 1))) 2 (nI c))))]) rfl ?_
      refine z_aload_n dX0_setRelation_43 rfl rfl ?_
      refine z_get dX0_setRelation_44 rfl hiX0_setRelation_X0 8 lkX0_setRelation_34 (Nat.le_of_ble_eq_true rfl) h59 rfl (by decide) rfl ?_
      refine z_iconst (v := nI 3) dX0_setRelation_47 rfl (by decide) ?_
      refine z_iload dX0_setRelation_48 rfl rfl ?_
      refine z_iload_n dX0_setRelation_50 rfl rfl ?_
      refine z_icmp_ge (tgt := 59) dX0_setRelation_51 rfl (by decide) (fun c51 => ?_) (fun c51 => ?_)
      · refine z_iload dX0_setRelation_59 rfl rfl ?_
        refine z_iconst (v := nI 1) dX0_setRelation_61 rfl (by decide) ?_
        refine z_iadd dX0_setRelation_62 rfl ?_
        refine z_top (show (nI d) + (nI 1) = nI (d + 1) from (zq_add rfl rfl)) ?_
        refine z_iastN (j := 3) dX0_setRelation_63 rfl (Nat.le_of_ble_eq_true rfl) rfl (rfl) (by omega) (by decide) ?_
        refine z_n (L' := [(65, (zI G 5 (upd (upd (upd (upd rl 0 (nI a)) 1 (nI (b + 1))) 2 (nI c)) 3 (nI (d + 1)))))]) rfl ?_
        refine z_aload_n dX0_setRelation_64 rfl rfl ?_
        refine z_get dX0_setRelation_65 rfl hiX0_setRelation_X0 8 lkX0_setRelation_34 (Nat.le_of_ble_eq_true rfl) h59 rfl (by decide) rfl ?_
        refine z_iconst (v := nI 4) dX0_setRelation_68 rfl (by decide) ?_
        refine z_iload dX0_setRelation_69 rfl rfl ?_
        refine z_iload_n dX0_setRelation_71 rfl rfl ?_
        refine z_icmp_ge (tgt := 80) dX0_setRelation_72 rfl (by decide) (fun c72 => ?_) (fun c72 => ?_)
        · refine z_iload dX0_setRelation_80 rfl rfl ?_
          refine z_iconst (v := nI 1) dX0_setRelation_82 rfl (by decide) ?_
          refine z_iadd dX0_setRelation_83 rfl ?_
          refine z_top (show (nI e) + (nI 1) = nI (e + 1) from (zq_add rfl rfl)) ?_
          refine z_iastN (j := 4) dX0_setRelation_84 rfl (Nat.le_of_ble_eq_true rfl) rfl (rfl) (by omega) (by decide) ?_
          refine z_n (L' := [(65, (zI G 5 (upd (upd (upd (upd (upd rl 0 (nI a)) 1 (nI (b + 1))) 2 (nI c)) 3 (nI (d + 1))) 4 (nI (e + 1)))))]) rfl ?_
          exact z_return dX0_setRelation_85 rfl (Nat.le_refl _) (Nat.le_refl _) (fun _ => rfl) ⟨rfl, by simp only [X0_setRelation_c65, if_pos c14, if_neg c32, if_pos c51, if_pos c72]⟩
        · refine z_iload dX0_setRelation_75 rfl rfl ?_
          refine z_goto (tgt := 84) dX0_setRelation_77 (by decide) ?_
          refine z_iastN (j := 4) dX0_setRelation_84 rfl (Nat.le_of_ble_eq_true rfl) rfl (rfl) (by omega) (by decide) ?_
          refine z_n (L' := [(65, (zI G 5 (upd (upd (upd (upd (upd rl 0 (nI a)) 1 (nI (b + 1))) 2 (nI c)) 3 (nI (d + 1))) 4 (nI e))))]) rfl ?_
          exact z_return dX0_setRelation_85 rfl (Nat.le_refl _) (Nat.le_refl _) (fun _ => rfl) ⟨rfl, by simp only [X0_setRelation_c65, if_pos c14, if_neg c32, if_pos c51, if_neg c72]⟩
      · refine z_iload dX0_setRelation_54 rfl rfl ?_
        refine z_goto (tgt := 63) dX0_setRelation_56 (by decide) ?_
        refine z_iastN (j := 3) dX0_setRelation_63 rfl (Nat.le_of_ble_eq_true rfl) rfl (rfl) (by omega) (by decide) ?_
        refine z_n (L' := [(65, (zI G 5 (upd (upd (upd (upd rl 0 (nI a)) 1 (nI (b + 1))) 2 (nI c)) 3 (nI d))))]) rfl ?_
        refine z_aload_n dX0_setRelation_64 rfl rfl ?_
        refine z_get dX0_setRelation_65 rfl hiX0_setRelation_X0 8 lkX0_setRelation_34 (Nat.le_of_ble_eq_true rfl) h59 rfl (by decide) rfl ?_
        refine z_iconst (v := nI 4) dX0_setRelation_68 rfl (by decide) ?_
        refine z_iload dX0_setRelation_69 rfl rfl ?_
        refine z_iload_n dX0_setRelation_71 rfl rfl ?_
        refine z_icmp_ge (tgt := 80) dX0_setRelation_72 rfl (by decide) (fun c72 => ?_) (fun c72 => ?_)
        · refine z_iload dX0_setRelation_80 rfl rfl ?_
          refine z_iconst (v := nI 1) dX0_setRelation_82 rfl (by decide) ?_
          refine z_iadd dX0_setRelation_83 rfl ?_
          refine z_top (show (nI e) + (nI 1) = nI (e + 1) from (zq_add rfl rfl)) ?_
          refine z_iastN (j := 4) dX0_setRelation_84 rfl (Nat.le_of_ble_eq_true rfl) rfl (rfl) (by omega) (by decide) ?_
          refine z_n (L' := [(65, (zI G 5 (upd (upd (upd (upd (upd rl 0 (nI a)) 1 (nI (b + 1))) 2 (nI c)) 3 (nI d)) 4 (nI (e + 1)))))]) rfl ?_
          exact z_return dX0_setRelation_85 rfl (Nat.le_refl _) (Nat.le_refl _) (fun _ => rfl) ⟨rfl, by simp only [X0_setRelation_c65, if_pos c14, if_neg c32, if_neg c51, if_pos c72]⟩
        · refine z_iload dX0_setRelation_75 rfl rfl ?_
          refine z_goto (tgt := 84) dX0_setRelation_77 (by decide) ?_
          refine z_iastN (j := 4) dX0_setRelation_84 rfl (Nat.le_of_ble_eq_true rfl) rfl (rfl) (by omega) (by decide) ?_
          refine z_n (L' := [(65, (zI G 5 (upd (upd (upd (upd (upd rl 0 (nI a)) 1 (nI (b + 1))) 2 (nI c)) 3 (nI d)) 4 (nI e))))]) rfl ?_
          exact z_return dX0_setRelation_85 rfl (Nat.le_refl _) (Nat.le_refl _) (fun _ => rfl) ⟨rfl, by simp only [X0_setRelation_c65, if_pos c14, if_neg c32, if_neg c51, if_neg c72]⟩
  · refine z_iload_n dX0_setRelation_17 rfl rfl ?_
    refine z_goto (tgt := 24) dX0_setRelation_18 (by decide) ?_
    refine z_iastN (j := 1) dX0_setRelation_24 rfl (Nat.le_of_ble_eq_true rfl) rfl (rfl) (by omega) (by decide) ?_
    refine z_n (L' := [(65, (zI G 5 (upd (upd rl 0 (nI a)) 1 (nI b))))]) rfl ?_
    refine z_aload_n dX0_setRelation_25 rfl rfl ?_
    refine z_get dX0_setRelation_26 rfl hiX0_setRelation_X0 8 lkX0_setRelation_34 (Nat.le_of_ble_eq_true rfl) h59 rfl (by decide) rfl ?_
    refine z_iconst (v := nI 2) dX0_setRelation_29 rfl (by decide) ?_
    refine z_iload_n dX0_setRelation_30 rfl rfl ?_
    refine z_iload_n dX0_setRelation_31 rfl rfl ?_
    refine z_icmp_ge (tgt := 39) dX0_setRelation_32 rfl (by decide) (fun c32 => ?_) (fun c32 => ?_)
    · refine z_iload_n dX0_setRelation_39 rfl rfl ?_
      refine z_iconst (v := nI 1) dX0_setRelation_40 rfl (by decide) ?_
      refine z_iadd dX0_setRelation_41 rfl ?_
      refine z_top (show (nI c) + (nI 1) = nI (c + 1) from (zq_add rfl rfl)) ?_
      refine z_iastN (j := 2) dX0_setRelation_42 rfl (Nat.le_of_ble_eq_true rfl) rfl (rfl) (by omega) (by decide) ?_
      refine z_n (L' := [(65, (zI G 5 (upd (upd (upd rl 0 (nI a)) 1 (nI b)) 2 (nI (c + 1)))))]) rfl ?_
      refine z_aload_n dX0_setRelation_43 rfl rfl ?_
      refine z_get dX0_setRelation_44 rfl hiX0_setRelation_X0 8 lkX0_setRelation_34 (Nat.le_of_ble_eq_true rfl) h59 rfl (by decide) rfl ?_
      refine z_iconst (v := nI 3) dX0_setRelation_47 rfl (by decide) ?_
      refine z_iload dX0_setRelation_48 rfl rfl ?_
      refine z_iload_n dX0_setRelation_50 rfl rfl ?_
      refine z_icmp_ge (tgt := 59) dX0_setRelation_51 rfl (by decide) (fun c51 => ?_) (fun c51 => ?_)
      · refine z_iload dX0_setRelation_59 rfl rfl ?_
        refine z_iconst (v := nI 1) dX0_setRelation_61 rfl (by decide) ?_
        refine z_iadd dX0_setRelation_62 rfl ?_
        refine z_top (show (nI d) + (nI 1) = nI (d + 1) from (zq_add rfl rfl)) ?_
        refine z_iastN (j := 3) dX0_setRelation_63 rfl (Nat.le_of_ble_eq_true rfl) rfl (rfl) (by omega) (by decide) ?_
        refine z_n (L' := [(65, (zI G 5 (upd (upd (upd (upd rl 0 (nI a)) 1 (nI b)) 2 (nI (c + 1))) 3 (nI (d + 1)))))]) rfl ?_
        refine z_aload_n dX0_setRelation_64 rfl rfl ?_
        refine z_get dX0_setRelation_65 rfl hiX0_setRelation_X0 8 lkX0_setRelation_34 (Nat.le_of_ble_eq_true rfl) h59 rfl (by decide) rfl ?_
        refine z_iconst (v := nI 4) dX0_setRelation_68 rfl (by decide) ?_
        refine z_iload dX0_setRelation_69 rfl rfl ?_
        refine z_iload_n dX0_setRelation_71 rfl rfl ?_
        refine z_icmp_ge (tgt := 80) dX0_setRelation_72 rfl (by decide) (fun c72 => ?_) (fun c72 => ?_)
        · refine z_iload dX0_setRelation_80 rfl rfl ?_
          refine z_iconst (v := nI 1) dX0_setRelation_82 rfl (by decide) ?_
          refine z_iadd dX0_setRelation_83 rfl ?_
          refine z_top (show (nI e) + (nI 1) = nI (e + 1) from (zq_add rfl rfl)) ?_
          refine z_iastN (j := 4) dX0_setRelation_84 rfl (Nat.le_of_ble_eq_true rfl) rfl (rfl) (by omega) (by decide) ?_
          refine z_n (L' := [(65, (zI G 5 (upd (upd (upd (upd (upd rl 0 (nI a)) 1 (nI b)) 2 (nI (c + 1))) 3 (nI (d + 1))) 4 (nI (e + 1)))))]) rfl ?_
          exact z_return dX0_setRelation_85 rfl (Nat.le_refl _) (Nat.le_refl _) (fun _ => rfl) ⟨rfl, by simp only [X0_setRelation_c65, if_neg c14, if_pos c32, if_pos c51, if_pos c72]⟩
        · refine z_iload dX0_setRelation_75 rfl rfl ?_
          refine z_goto (tgt := 84) dX0_setRelation_77 (by decide) ?_
          refine z_iastN (j := 4) dX0_setRelation_84 rfl (Nat.le_of_ble_eq_true rfl) rfl (rfl) (by omega) (by decide) ?_
          refine z_n (L' := [(65, (zI G 5 (upd (upd (upd (upd (upd rl 0 (nI a)) 1 (nI b)) 2 (nI (c + 1))) 3 (nI (d + 1))) 4 (nI e))))]) rfl ?_
          exact z_return dX0_setRelation_85 rfl (Nat.le_refl _) (Nat.le_refl _) (fun _ => rfl) ⟨rfl, by simp only [X0_setRelation_c65, if_neg c14, if_pos c32, if_pos c51, if_neg c72]⟩
      · refine z_iload dX0_setRelation_54 rfl rfl ?_
        refine z_goto (tgt := 63) dX0_setRelation_56 (by decide) ?_
        refine z_iastN (j := 3) dX0_setRelation_63 rfl (Nat.le_of_ble_eq_true rfl) rfl (rfl) (by omega) (by decide) ?_
        refine z_n (L' := [(65, (zI G 5 (upd (upd (upd (upd rl 0 (nI a)) 1 (nI b)) 2 (nI (c + 1))) 3 (nI d))))]) rfl ?_
        refine z_aload_n dX0_setRelation_64 rfl rfl ?_
        refine z_get dX0_setRelation_65 rfl hiX0_setRelation_X0 8 lkX0_setRelation_34 (Nat.le_of_ble_eq_true rfl) h59 rfl (by decide) rfl ?_
        refine z_iconst (v := nI 4) dX0_setRelation_68 rfl (by decide) ?_
        refine z_iload dX0_setRelation_69 rfl rfl ?_
        refine z_iload_n dX0_setRelation_71 rfl rfl ?_
        refine z_icmp_ge (tgt := 80) dX0_setRelation_72 rfl (by decide) (fun c72 => ?_) (fun c72 => ?_)
        · refine z_iload dX0_setRelation_80 rfl rfl ?_
          refine z_iconst (v := nI 1) dX0_setRelation_82 rfl (by decide) ?_
          refine z_iadd dX0_setRelation_83 rfl ?_
          refine z_top (show (nI e) + (nI 1) = nI (e + 1) from (zq_add rfl rfl)) ?_
          refine z_iastN (j := 4) dX0_setRelation_84 rfl (Nat.le_of_ble_eq_true rfl) rfl (rfl) (by omega) (by decide) ?_
          refine z_n (L' := [(65, (zI G 5 (upd (upd (upd (upd (upd rl 0 (nI a)) 1 (nI b)) 2 (nI (c + 1))) 3 (nI d)) 4 (nI (e + 1)))))]) rfl ?_
          exact z_return dX0_setRelation_85 rfl (Nat.le_refl _) (Nat.le_refl _) (fun _ => rfl) ⟨rfl, by simp only [X0_setRelation_c65, if_neg c14, if_pos c32, if_neg c51, if_pos c72]⟩
        · refine z_iload dX0_setRelation_75 rfl rfl ?_
          refine z_goto (tgt := 84) dX0_setRelation_77 (by decide) ?_
          refine z_iastN (j := 4) dX0_setRelation_84 rfl (Nat.le_of_ble_eq_true rfl) rfl (rfl) (by omega) (by decide) ?_
          refine z_n (L' := [(65, (zI G 5 (upd (upd (upd (upd (upd rl 0 (nI a)) 1 (nI b)) 2 (nI (c + 1))) 3 (nI d)) 4 (nI e))))]) rfl ?_
          exact z_return dX0_setRelation_85 rfl (Nat.le_refl _) (Nat.le_refl _) (fun _ => rfl) ⟨rfl, by simp only [X0_setRelation_c65, if_neg c14, if_pos c32, if_neg c51, if_neg c72]⟩
    · refine z_iload_n dX0_setRelation_35 rfl rfl ?_
      refine z_goto (tgt := 42) dX0_setRelation_36 (by decide) ?_
      refine z_iastN (j := 2) dX0_setRelation_42 rfl (Nat.le_of_ble_eq_true rfl) rfl (rfl) (by omega) (by decide) ?_
      refine z_n (L' := [(65, (zI G 5 (upd (upd (upd rl 0 (nI a)) 1 (nI b)) 2 (nI c))))]) rfl ?_
      refine z_aload_n dX0_setRelation_43 rfl rfl ?_
      refine z_get dX0_setRelation_44 rfl hiX0_setRelation_X0 8 lkX0_setRelation_34 (Nat.le_of_ble_eq_true rfl) h59 rfl (by decide) rfl ?_
      refine z_iconst (v := nI 3) dX0_setRelation_47 rfl (by decide) ?_
      refine z_iload dX0_setRelation_48 rfl rfl ?_
      refine z_iload_n dX0_setRelation_50 rfl rfl ?_
      refine z_icmp_ge (tgt := 59) dX0_setRelation_51 rfl (by decide) (fun c51 => ?_) (fun c51 => ?_)
      · refine z_iload dX0_setRelation_59 rfl rfl ?_
        refine z_iconst (v := nI 1) dX0_setRelation_61 rfl (by decide) ?_
        refine z_iadd dX0_setRelation_62 rfl ?_
        refine z_top (show (nI d) + (nI 1) = nI (d + 1) from (zq_add rfl rfl)) ?_
        refine z_iastN (j := 3) dX0_setRelation_63 rfl (Nat.le_of_ble_eq_true rfl) rfl (rfl) (by omega) (by decide) ?_
        refine z_n (L' := [(65, (zI G 5 (upd (upd (upd (upd rl 0 (nI a)) 1 (nI b)) 2 (nI c)) 3 (nI (d + 1)))))]) rfl ?_
        refine z_aload_n dX0_setRelation_64 rfl rfl ?_
        refine z_get dX0_setRelation_65 rfl hiX0_setRelation_X0 8 lkX0_setRelation_34 (Nat.le_of_ble_eq_true rfl) h59 rfl (by decide) rfl ?_
        refine z_iconst (v := nI 4) dX0_setRelation_68 rfl (by decide) ?_
        refine z_iload dX0_setRelation_69 rfl rfl ?_
        refine z_iload_n dX0_setRelation_71 rfl rfl ?_
        refine z_icmp_ge (tgt := 80) dX0_setRelation_72 rfl (by decide) (fun c72 => ?_) (fun c72 => ?_)
        · refine z_iload dX0_setRelation_80 rfl rfl ?_
          refine z_iconst (v := nI 1) dX0_setRelation_82 rfl (by decide) ?_
          refine z_iadd dX0_setRelation_83 rfl ?_
          refine z_top (show (nI e) + (nI 1) = nI (e + 1) from (zq_add rfl rfl)) ?_
          refine z_iastN (j := 4) dX0_setRelation_84 rfl (Nat.le_of_ble_eq_true rfl) rfl (rfl) (by omega) (by decide) ?_
          refine z_n (L' := [(65, (zI G 5 (upd (upd (upd (upd (upd rl 0 (nI a)) 1 (nI b)) 2 (nI c)) 3 (nI (d + 1))) 4 (nI (e + 1)))))]) rfl ?_
          exact z_return dX0_setRelation_85 rfl (Nat.le_refl _) (Nat.le_refl _) (fun _ => rfl) ⟨rfl, by simp only [X0_setRelation_c65, if_neg c14, if_neg c32, if_pos c51, if_pos c72]⟩
        · refine z_iload dX0_setRelation_75 rfl rfl ?_
          refine z_goto (tgt := 84) dX0_setRelation_77 (by decide) ?_
          refine z_iastN (j := 4) dX0_setRelation_84 rfl (Nat.le_of_ble_eq_true rfl) rfl (rfl) (by omega) (by decide) ?_
          refine z_n (L' := [(65, (zI G 5 (upd (upd (upd (upd (upd rl 0 (nI a)) 1 (nI b)) 2 (nI c)) 3 (nI (d + 1))) 4 (nI e))))]) rfl ?_
          exact z_return dX0_setRelation_85 rfl (Nat.le_refl _) (Nat.le_refl _) (fun _ => rfl) ⟨rfl, by simp only [X0_setRelation_c65, if_neg c14, if_neg c32, if_pos c51, if_neg c72]⟩
      · refine z_iload dX0_setRelation_54 rfl rfl ?_
        refine z_goto (tgt := 63) dX0_setRelation_56 (by decide) ?_
        refine z_iastN (j := 3) dX0_setRelation_63 rfl (Nat.le_of_ble_eq_true rfl) rfl (rfl) (by omega) (by decide) ?_
        refine z_n (L' := [(65, (zI G 5 (upd (upd (upd (upd rl 0 (nI a)) 1 (nI b)) 2 (nI c)) 3 (nI d))))]) rfl ?_
        refine z_aload_n dX0_setRelation_64 rfl rfl ?_
        refine z_get dX0_setRelation_65 rfl hiX0_setRelation_X0 8 lkX0_setRelation_34 (Nat.le_of_ble_eq_true rfl) h59 rfl (by decide) rfl ?_
        refine z_iconst (v := nI 4) dX0_setRelation_68 rfl (by decide) ?_
        refine z_iload dX0_setRelation_69 rfl rfl ?_
        refine z_iload_n dX0_setRelation_71 rfl rfl ?_
        refine z_icmp_ge (tgt := 80) dX0_setRelation_72 rfl (by decide) (fun c72 => ?_) (fun c72 => ?_)
        · refine z_iload dX0_setRelation_80 rfl rfl ?_
          refine z_iconst (v := nI 1) dX0_setRelation_82 rfl (by decide) ?_
          refine z_iadd dX0_setRelation_83 rfl ?_
          refine z_top (show (nI e) + (nI 1) = nI (e + 1) from (zq_add rfl rfl)) ?_
          refine z_iastN (j := 4) dX0_setRelation_84 rfl (Nat.le_of_ble_eq_true rfl) rfl (rfl) (by omega) (by decide) ?_
          refine z_n (L' := [(65, (zI G 5 (upd (upd (upd (upd (upd rl 0 (nI a)) 1 (nI b)) 2 (nI c)) 3 (nI d)) 4 (nI (e + 1)))))]) rfl ?_
          exact z_return dX0_setRelation_85 rfl (Nat.le_refl _) (Nat.le_refl _) (fun _ => rfl) ⟨rfl, by simp only [X0_setRelation_c65, if_neg c14, if_neg c32, if_neg c51, if_pos c72]⟩
        · refine z_iload dX0_setRelation_75 rfl rfl ?_
          refine z_goto (tgt := 84) dX0_setRelation_77 (by decide) ?_
          refine z_iastN (j := 4) dX0_setRelation_84 rfl (Nat.le_of_ble_eq_true rfl) rfl (rfl) (by omega) (by decide) ?_
          refine z_n (L' := [(65, (zI G 5 (upd (upd (upd (upd (upd rl 0 (nI a)) 1 (nI b)) 2 (nI c)) 3 (nI d)) 4 (nI e))))]) rfl ?_
          exact z_return dX0_setRelation_85 rfl (Nat.le_refl _) (Nat.le_refl _) (fun _ => rfl) ⟨rfl, by simp only [X0_setRelation_c65, if_neg c14, if_neg c32, if_neg c51, if_neg c72]⟩
