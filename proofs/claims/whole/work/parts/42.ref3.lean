abbrev mX7_placeIn : zM := (cX7_placeIn, 5, (some .int), RX7, wsX7_placeIn, "placeIn")
def X7_placeIn_v (a b c : Int32) : Int32 := if b ≤ a then (if c ≤ b then (if a ≤ b then (if b ≤ c then ((((nI 100) * c) + ((nI 10) * ((((a + b) + c) - c) - c))) + c) else ((((nI 100) * c) + ((nI 10) * ((((a + b) + c) - c) - b))) + b)) else (if a ≤ c then ((((nI 100) * c) + ((nI 10) * ((((a + b) + c) - c) - c))) + c) else ((((nI 100) * c) + ((nI 10) * ((((a + b) + c) - c) - a))) + a))) else (if a ≤ b then (if b ≤ c then ((((nI 100) * b) + ((nI 10) * ((((a + b) + c) - b) - c))) + c) else ((((nI 100) * b) + ((nI 10) * ((((a + b) + c) - b) - b))) + b)) else (if a ≤ c then ((((nI 100) * b) + ((nI 10) * ((((a + b) + c) - b) - c))) + c) else ((((nI 100) * b) + ((nI 10) * ((((a + b) + c) - b) - a))) + a)))) else (if c ≤ a then (if a ≤ b then (if b ≤ c then ((((nI 100) * c) + ((nI 10) * ((((a + b) + c) - c) - c))) + c) else ((((nI 100) * c) + ((nI 10) * ((((a + b) + c) - c) - b))) + b)) else (if a ≤ c then ((((nI 100) * c) + ((nI 10) * ((((a + b) + c) - c) - c))) + c) else ((((nI 100) * c) + ((nI 10) * ((((a + b) + c) - c) - a))) + a))) else (if a ≤ b then (if b ≤ c then ((((nI 100) * a) + ((nI 10) * ((((a + b) + c) - a) - c))) + c) else ((((nI 100) * a) + ((nI 10) * ((((a + b) + c) - a) - b))) + b)) else (if a ≤ c then ((((nI 100) * a) + ((nI 10) * ((((a + b) + c) - a) - c))) + c) else ((((nI 100) * a) + ((nI 10) * ((((a + b) + c) - a) - a))) + a))))
set_option maxRecDepth 100000 in
set_option maxHeartbeats 4000000 in
theorem c_X7_placeIn (G : zG) (ex : Bool) (g : Nat → va_E) (a b c : Int32)   : zC G yX7_placeIn wsX7_placeIn (zrm 0 0) ex [.int a, .int b, .int c] (zN, g) (fun r h => r = some (.int (X7_placeIn_v a b c)) ∧ h = (zN, g)) := by
  refine zC_of mX7_placeIn (lv := [some (.int a), some (.int b), some (.int c), none, none]) rfl rfl (by decide) (by intro v hv; simp at hv; rcases hv with rfl | rfl | rfl <;> rfl) (Nat.le_of_ble_eq_true rfl) rfl ?_
  refine z_0 ?_
  refine z_iload_n dX7_placeIn_0 rfl rfl ?_
  refine z_iload_n dX7_placeIn_1 rfl rfl ?_
  refine z_icmp_ge (tgt := 18) dX7_placeIn_2 rfl (by decide) (fun c2 => ?_) (fun c2 => ?_)
  · refine z_iload_n dX7_placeIn_18 rfl rfl ?_
    refine z_iload_n dX7_placeIn_19 rfl rfl ?_
    refine z_icmp_ge (tgt := 27) dX7_placeIn_20 rfl (by decide) (fun c20 => ?_) (fun c20 => ?_)
    · refine z_iload_n dX7_placeIn_27 rfl rfl ?_
      refine z_istore_3 dX7_placeIn_28 rfl ?_
      refine z_iload_n dX7_placeIn_29 rfl rfl ?_
      refine z_iload_n dX7_placeIn_30 rfl rfl ?_
      refine z_icmp_le (tgt := 47) dX7_placeIn_31 rfl (by decide) (fun c31 => ?_) (fun c31 => ?_)
      · refine z_iload_n dX7_placeIn_47 rfl rfl ?_
        refine z_iload_n dX7_placeIn_48 rfl rfl ?_
        refine z_icmp_le (tgt := 56) dX7_placeIn_49 rfl (by decide) (fun c49 => ?_) (fun c49 => ?_)
        · refine z_iload_n dX7_placeIn_56 rfl rfl ?_
          refine z_istore_4 dX7_placeIn_57 rfl ?_
          refine z_bipush (v := nI 100) dX7_placeIn_59 rfl (by decide) ?_
          refine z_iload_n dX7_placeIn_61 rfl rfl ?_
          refine z_imul dX7_placeIn_62 rfl ?_
          refine z_bipush (v := nI 10) dX7_placeIn_63 rfl (by decide) ?_
          refine z_iload_n dX7_placeIn_65 rfl rfl ?_
          refine z_iload_n dX7_placeIn_66 rfl rfl ?_
          refine z_iadd dX7_placeIn_67 rfl ?_
          refine z_iload_n dX7_placeIn_68 rfl rfl ?_
          refine z_iadd dX7_placeIn_69 rfl ?_
          refine z_iload_n dX7_placeIn_70 rfl rfl ?_
          refine z_isub dX7_placeIn_71 rfl ?_
          refine z_iload dX7_placeIn_72 rfl rfl ?_
          refine z_isub dX7_placeIn_74 rfl ?_
          refine z_imul dX7_placeIn_75 rfl ?_
          refine z_iadd dX7_placeIn_76 rfl ?_
          refine z_iload dX7_placeIn_77 rfl rfl ?_
          refine z_iadd dX7_placeIn_79 rfl ?_
          exact z_ireturn dX7_placeIn_80 rfl rfl (Nat.le_refl _) (Nat.le_refl _) (fun _ => rfl) ⟨by simp only [X7_placeIn_v, if_pos c2, if_pos c20, if_pos c31, if_pos c49], rfl⟩
        · refine z_iload_n dX7_placeIn_52 rfl rfl ?_
          refine z_goto (tgt := 57) dX7_placeIn_53 (by decide) ?_
          refine z_istore_4 dX7_placeIn_57 rfl ?_
          refine z_bipush (v := nI 100) dX7_placeIn_59 rfl (by decide) ?_
          refine z_iload_n dX7_placeIn_61 rfl rfl ?_
          refine z_imul dX7_placeIn_62 rfl ?_
          refine z_bipush (v := nI 10) dX7_placeIn_63 rfl (by decide) ?_
          refine z_iload_n dX7_placeIn_65 rfl rfl ?_
          refine z_iload_n dX7_placeIn_66 rfl rfl ?_
          refine z_iadd dX7_placeIn_67 rfl ?_
          refine z_iload_n dX7_placeIn_68 rfl rfl ?_
          refine z_iadd dX7_placeIn_69 rfl ?_
          refine z_iload_n dX7_placeIn_70 rfl rfl ?_
          refine z_isub dX7_placeIn_71 rfl ?_
          refine z_iload dX7_placeIn_72 rfl rfl ?_
          refine z_isub dX7_placeIn_74 rfl ?_
          refine z_imul dX7_placeIn_75 rfl ?_
          refine z_iadd dX7_placeIn_76 rfl ?_
          refine z_iload dX7_placeIn_77 rfl rfl ?_
          refine z_iadd dX7_placeIn_79 rfl ?_
          exact z_ireturn dX7_placeIn_80 rfl rfl (Nat.le_refl _) (Nat.le_refl _) (fun _ => rfl) ⟨by simp only [X7_placeIn_v, if_pos c2, if_pos c20, if_pos c31, if_neg c49], rfl⟩
      · refine z_iload_n dX7_placeIn_34 rfl rfl ?_
        refine z_iload_n dX7_placeIn_35 rfl rfl ?_
        refine z_icmp_le (tgt := 43) dX7_placeIn_36 rfl (by decide) (fun c36 => ?_) (fun c36 => ?_)
        · refine z_iload_n dX7_placeIn_43 rfl rfl ?_
          refine z_goto (tgt := 57) dX7_placeIn_44 (by decide) ?_
          refine z_istore_4 dX7_placeIn_57 rfl ?_
          refine z_bipush (v := nI 100) dX7_placeIn_59 rfl (by decide) ?_
          refine z_iload_n dX7_placeIn_61 rfl rfl ?_
          refine z_imul dX7_placeIn_62 rfl ?_
          refine z_bipush (v := nI 10) dX7_placeIn_63 rfl (by decide) ?_
          refine z_iload_n dX7_placeIn_65 rfl rfl ?_
          refine z_iload_n dX7_placeIn_66 rfl rfl ?_
          refine z_iadd dX7_placeIn_67 rfl ?_
          refine z_iload_n dX7_placeIn_68 rfl rfl ?_
          refine z_iadd dX7_placeIn_69 rfl ?_
          refine z_iload_n dX7_placeIn_70 rfl rfl ?_
          refine z_isub dX7_placeIn_71 rfl ?_
          refine z_iload dX7_placeIn_72 rfl rfl ?_
          refine z_isub dX7_placeIn_74 rfl ?_
          refine z_imul dX7_placeIn_75 rfl ?_
          refine z_iadd dX7_placeIn_76 rfl ?_
          refine z_iload dX7_placeIn_77 rfl rfl ?_
          refine z_iadd dX7_placeIn_79 rfl ?_
          exact z_ireturn dX7_placeIn_80 rfl rfl (Nat.le_refl _) (Nat.le_refl _) (fun _ => rfl) ⟨by simp only [X7_placeIn_v, if_pos c2, if_pos c20, if_neg c31, if_pos c36], rfl⟩
        · refine z_iload_n dX7_placeIn_39 rfl rfl ?_
          refine z_goto (tgt := 57) dX7_placeIn_40 (by decide) ?_
          refine z_istore_4 dX7_placeIn_57 rfl ?_
          refine z_bipush (v := nI 100) dX7_placeIn_59 rfl (by decide) ?_
          refine z_iload_n dX7_placeIn_61 rfl rfl ?_
          refine z_imul dX7_placeIn_62 rfl ?_
          refine z_bipush (v := nI 10) dX7_placeIn_63 rfl (by decide) ?_
          refine z_iload_n dX7_placeIn_65 rfl rfl ?_
          refine z_iload_n dX7_placeIn_66 rfl rfl ?_
          refine z_iadd dX7_placeIn_67 rfl ?_
          refine z_iload_n dX7_placeIn_68 rfl rfl ?_
          refine z_iadd dX7_placeIn_69 rfl ?_
          refine z_iload_n dX7_placeIn_70 rfl rfl ?_
          refine z_isub dX7_placeIn_71 rfl ?_
          refine z_iload dX7_placeIn_72 rfl rfl ?_
          refine z_isub dX7_placeIn_74 rfl ?_
          refine z_imul dX7_placeIn_75 rfl ?_
          refine z_iadd dX7_placeIn_76 rfl ?_
          refine z_iload dX7_placeIn_77 rfl rfl ?_
          refine z_iadd dX7_placeIn_79 rfl ?_
          exact z_ireturn dX7_placeIn_80 rfl rfl (Nat.le_refl _) (Nat.le_refl _) (fun _ => rfl) ⟨by simp only [X7_placeIn_v, if_pos c2, if_pos c20, if_neg c31, if_neg c36], rfl⟩
    · refine z_iload_n dX7_placeIn_23 rfl rfl ?_
      refine z_goto (tgt := 28) dX7_placeIn_24 (by decide) ?_
      refine z_istore_3 dX7_placeIn_28 rfl ?_
      refine z_iload_n dX7_placeIn_29 rfl rfl ?_
      refine z_iload_n dX7_placeIn_30 rfl rfl ?_
      refine z_icmp_le (tgt := 47) dX7_placeIn_31 rfl (by decide) (fun c31 => ?_) (fun c31 => ?_)
      · refine z_iload_n dX7_placeIn_47 rfl rfl ?_
        refine z_iload_n dX7_placeIn_48 rfl rfl ?_
        refine z_icmp_le (tgt := 56) dX7_placeIn_49 rfl (by decide) (fun c49 => ?_) (fun c49 => ?_)
        · refine z_iload_n dX7_placeIn_56 rfl rfl ?_
          refine z_istore_4 dX7_placeIn_57 rfl ?_
          refine z_bipush (v := nI 100) dX7_placeIn_59 rfl (by decide) ?_
          refine z_iload_n dX7_placeIn_61 rfl rfl ?_
          refine z_imul dX7_placeIn_62 rfl ?_
          refine z_bipush (v := nI 10) dX7_placeIn_63 rfl (by decide) ?_
          refine z_iload_n dX7_placeIn_65 rfl rfl ?_
          refine z_iload_n dX7_placeIn_66 rfl rfl ?_
          refine z_iadd dX7_placeIn_67 rfl ?_
          refine z_iload_n dX7_placeIn_68 rfl rfl ?_
          refine z_iadd dX7_placeIn_69 rfl ?_
          refine z_iload_n dX7_placeIn_70 rfl rfl ?_
          refine z_isub dX7_placeIn_71 rfl ?_
          refine z_iload dX7_placeIn_72 rfl rfl ?_
          refine z_isub dX7_placeIn_74 rfl ?_
          refine z_imul dX7_placeIn_75 rfl ?_
          refine z_iadd dX7_placeIn_76 rfl ?_
          refine z_iload dX7_placeIn_77 rfl rfl ?_
          refine z_iadd dX7_placeIn_79 rfl ?_
          exact z_ireturn dX7_placeIn_80 rfl rfl (Nat.le_refl _) (Nat.le_refl _) (fun _ => rfl) ⟨by simp only [X7_placeIn_v, if_pos c2, if_neg c20, if_pos c31, if_pos c49], rfl⟩
        · refine z_iload_n dX7_placeIn_52 rfl rfl ?_
          refine z_goto (tgt := 57) dX7_placeIn_53 (by decide) ?_
          refine z_istore_4 dX7_placeIn_57 rfl ?_
          refine z_bipush (v := nI 100) dX7_placeIn_59 rfl (by decide) ?_
          refine z_iload_n dX7_placeIn_61 rfl rfl ?_
          refine z_imul dX7_placeIn_62 rfl ?_
          refine z_bipush (v := nI 10) dX7_placeIn_63 rfl (by decide) ?_
          refine z_iload_n dX7_placeIn_65 rfl rfl ?_
          refine z_iload_n dX7_placeIn_66 rfl rfl ?_
          refine z_iadd dX7_placeIn_67 rfl ?_
          refine z_iload_n dX7_placeIn_68 rfl rfl ?_
          refine z_iadd dX7_placeIn_69 rfl ?_
          refine z_iload_n dX7_placeIn_70 rfl rfl ?_
          refine z_isub dX7_placeIn_71 rfl ?_
          refine z_iload dX7_placeIn_72 rfl rfl ?_
          refine z_isub dX7_placeIn_74 rfl ?_
          refine z_imul dX7_placeIn_75 rfl ?_
          refine z_iadd dX7_placeIn_76 rfl ?_
          refine z_iload dX7_placeIn_77 rfl rfl ?_
          refine z_iadd dX7_placeIn_79 rfl ?_
          exact z_ireturn dX7_placeIn_80 rfl rfl (Nat.le_refl _) (Nat.le_refl _) (fun _ => rfl) ⟨by simp only [X7_placeIn_v, if_pos c2, if_neg c20, if_pos c31, if_neg c49], rfl⟩
      · refine z_iload_n dX7_placeIn_34 rfl rfl ?_
        refine z_iload_n dX7_placeIn_35 rfl rfl ?_
        refine z_icmp_le (tgt := 43) dX7_placeIn_36 rfl (by decide) (fun c36 => ?_) (fun c36 => ?_)
        · refine z_iload_n dX7_placeIn_43 rfl rfl ?_
          refine z_goto (tgt := 57) dX7_placeIn_44 (by decide) ?_
          refine z_istore_4 dX7_placeIn_57 rfl ?_
          refine z_bipush (v := nI 100) dX7_placeIn_59 rfl (by decide) ?_
          refine z_iload_n dX7_placeIn_61 rfl rfl ?_
          refine z_imul dX7_placeIn_62 rfl ?_
          refine z_bipush (v := nI 10) dX7_placeIn_63 rfl (by decide) ?_
          refine z_iload_n dX7_placeIn_65 rfl rfl ?_
          refine z_iload_n dX7_placeIn_66 rfl rfl ?_
          refine z_iadd dX7_placeIn_67 rfl ?_
          refine z_iload_n dX7_placeIn_68 rfl rfl ?_
          refine z_iadd dX7_placeIn_69 rfl ?_
          refine z_iload_n dX7_placeIn_70 rfl rfl ?_
          refine z_isub dX7_placeIn_71 rfl ?_
          refine z_iload dX7_placeIn_72 rfl rfl ?_
          refine z_isub dX7_placeIn_74 rfl ?_
          refine z_imul dX7_placeIn_75 rfl ?_
          refine z_iadd dX7_placeIn_76 rfl ?_
          refine z_iload dX7_placeIn_77 rfl rfl ?_
          refine z_iadd dX7_placeIn_79 rfl ?_
          exact z_ireturn dX7_placeIn_80 rfl rfl (Nat.le_refl _) (Nat.le_refl _) (fun _ => rfl) ⟨by simp only [X7_placeIn_v, if_pos c2, if_neg c20, if_neg c31, if_pos c36], rfl⟩
        · refine z_iload_n dX7_placeIn_39 rfl rfl ?_
          refine z_goto (tgt := 57) dX7_placeIn_40 (by decide) ?_
          refine z_istore_4 dX7_placeIn_57 rfl ?_
          refine z_bipush (v := nI 100) dX7_placeIn_59 rfl (by decide) ?_
          refine z_iload_n dX7_placeIn_61 rfl rfl ?_
          refine z_imul dX7_placeIn_62 rfl ?_
          refine z_bipush (v := nI 10) dX7_placeIn_63 rfl (by decide) ?_
          refine z_iload_n dX7_placeIn_65 rfl rfl ?_
          refine z_iload_n dX7_placeIn_66 rfl rfl ?_
          refine z_iadd dX7_placeIn_67 rfl ?_
          refine z_iload_n dX7_placeIn_68 rfl rfl ?_
          refine z_iadd dX7_placeIn_69 rfl ?_
          refine z_iload_n dX7_placeIn_70 rfl rfl ?_
          refine z_isub dX7_placeIn_71 rfl ?_
          refine z_iload dX7_placeIn_72 rfl rfl ?_
          refine z_isub dX7_placeIn_74 rfl ?_
          refine z_imul dX7_placeIn_75 rfl ?_
          refine z_iadd dX7_placeIn_76 rfl ?_
          refine z_iload dX7_placeIn_77 rfl rfl ?_
          refine z_iadd dX7_placeIn_79 rfl ?_
          exact z_ireturn dX7_placeIn_80 rfl rfl (Nat.le_refl _) (Nat.le_refl _) (fun _ => rfl) ⟨by simp only [X7_placeIn_v, if_pos c2, if_neg c20, if_neg c31, if_neg c36], rfl⟩
  · refine z_iload_n dX7_placeIn_5 rfl rfl ?_
    refine z_iload_n dX7_placeIn_6 rfl rfl ?_
    refine z_icmp_ge (tgt := 14) dX7_placeIn_7 rfl (by decide) (fun c7 => ?_) (fun c7 => ?_)
    · refine z_iload_n dX7_placeIn_14 rfl rfl ?_
      refine z_goto (tgt := 28) dX7_placeIn_15 (by decide) ?_
      refine z_istore_3 dX7_placeIn_28 rfl ?_
      refine z_iload_n dX7_placeIn_29 rfl rfl ?_
      refine z_iload_n dX7_placeIn_30 rfl rfl ?_
      refine z_icmp_le (tgt := 47) dX7_placeIn_31 rfl (by decide) (fun c31 => ?_) (fun c31 => ?_)
      · refine z_iload_n dX7_placeIn_47 rfl rfl ?_
        refine z_iload_n dX7_placeIn_48 rfl rfl ?_
        refine z_icmp_le (tgt := 56) dX7_placeIn_49 rfl (by decide) (fun c49 => ?_) (fun c49 => ?_)
        · refine z_iload_n dX7_placeIn_56 rfl rfl ?_
          refine z_istore_4 dX7_placeIn_57 rfl ?_
          refine z_bipush (v := nI 100) dX7_placeIn_59 rfl (by decide) ?_
          refine z_iload_n dX7_placeIn_61 rfl rfl ?_
          refine z_imul dX7_placeIn_62 rfl ?_
          refine z_bipush (v := nI 10) dX7_placeIn_63 rfl (by decide) ?_
          refine z_iload_n dX7_placeIn_65 rfl rfl ?_
          refine z_iload_n dX7_placeIn_66 rfl rfl ?_
          refine z_iadd dX7_placeIn_67 rfl ?_
          refine z_iload_n dX7_placeIn_68 rfl rfl ?_
          refine z_iadd dX7_placeIn_69 rfl ?_
          refine z_iload_n dX7_placeIn_70 rfl rfl ?_
          refine z_isub dX7_placeIn_71 rfl ?_
          refine z_iload dX7_placeIn_72 rfl rfl ?_
          refine z_isub dX7_placeIn_74 rfl ?_
          refine z_imul dX7_placeIn_75 rfl ?_
          refine z_iadd dX7_placeIn_76 rfl ?_
          refine z_iload dX7_placeIn_77 rfl rfl ?_
          refine z_iadd dX7_placeIn_79 rfl ?_
          exact z_ireturn dX7_placeIn_80 rfl rfl (Nat.le_refl _) (Nat.le_refl _) (fun _ => rfl) ⟨by simp only [X7_placeIn_v, if_neg c2, if_pos c7, if_pos c31, if_pos c49], rfl⟩
        · refine z_iload_n dX7_placeIn_52 rfl rfl ?_
          refine z_goto (tgt := 57) dX7_placeIn_53 (by decide) ?_
          refine z_istore_4 dX7_placeIn_57 rfl ?_
          refine z_bipush (v := nI 100) dX7_placeIn_59 rfl (by decide) ?_
          refine z_iload_n dX7_placeIn_61 rfl rfl ?_
          refine z_imul dX7_placeIn_62 rfl ?_
          refine z_bipush (v := nI 10) dX7_placeIn_63 rfl (by decide) ?_
          refine z_iload_n dX7_placeIn_65 rfl rfl ?_
          refine z_iload_n dX7_placeIn_66 rfl rfl ?_
          refine z_iadd dX7_placeIn_67 rfl ?_
          refine z_iload_n dX7_placeIn_68 rfl rfl ?_
          refine z_iadd dX7_placeIn_69 rfl ?_
          refine z_iload_n dX7_placeIn_70 rfl rfl ?_
          refine z_isub dX7_placeIn_71 rfl ?_
          refine z_iload dX7_placeIn_72 rfl rfl ?_
          refine z_isub dX7_placeIn_74 rfl ?_
          refine z_imul dX7_placeIn_75 rfl ?_
          refine z_iadd dX7_placeIn_76 rfl ?_
          refine z_iload dX7_placeIn_77 rfl rfl ?_
          refine z_iadd dX7_placeIn_79 rfl ?_
          exact z_ireturn dX7_placeIn_80 rfl rfl (Nat.le_refl _) (Nat.le_refl _) (fun _ => rfl) ⟨by simp only [X7_placeIn_v, if_neg c2, if_pos c7, if_pos c31, if_neg c49], rfl⟩
      · refine z_iload_n dX7_placeIn_34 rfl rfl ?_
        refine z_iload_n dX7_placeIn_35 rfl rfl ?_
        refine z_icmp_le (tgt := 43) dX7_placeIn_36 rfl (by decide) (fun c36 => ?_) (fun c36 => ?_)
        · refine z_iload_n dX7_placeIn_43 rfl rfl ?_
          refine z_goto (tgt := 57) dX7_placeIn_44 (by decide) ?_
          refine z_istore_4 dX7_placeIn_57 rfl ?_
          refine z_bipush (v := nI 100) dX7_placeIn_59 rfl (by decide) ?_
          refine z_iload_n dX7_placeIn_61 rfl rfl ?_
          refine z_imul dX7_placeIn_62 rfl ?_
          refine z_bipush (v := nI 10) dX7_placeIn_63 rfl (by decide) ?_
          refine z_iload_n dX7_placeIn_65 rfl rfl ?_
          refine z_iload_n dX7_placeIn_66 rfl rfl ?_
          refine z_iadd dX7_placeIn_67 rfl ?_
          refine z_iload_n dX7_placeIn_68 rfl rfl ?_
          refine z_iadd dX7_placeIn_69 rfl ?_
          refine z_iload_n dX7_placeIn_70 rfl rfl ?_
          refine z_isub dX7_placeIn_71 rfl ?_
          refine z_iload dX7_placeIn_72 rfl rfl ?_
          refine z_isub dX7_placeIn_74 rfl ?_
          refine z_imul dX7_placeIn_75 rfl ?_
          refine z_iadd dX7_placeIn_76 rfl ?_
          refine z_iload dX7_placeIn_77 rfl rfl ?_
          refine z_iadd dX7_placeIn_79 rfl ?_
          exact z_ireturn dX7_placeIn_80 rfl rfl (Nat.le_refl _) (Nat.le_refl _) (fun _ => rfl) ⟨by simp only [X7_placeIn_v, if_neg c2, if_pos c7, if_neg c31, if_pos c36], rfl⟩
        · refine z_iload_n dX7_placeIn_39 rfl rfl ?_
          refine z_goto (tgt := 57) dX7_placeIn_40 (by decide) ?_
          refine z_istore_4 dX7_placeIn_57 rfl ?_
          refine z_bipush (v := nI 100) dX7_placeIn_59 rfl (by decide) ?_
          refine z_iload_n dX7_placeIn_61 rfl rfl ?_
          refine z_imul dX7_placeIn_62 rfl ?_
          refine z_bipush (v := nI 10) dX7_placeIn_63 rfl (by decide) ?_
          refine z_iload_n dX7_placeIn_65 rfl rfl ?_
          refine z_iload_n dX7_placeIn_66 rfl rfl ?_
          refine z_iadd dX7_placeIn_67 rfl ?_
          refine z_iload_n dX7_placeIn_68 rfl rfl ?_
          refine z_iadd dX7_placeIn_69 rfl ?_
          refine z_iload_n dX7_placeIn_70 rfl rfl ?_
          refine z_isub dX7_placeIn_71 rfl ?_
          refine z_iload dX7_placeIn_72 rfl rfl ?_
          refine z_isub dX7_placeIn_74 rfl ?_
          refine z_imul dX7_placeIn_75 rfl ?_
          refine z_iadd dX7_placeIn_76 rfl ?_
          refine z_iload dX7_placeIn_77 rfl rfl ?_
          refine z_iadd dX7_placeIn_79 rfl ?_
          exact z_ireturn dX7_placeIn_80 rfl rfl (Nat.le_refl _) (Nat.le_refl _) (fun _ => rfl) ⟨by simp only [X7_placeIn_v, if_neg c2, if_pos c7, if_neg c31, if_neg c36], rfl⟩
    · refine z_iload_n dX7_placeIn_10 rfl rfl ?_
      refine z_goto (tgt := 28) dX7_placeIn_11 (by decide) ?_
      refine z_istore_3 dX7_placeIn_28 rfl ?_
      refine z_iload_n dX7_placeIn_29 rfl rfl ?_
      refine z_iload_n dX7_placeIn_30 rfl rfl ?_
      refine z_icmp_le (tgt := 47) dX7_placeIn_31 rfl (by decide) (fun c31 => ?_) (fun c31 => ?_)
      · refine z_iload_n dX7_placeIn_47 rfl rfl ?_
        refine z_iload_n dX7_placeIn_48 rfl rfl ?_
        refine z_icmp_le (tgt := 56) dX7_placeIn_49 rfl (by decide) (fun c49 => ?_) (fun c49 => ?_)
        · refine z_iload_n dX7_placeIn_56 rfl rfl ?_
          refine z_istore_4 dX7_placeIn_57 rfl ?_
          refine z_bipush (v := nI 100) dX7_placeIn_59 rfl (by decide) ?_
          refine z_iload_n dX7_placeIn_61 rfl rfl ?_
          refine z_imul dX7_placeIn_62 rfl ?_
          refine z_bipush (v := nI 10) dX7_placeIn_63 rfl (by decide) ?_
          refine z_iload_n dX7_placeIn_65 rfl rfl ?_
          refine z_iload_n dX7_placeIn_66 rfl rfl ?_
          refine z_iadd dX7_placeIn_67 rfl ?_
          refine z_iload_n dX7_placeIn_68 rfl rfl ?_
          refine z_iadd dX7_placeIn_69 rfl ?_
          refine z_iload_n dX7_placeIn_70 rfl rfl ?_
          refine z_isub dX7_placeIn_71 rfl ?_
          refine z_iload dX7_placeIn_72 rfl rfl ?_
          refine z_isub dX7_placeIn_74 rfl ?_
          refine z_imul dX7_placeIn_75 rfl ?_
          refine z_iadd dX7_placeIn_76 rfl ?_
          refine z_iload dX7_placeIn_77 rfl rfl ?_
          refine z_iadd dX7_placeIn_79 rfl ?_
          exact z_ireturn dX7_placeIn_80 rfl rfl (Nat.le_refl _) (Nat.le_refl _) (fun _ => rfl) ⟨by simp only [X7_placeIn_v, if_neg c2, if_neg c7, if_pos c31, if_pos c49], rfl⟩
        · refine z_iload_n dX7_placeIn_52 rfl rfl ?_
          refine z_goto (tgt := 57) dX7_placeIn_53 (by decide) ?_
          refine z_istore_4 dX7_placeIn_57 rfl ?_
          refine z_bipush (v := nI 100) dX7_placeIn_59 rfl (by decide) ?_
          refine z_iload_n dX7_placeIn_61 rfl rfl ?_
          refine z_imul dX7_placeIn_62 rfl ?_
          refine z_bipush (v := nI 10) dX7_placeIn_63 rfl (by decide) ?_
          refine z_iload_n dX7_placeIn_65 rfl rfl ?_
          refine z_iload_n dX7_placeIn_66 rfl rfl ?_
          refine z_iadd dX7_placeIn_67 rfl ?_
          refine z_iload_n dX7_placeIn_68 rfl rfl ?_
          refine z_iadd dX7_placeIn_69 rfl ?_
          refine z_iload_n dX7_placeIn_70 rfl rfl ?_
          refine z_isub dX7_placeIn_71 rfl ?_
          refine z_iload dX7_placeIn_72 rfl rfl ?_
          refine z_isub dX7_placeIn_74 rfl ?_
          refine z_imul dX7_placeIn_75 rfl ?_
          refine z_iadd dX7_placeIn_76 rfl ?_
          refine z_iload dX7_placeIn_77 rfl rfl ?_
          refine z_iadd dX7_placeIn_79 rfl ?_
          exact z_ireturn dX7_placeIn_80 rfl rfl (Nat.le_refl _) (Nat.le_refl _) (fun _ => rfl) ⟨by simp only [X7_placeIn_v, if_neg c2, if_neg c7, if_pos c31, if_neg c49], rfl⟩
      · refine z_iload_n dX7_placeIn_34 rfl rfl ?_
        refine z_iload_n dX7_placeIn_35 rfl rfl ?_
        refine z_icmp_le (tgt := 43) dX7_placeIn_36 rfl (by decide) (fun c36 => ?_) (fun c36 => ?_)
        · refine z_iload_n dX7_placeIn_43 rfl rfl ?_
          refine z_goto (tgt := 57) dX7_placeIn_44 (by decide) ?_
          refine z_istore_4 dX7_placeIn_57 rfl ?_
          refine z_bipush (v := nI 100) dX7_placeIn_59 rfl (by decide) ?_
          refine z_iload_n dX7_placeIn_61 rfl rfl ?_
          refine z_imul dX7_placeIn_62 rfl ?_
          refine z_bipush (v := nI 10) dX7_placeIn_63 rfl (by decide) ?_
          refine z_iload_n dX7_placeIn_65 rfl rfl ?_
          refine z_iload_n dX7_placeIn_66 rfl rfl ?_
          refine z_iadd dX7_placeIn_67 rfl ?_
          refine z_iload_n dX7_placeIn_68 rfl rfl ?_
          refine z_iadd dX7_placeIn_69 rfl ?_
          refine z_iload_n dX7_placeIn_70 rfl rfl ?_
          refine z_isub dX7_placeIn_71 rfl ?_
          refine z_iload dX7_placeIn_72 rfl rfl ?_
          refine z_isub dX7_placeIn_74 rfl ?_
          refine z_imul dX7_placeIn_75 rfl ?_
          refine z_iadd dX7_placeIn_76 rfl ?_
          refine z_iload dX7_placeIn_77 rfl rfl ?_
          refine z_iadd dX7_placeIn_79 rfl ?_
          exact z_ireturn dX7_placeIn_80 rfl rfl (Nat.le_refl _) (Nat.le_refl _) (fun _ => rfl) ⟨by simp only [X7_placeIn_v, if_neg c2, if_neg c7, if_neg c31, if_pos c36], rfl⟩
        · refine z_iload_n dX7_placeIn_39 rfl rfl ?_
          refine z_goto (tgt := 57) dX7_placeIn_40 (by decide) ?_
          refine z_istore_4 dX7_placeIn_57 rfl ?_
          refine z_bipush (v := nI 100) dX7_placeIn_59 rfl (by decide) ?_
          refine z_iload_n dX7_placeIn_61 rfl rfl ?_
          refine z_imul dX7_placeIn_62 rfl ?_
          refine z_bipush (v := nI 10) dX7_placeIn_63 rfl (by decide) ?_
          refine z_iload_n dX7_placeIn_65 rfl rfl ?_
          refine z_iload_n dX7_placeIn_66 rfl rfl ?_
          refine z_iadd dX7_placeIn_67 rfl ?_
          refine z_iload_n dX7_placeIn_68 rfl rfl ?_
          refine z_iadd dX7_placeIn_69 rfl ?_
          refine z_iload_n dX7_placeIn_70 rfl rfl ?_
          refine z_isub dX7_placeIn_71 rfl ?_
          refine z_iload dX7_placeIn_72 rfl rfl ?_
          refine z_isub dX7_placeIn_74 rfl ?_
          refine z_imul dX7_placeIn_75 rfl ?_
          refine z_iadd dX7_placeIn_76 rfl ?_
          refine z_iload dX7_placeIn_77 rfl rfl ?_
          refine z_iadd dX7_placeIn_79 rfl ?_
          exact z_ireturn dX7_placeIn_80 rfl rfl (Nat.le_refl _) (Nat.le_refl _) (fun _ => rfl) ⟨by simp only [X7_placeIn_v, if_neg c2, if_neg c7, if_neg c31, if_neg c36], rfl⟩
def plN (a b c : Nat) : Nat := 100 * min a (min b c) + 10 * (a + b + c - min a (min b c) - max a (max b c)) + max a (max b c)
set_option maxRecDepth 100000 in
theorem plN_ok0 : ∀ a, a < 10 → ∀ b, b < 10 → ∀ c, c < 10 → X7_placeIn_v (nI a) (nI b) (nI c) = nI (plN a b c) ∧ plN a b c < 1000 := by decide +kernel
theorem plN_lt {a b c : Nat} (ha : a < 10) (hb : b < 10) (hc : c < 10) : plN a b c < 1000 := (plN_ok0 a ha b hb c hc).2
theorem c_X7_placeIn_N (G : zG) (ex : Bool) (g : Nat → va_E) (a b c : Nat) (ha : a < 10) (hb : b < 10) (hc : c < 10) : zC G yX7_placeIn wsX7_placeIn (zrm 0 0) ex [.int (nI a), .int (nI b), .int (nI c)] (zN, g) (fun r h => r = some (.int (nI (plN a b c))) ∧ h = (zN, g)) := by
  have h := c_X7_placeIn G ex g (nI a) (nI b) (nI c)
  rw [(plN_ok0 a ha b hb c hc).1] at h
  exact h
abbrev mX7_layRow : zM := (cX7_layRow, 2, none, RX7, wsX7_layRow, "layRow")
theorem hiX7_layRow_X7 : ∀ w ∈ wsX70, w ∈ wsX7_layRow := fun w h => List.mem_cons_of_mem _ (List.mem_append_right _ h)
theorem lkX7_layRow_74 : Cond.fieldLink RX7 74 "ConfigSearchModel" "rowKind" "[I" ∈ wsX7_layRow := by decide +kernel
theorem lkX7_layRow_71 : Cond.fieldLink RX7 71 "ConfigSearchModel" "signs" "[I" ∈ wsX7_layRow := by decide +kernel
theorem lkX7_layRow_80 : Cond.fieldLink RX7 80 "ConfigSearchModel" "rowTriple" "[I" ∈ wsX7_layRow := by decide +kernel
theorem lkX7_layRow_83 : Cond.fieldLink RX7 83 "ConfigSearchModel" "rowSign" "[I" ∈ wsX7_layRow := by decide +kernel
def X7_layRow_c96 (sg rk rt rs : Nat → Int32) (k : Nat) : Nat → Int32 := if (rk k) = (nI 1) then sg else (upd sg (rt k).toNatClampNeg (rs k))
set_option maxRecDepth 100000 in
set_option maxHeartbeats 4000000 in
theorem c_X7_layRow (G : zG) (ex : Bool) (g : Nat → va_E) (code : Int32) (tps pts lns wds brs ors : Nat) (stp hasP fld laid told : Int32) (rws : Nat) (cms : Int32) (cmT : Nat) (cmS isN : Int32) (trs : Nat) (sg rk rt rs : Nat → Int32) (k : Nat) (hk : k < 60) (h4 : ¬ rk k = nI 1 → vp_in (rt k) 1000) (h76 : g 76 = (oMod G code (nI tps) (nI pts) (nI lns) (nI wds) (nI brs) (nI ors) stp hasP fld laid told (nI rws) cms (nI cmT) cmS isN (nI trs))) (h96 : g 96 = (zI G 1000 sg)) (h97 : g 97 = (zI G 60 rk)) (h99 : g 99 = (zI G 60 rt)) (h100 : g 100 = (zI G 60 rs)) : zC G yX7_layRow wsX7_layRow (zrm 0 0) ex [.ref (zB G + 76), .int (nI k)] (zN, g) (fun r h => r = none ∧ h = (zN, zus g [(96, zI G 1000 (X7_layRow_c96 sg rk rt rs k))])) := by
  refine zC_of mX7_layRow (lv := [some (.ref (zB G + 76)), some (.int (nI k))]) rfl rfl (by decide) (by intro v hv; simp at hv; rcases hv with rfl | rfl <;> rfl) (Nat.le_of_ble_eq_true rfl) rfl ?_
  refine z_0 ?_
  refine z_heap (g' := zu (zus g []) 96 (zI G 1000 sg)) (zu_self (zus g []) 96 _ h96).symm ?_
  refine z_n (L' := [(96, (zI G 1000 sg))]) rfl ?_
  refine z_aload_n dX7_layRow_0 rfl rfl ?_
  refine z_get dX7_layRow_1 rfl hiX7_layRow_X7 33 lkX7_layRow_74 (Nat.le_of_ble_eq_true rfl) h76 rfl (by decide) rfl ?_
  refine z_iload_n dX7_layRow_4 rfl rfl ?_
  refine z_ialdN (j := k) dX7_layRow_5 rfl (Nat.le_of_ble_eq_true rfl) h97 (rfl) (by omega) (by decide) ?_
  refine z_iconst (v := nI 1) dX7_layRow_6 rfl (by decide) ?_
  refine z_icmp_eq (tgt := 27) dX7_layRow_7 rfl (by decide) (fun c7 => ?_) (fun c7 => ?_)
  · exact z_return dX7_layRow_27 rfl (Nat.le_refl _) (Nat.le_refl _) (fun _ => rfl) ⟨rfl, by simp only [X7_layRow_c96, if_pos c7]⟩
  · refine z_aload_n dX7_layRow_10 rfl rfl ?_
    refine z_get dX7_layRow_11 rfl hiX7_layRow_X7 30 lkX7_layRow_71 (Nat.le_of_ble_eq_true rfl) h76 rfl (by decide) rfl ?_
    refine z_aload_n dX7_layRow_14 rfl rfl ?_
    refine z_get dX7_layRow_15 rfl hiX7_layRow_X7 35 lkX7_layRow_80 (Nat.le_of_ble_eq_true rfl) h76 rfl (by decide) rfl ?_
    refine z_iload_n dX7_layRow_18 rfl rfl ?_
    refine z_ialdN (j := k) dX7_layRow_19 rfl (Nat.le_of_ble_eq_true rfl) h99 (rfl) (by omega) (by decide) ?_
    refine z_aload_n dX7_layRow_20 rfl rfl ?_
    refine z_get dX7_layRow_21 rfl hiX7_layRow_X7 36 lkX7_layRow_83 (Nat.le_of_ble_eq_true rfl) h76 rfl (by decide) rfl ?_
    refine z_iload_n dX7_layRow_24 rfl rfl ?_
    refine z_ialdN (j := k) dX7_layRow_25 rfl (Nat.le_of_ble_eq_true rfl) h100 (rfl) (by omega) (by decide) ?_
    refine z_iast dX7_layRow_26 rfl (Nat.le_of_ble_eq_true rfl) rfl (h4 c7) ?_
    refine z_n (L' := [(96, (zI G 1000 (upd sg (rt k).toNatClampNeg (rs k))))]) rfl ?_
    exact z_return dX7_layRow_27 rfl (Nat.le_refl _) (Nat.le_refl _) (fun _ => rfl) ⟨rfl, by simp only [X7_layRow_c96, if_neg c7]⟩
abbrev mX7_signOf : zM := (cX7_signOf, 5, (some .int), RX7, wsX7_signOf, "signOf")
theorem hiX7_signOf_X7 : ∀ w ∈ wsX70, w ∈ wsX7_signOf := fun w h => List.mem_cons_of_mem _ (List.mem_append_right _ h)
theorem lkX7_signOf_71 : Cond.fieldLink RX7 71 "ConfigSearchModel" "signs" "[I" ∈ wsX7_signOf := by decide +kernel
theorem okk_X7_placeIn : zOk yX7_placeIn 3 := by unfold zOk; decide +kernel
def X7_signOf_v (sg : Nat → Int32) (a b c : Nat) : Int32 := if (sg (plN a b c)) = (nI 9) then (nI 9) else ((sg (plN a b c)) * (X7_turnOf_v (nI a) (nI b) (nI c)))
set_option maxRecDepth 100000 in
set_option maxHeartbeats 4000000 in
theorem c_X7_signOf (G : zG) (ex : Bool) (g : Nat → va_E) (code : Int32) (tps pts lns wds brs ors : Nat) (stp hasP fld laid told : Int32) (rws : Nat) (cms : Int32) (cmT : Nat) (cmS isN : Int32) (trs : Nat) (sg : Nat → Int32) (a b c : Nat) (ha : a < 10) (hb : b < 10) (hc : c < 10) (h76 : g 76 = (oMod G code (nI tps) (nI pts) (nI lns) (nI wds) (nI brs) (nI ors) stp hasP fld laid told (nI rws) cms (nI cmT) cmS isN (nI trs))) (h96 : g 96 = (zI G 1000 sg)) : zC G yX7_signOf wsX7_signOf (zrm 1 24) ex [.ref (zB G + 76), .int (nI a), .int (nI b), .int (nI c)] (zN, g) (fun r h => r = some (.int (X7_signOf_v sg a b c)) ∧ h = (zN, g)) := by
  refine zC_of mX7_signOf (lv := [some (.ref (zB G + 76)), some (.int (nI a)), some (.int (nI b)), some (.int (nI c)), none]) rfl rfl (by decide) (by intro v hv; simp at hv; rcases hv with rfl | rfl | rfl | rfl <;> rfl) (Nat.le_of_ble_eq_true rfl) rfl ?_
  refine z_0 ?_
  refine z_aload_n dX7_signOf_0 rfl rfl ?_
  refine z_get dX7_signOf_1 rfl hiX7_signOf_X7 30 lkX7_signOf_71 (Nat.le_of_ble_eq_true rfl) h76 rfl (by decide) rfl ?_
  refine z_iload_n dX7_signOf_4 rfl rfl ?_
  refine z_iload_n dX7_signOf_5 rfl rfl ?_
  refine z_iload_n dX7_signOf_6 rfl rfl ?_
  refine z_callSi (c_X7_placeIn_N G ex _ a b c (by omega) (by omega) (by omega)) gX7_signOf_X7_placeIn rfl dX7_signOf_7 rfl rfl okk_X7_placeIn ⟨Nat.le_of_ble_eq_true rfl, Nat.le_of_ble_eq_true rfl⟩ ⟨Nat.le_of_ble_eq_true rfl, Nat.le_of_ble_eq_true rfl⟩ (Nat.le_of_ble_eq_true rfl) ?_
  refine z_ialdN (j := plN a b c) dX7_signOf_10 rfl (Nat.le_of_ble_eq_true rfl) h96 (rfl) (plN_lt ha hb hc) (by decide) ?_
  refine z_istore_4 dX7_signOf_11 rfl ?_
  refine z_iload dX7_signOf_13 rfl rfl ?_
  refine z_bipush (v := nI 9) dX7_signOf_15 rfl (by decide) ?_
  refine z_icmp_ne (tgt := 25) dX7_signOf_17 rfl (by decide) (fun c17 => ?_) (fun c17 => ?_)
  · refine z_iload dX7_signOf_25 rfl rfl ?_
    refine z_iload_n dX7_signOf_27 rfl rfl ?_
    refine z_iload_n dX7_signOf_28 rfl rfl ?_
    refine z_iload_n dX7_signOf_29 rfl rfl ?_
    refine z_callSi (c_X7_turnOf G ex _ (nI a) (nI b) (nI c)) gX7_signOf_X7_turnOf rfl dX7_signOf_30 rfl rfl okk_X7_turnOf ⟨Nat.le_of_ble_eq_true rfl, Nat.le_of_ble_eq_true rfl⟩ ⟨Nat.le_of_ble_eq_true rfl, Nat.le_of_ble_eq_true rfl⟩ (Nat.le_of_ble_eq_true rfl) ?_
    refine z_imul dX7_signOf_33 rfl ?_
    exact z_ireturn dX7_signOf_34 rfl rfl (Nat.le_refl _) (Nat.le_refl _) (fun _ => rfl) ⟨by simp only [X7_signOf_v, if_neg c17], rfl⟩
  · refine z_bipush (v := nI 9) dX7_signOf_20 rfl (by decide) ?_
    refine z_goto (tgt := 34) dX7_signOf_22 (by decide) ?_
    exact z_ireturn dX7_signOf_34 rfl rfl (Nat.le_refl _) (Nat.le_refl _) (fun _ => rfl) ⟨by simp only [X7_signOf_v, if_pos c17], rfl⟩
abbrev mX7_laySix : zM := (cX7_laySix, 6, none, RX7, wsX7_laySix, "laySix")
theorem hiX7_laySix_X7 : ∀ w ∈ wsX70, w ∈ wsX7_laySix := fun w h => List.mem_cons_of_mem _ (List.mem_append_right _ h)
theorem lkX7_laySix_86 : Cond.fieldLink RX7 86 "ConfigSearchModel" "six" "[I" ∈ wsX7_laySix := by decide +kernel
theorem okk_X7_signOf : zOk yX7_signOf 3 := by unfold zOk; decide +kernel
def X7_laySix_c101 (sg sx : Nat → Int32) (a b c d e : Nat) : Nat → Int32 := upd (upd (upd (upd (upd (upd sx 0 (X7_signOf_v sg a b c)) 1 (X7_signOf_v sg a d e)) 2 (X7_signOf_v sg a b d)) 3 (X7_signOf_v sg a c e)) 4 (X7_signOf_v sg a b e)) 5 (X7_signOf_v sg a c d)
set_option maxRecDepth 100000 in
set_option maxHeartbeats 4000000 in
theorem c_X7_laySix (G : zG) (ex : Bool) (g : Nat → va_E) (code : Int32) (tps pts lns wds brs ors : Nat) (stp hasP fld laid told : Int32) (rws : Nat) (cms : Int32) (cmT : Nat) (cmS isN : Int32) (trs : Nat) (sg sx : Nat → Int32) (a b c d e : Nat) (ha : a < 10) (hb : b < 10) (hc : c < 10) (hd : d < 10) (he : e < 10) (h76 : g 76 = (oMod G code (nI tps) (nI pts) (nI lns) (nI wds) (nI brs) (nI ors) stp hasP fld laid told (nI rws) cms (nI cmT) cmS isN (nI trs))) (h96 : g 96 = (zI G 1000 sg)) (h101 : g 101 = (zI G 6 sx)) : zC G yX7_laySix wsX7_laySix (zrm 2 48) ex [.ref (zB G + 76), .int (nI a), .int (nI b), .int (nI c), .int (nI d), .int (nI e)] (zN, g) (fun r h => r = none ∧ h = (zN, zus g [(101, zI G 6 (X7_laySix_c101 sg sx a b c d e))])) := by
  refine zC_of mX7_laySix (lv := [some (.ref (zB G + 76)), some (.int (nI a)), some (.int (nI b)), some (.int (nI c)), some (.int (nI d)), some (.int (nI e))]) rfl rfl (by decide) (by intro v hv; simp at hv; rcases hv with rfl | rfl | rfl | rfl | rfl | rfl <;> rfl) (Nat.le_of_ble_eq_true rfl) rfl ?_
  refine z_0 ?_
  refine z_heap (g' := zu (zus g []) 101 (zI G 6 sx)) (zu_self (zus g []) 101 _ h101).symm ?_
  refine z_n (L' := [(101, (zI G 6 sx))]) rfl ?_
  refine z_aload_n dX7_laySix_0 rfl rfl ?_
  refine z_get dX7_laySix_1 rfl hiX7_laySix_X7 37 lkX7_laySix_86 (Nat.le_of_ble_eq_true rfl) h76 rfl (by decide) rfl ?_
  refine z_iconst (v := nI 0) dX7_laySix_4 rfl (by decide) ?_
  refine z_aload_n dX7_laySix_5 rfl rfl ?_
  refine z_iload_n dX7_laySix_6 rfl rfl ?_
  refine z_iload_n dX7_laySix_7 rfl rfl ?_
  refine z_iload_n dX7_laySix_8 rfl rfl ?_
  refine z_callVi (c_X7_signOf G ex _ code tps pts lns wds brs ors stp hasP fld laid told rws cms cmT cmS isN trs sg a b c (by omega) (by omega) (by omega) h76 h96) gX7_laySix_X7_signOf rfl dX7_laySix_9 rfl rfl rfl okk_X7_signOf (Nat.le_of_ble_eq_true rfl) h76 rfl ⟨Nat.le_of_ble_eq_true rfl, Nat.le_of_ble_eq_true rfl⟩ ⟨Nat.le_of_ble_eq_true rfl, Nat.le_of_ble_eq_true rfl⟩ (Nat.le_of_ble_eq_true rfl) ?_
  refine z_iastN (j := 0) dX7_laySix_12 rfl (Nat.le_of_ble_eq_true rfl) rfl (rfl) (by omega) (by decide) ?_
  refine z_n (L' := [(101, (zI G 6 (upd sx 0 (X7_signOf_v sg a b c))))]) rfl ?_
  refine z_aload_n dX7_laySix_13 rfl rfl ?_
  refine z_get dX7_laySix_14 rfl hiX7_laySix_X7 37 lkX7_laySix_86 (Nat.le_of_ble_eq_true rfl) h76 rfl (by decide) rfl ?_
  refine z_iconst (v := nI 1) dX7_laySix_17 rfl (by decide) ?_
  refine z_aload_n dX7_laySix_18 rfl rfl ?_
  refine z_iload_n dX7_laySix_19 rfl rfl ?_
  refine z_iload dX7_laySix_20 rfl rfl ?_
  refine z_iload dX7_laySix_22 rfl rfl ?_
  refine z_callVi (c_X7_signOf G ex _ code tps pts lns wds brs ors stp hasP fld laid told rws cms cmT cmS isN trs sg a d e (by omega) (by omega) (by omega) h76 h96) gX7_laySix_X7_signOf rfl dX7_laySix_24 rfl rfl rfl okk_X7_signOf (Nat.le_of_ble_eq_true rfl) h76 rfl ⟨Nat.le_of_ble_eq_true rfl, Nat.le_of_ble_eq_true rfl⟩ ⟨Nat.le_of_ble_eq_true rfl, Nat.le_of_ble_eq_true rfl⟩ (Nat.le_of_ble_eq_true rfl) ?_
  refine z_iastN (j := 1) dX7_laySix_27 rfl (Nat.le_of_ble_eq_true rfl) rfl (rfl) (by omega) (by decide) ?_
  refine z_n (L' := [(101, (zI G 6 (upd (upd sx 0 (X7_signOf_v sg a b c)) 1 (X7_signOf_v sg a d e))))]) rfl ?_
  refine z_aload_n dX7_laySix_28 rfl rfl ?_
  refine z_get dX7_laySix_29 rfl hiX7_laySix_X7 37 lkX7_laySix_86 (Nat.le_of_ble_eq_true rfl) h76 rfl (by decide) rfl ?_
  refine z_iconst (v := nI 2) dX7_laySix_32 rfl (by decide) ?_
  refine z_aload_n dX7_laySix_33 rfl rfl ?_
  refine z_iload_n dX7_laySix_34 rfl rfl ?_
  refine z_iload_n dX7_laySix_35 rfl rfl ?_
  refine z_iload dX7_laySix_36 rfl rfl ?_
  refine z_callVi (c_X7_signOf G ex _ code tps pts lns wds brs ors stp hasP fld laid told rws cms cmT cmS isN trs sg a b d (by omega) (by omega) (by omega) h76 h96) gX7_laySix_X7_signOf rfl dX7_laySix_38 rfl rfl rfl okk_X7_signOf (Nat.le_of_ble_eq_true rfl) h76 rfl ⟨Nat.le_of_ble_eq_true rfl, Nat.le_of_ble_eq_true rfl⟩ ⟨Nat.le_of_ble_eq_true rfl, Nat.le_of_ble_eq_true rfl⟩ (Nat.le_of_ble_eq_true rfl) ?_
  refine z_iastN (j := 2) dX7_laySix_41 rfl (Nat.le_of_ble_eq_true rfl) rfl (rfl) (by omega) (by decide) ?_
  refine z_n (L' := [(101, (zI G 6 (upd (upd (upd sx 0 (X7_signOf_v sg a b c)) 1 (X7_signOf_v sg a d e)) 2 (X7_signOf_v sg a b d))))]) rfl ?_
  refine z_aload_n dX7_laySix_42 rfl rfl ?_
  refine z_get dX7_laySix_43 rfl hiX7_laySix_X7 37 lkX7_laySix_86 (Nat.le_of_ble_eq_true rfl) h76 rfl (by decide) rfl ?_
  refine z_iconst (v := nI 3) dX7_laySix_46 rfl (by decide) ?_
  refine z_aload_n dX7_laySix_47 rfl rfl ?_
  refine z_iload_n dX7_laySix_48 rfl rfl ?_
  refine z_iload_n dX7_laySix_49 rfl rfl ?_
  refine z_iload dX7_laySix_50 rfl rfl ?_
  refine z_callVi (c_X7_signOf G ex _ code tps pts lns wds brs ors stp hasP fld laid told rws cms cmT cmS isN trs sg a c e (by omega) (by omega) (by omega) h76 h96) gX7_laySix_X7_signOf rfl dX7_laySix_52 rfl rfl rfl okk_X7_signOf (Nat.le_of_ble_eq_true rfl) h76 rfl ⟨Nat.le_of_ble_eq_true rfl, Nat.le_of_ble_eq_true rfl⟩ ⟨Nat.le_of_ble_eq_true rfl, Nat.le_of_ble_eq_true rfl⟩ (Nat.le_of_ble_eq_true rfl) ?_
  refine z_iastN (j := 3) dX7_laySix_55 rfl (Nat.le_of_ble_eq_true rfl) rfl (rfl) (by omega) (by decide) ?_
  refine z_n (L' := [(101, (zI G 6 (upd (upd (upd (upd sx 0 (X7_signOf_v sg a b c)) 1 (X7_signOf_v sg a d e)) 2 (X7_signOf_v sg a b d)) 3 (X7_signOf_v sg a c e))))]) rfl ?_
  refine z_aload_n dX7_laySix_56 rfl rfl ?_
  refine z_get dX7_laySix_57 rfl hiX7_laySix_X7 37 lkX7_laySix_86 (Nat.le_of_ble_eq_true rfl) h76 rfl (by decide) rfl ?_
  refine z_iconst (v := nI 4) dX7_laySix_60 rfl (by decide) ?_
  refine z_aload_n dX7_laySix_61 rfl rfl ?_
  refine z_iload_n dX7_laySix_62 rfl rfl ?_
  refine z_iload_n dX7_laySix_63 rfl rfl ?_
  refine z_iload dX7_laySix_64 rfl rfl ?_
  refine z_callVi (c_X7_signOf G ex _ code tps pts lns wds brs ors stp hasP fld laid told rws cms cmT cmS isN trs sg a b e (by omega) (by omega) (by omega) h76 h96) gX7_laySix_X7_signOf rfl dX7_laySix_66 rfl rfl rfl okk_X7_signOf (Nat.le_of_ble_eq_true rfl) h76 rfl ⟨Nat.le_of_ble_eq_true rfl, Nat.le_of_ble_eq_true rfl⟩ ⟨Nat.le_of_ble_eq_true rfl, Nat.le_of_ble_eq_true rfl⟩ (Nat.le_of_ble_eq_true rfl) ?_
  refine z_iastN (j := 4) dX7_laySix_69 rfl (Nat.le_of_ble_eq_true rfl) rfl (rfl) (by omega) (by decide) ?_
  refine z_n (L' := [(101, (zI G 6 (upd (upd (upd (upd (upd sx 0 (X7_signOf_v sg a b c)) 1 (X7_signOf_v sg a d e)) 2 (X7_signOf_v sg a b d)) 3 (X7_signOf_v sg a c e)) 4 (X7_signOf_v sg a b e))))]) rfl ?_
  refine z_aload_n dX7_laySix_70 rfl rfl ?_
  refine z_get dX7_laySix_71 rfl hiX7_laySix_X7 37 lkX7_laySix_86 (Nat.le_of_ble_eq_true rfl) h76 rfl (by decide) rfl ?_
  refine z_iconst (v := nI 5) dX7_laySix_74 rfl (by decide) ?_
  refine z_aload_n dX7_laySix_75 rfl rfl ?_
  refine z_iload_n dX7_laySix_76 rfl rfl ?_
  refine z_iload_n dX7_laySix_77 rfl rfl ?_
  refine z_iload dX7_laySix_78 rfl rfl ?_
  refine z_callVi (c_X7_signOf G ex _ code tps pts lns wds brs ors stp hasP fld laid told rws cms cmT cmS isN trs sg a c d (by omega) (by omega) (by omega) h76 h96) gX7_laySix_X7_signOf rfl dX7_laySix_80 rfl rfl rfl okk_X7_signOf (Nat.le_of_ble_eq_true rfl) h76 rfl ⟨Nat.le_of_ble_eq_true rfl, Nat.le_of_ble_eq_true rfl⟩ ⟨Nat.le_of_ble_eq_true rfl, Nat.le_of_ble_eq_true rfl⟩ (Nat.le_of_ble_eq_true rfl) ?_
  refine z_iastN (j := 5) dX7_laySix_83 rfl (Nat.le_of_ble_eq_true rfl) rfl (rfl) (by omega) (by decide) ?_
  refine z_n (L' := [(101, (zI G 6 (upd (upd (upd (upd (upd (upd sx 0 (X7_signOf_v sg a b c)) 1 (X7_signOf_v sg a d e)) 2 (X7_signOf_v sg a b d)) 3 (X7_signOf_v sg a c e)) 4 (X7_signOf_v sg a b e)) 5 (X7_signOf_v sg a c d))))]) rfl ?_
  exact z_return dX7_laySix_84 rfl (Nat.le_refl _) (Nat.le_refl _) (fun _ => rfl) ⟨rfl, by simp only [X7_laySix_c101]⟩
abbrev mX7_term : zM := (cX7_term, 2, (some .int), RX7, wsX7_term, "term")
theorem hiX7_term_X7 : ∀ w ∈ wsX70, w ∈ wsX7_term := fun w h => List.mem_cons_of_mem _ (List.mem_append_right _ h)
theorem lkX7_term_86 : Cond.fieldLink RX7 86 "ConfigSearchModel" "six" "[I" ∈ wsX7_term := by decide +kernel
def X7_term_v (sx : Nat → Int32) (i : Nat) : Int32 := if (nI i) = (nI 1) then ((-(sx 2)) * (sx 3)) else ((sx (2 * i)) * (sx ((2 * i) + 1)))
set_option maxRecDepth 100000 in
set_option maxHeartbeats 4000000 in
theorem c_X7_term (G : zG) (ex : Bool) (g : Nat → va_E) (code : Int32) (tps pts lns wds brs ors : Nat) (stp hasP fld laid told : Int32) (rws : Nat) (cms : Int32) (cmT : Nat) (cmS isN : Int32) (trs : Nat) (sx : Nat → Int32) (i : Nat) (hi : i < 3) (h76 : g 76 = (oMod G code (nI tps) (nI pts) (nI lns) (nI wds) (nI brs) (nI ors) stp hasP fld laid told (nI rws) cms (nI cmT) cmS isN (nI trs))) (h101 : g 101 = (zI G 6 sx)) : zC G yX7_term wsX7_term (zrm 0 0) ex [.ref (zB G + 76), .int (nI i)] (zN, g) (fun r h => r = some (.int (X7_term_v sx i)) ∧ h = (zN, g)) := by
  refine zC_of mX7_term (lv := [some (.ref (zB G + 76)), some (.int (nI i))]) rfl rfl (by decide) (by intro v hv; simp at hv; rcases hv with rfl | rfl <;> rfl) (Nat.le_of_ble_eq_true rfl) rfl ?_
  refine z_0 ?_
  refine z_iload_n dX7_term_0 rfl rfl ?_
  refine z_iconst (v := nI 1) dX7_term_1 rfl (by decide) ?_
  refine z_icmp_ne (tgt := 22) dX7_term_2 rfl (by decide) (fun c2 => ?_) (fun c2 => ?_)
  · refine z_aload_n dX7_term_22 rfl rfl ?_
    refine z_get dX7_term_23 rfl hiX7_term_X7 37 lkX7_term_86 (Nat.le_of_ble_eq_true rfl) h76 rfl (by decide) rfl ?_
    refine z_iconst (v := nI 2) dX7_term_26 rfl (by decide) ?_
    refine z_iload_n dX7_term_27 rfl rfl ?_
    refine z_imul dX7_term_28 rfl ?_
    refine z_ialdN (j := 2 * i) dX7_term_29 rfl (Nat.le_of_ble_eq_true rfl) h101 ((zq_mul rfl rfl)) (by omega) (by decide) ?_
    refine z_aload_n dX7_term_30 rfl rfl ?_
    refine z_get dX7_term_31 rfl hiX7_term_X7 37 lkX7_term_86 (Nat.le_of_ble_eq_true rfl) h76 rfl (by decide) rfl ?_
    refine z_iconst (v := nI 2) dX7_term_34 rfl (by decide) ?_
    refine z_iload_n dX7_term_35 rfl rfl ?_
    refine z_imul dX7_term_36 rfl ?_
    refine z_iconst (v := nI 1) dX7_term_37 rfl (by decide) ?_
    refine z_iadd dX7_term_38 rfl ?_
    refine z_ialdN (j := (2 * i) + 1) dX7_term_39 rfl (Nat.le_of_ble_eq_true rfl) h101 ((zq_add (zq_mul rfl rfl) rfl)) (by omega) (by decide) ?_
    refine z_imul dX7_term_40 rfl ?_
    exact z_ireturn dX7_term_41 rfl rfl (Nat.le_refl _) (Nat.le_refl _) (fun _ => rfl) ⟨by simp only [X7_term_v, if_neg c2], rfl⟩
  · refine z_aload_n dX7_term_5 rfl rfl ?_
    refine z_get dX7_term_6 rfl hiX7_term_X7 37 lkX7_term_86 (Nat.le_of_ble_eq_true rfl) h76 rfl (by decide) rfl ?_
    refine z_iconst (v := nI 2) dX7_term_9 rfl (by decide) ?_
    refine z_ialdN (j := 2) dX7_term_10 rfl (Nat.le_of_ble_eq_true rfl) h101 (rfl) (by omega) (by decide) ?_
    refine z_ineg dX7_term_11 rfl ?_
    refine z_aload_n dX7_term_12 rfl rfl ?_
    refine z_get dX7_term_13 rfl hiX7_term_X7 37 lkX7_term_86 (Nat.le_of_ble_eq_true rfl) h76 rfl (by decide) rfl ?_
    refine z_iconst (v := nI 3) dX7_term_16 rfl (by decide) ?_
    refine z_ialdN (j := 3) dX7_term_17 rfl (Nat.le_of_ble_eq_true rfl) h101 (rfl) (by omega) (by decide) ?_
    refine z_imul dX7_term_18 rfl ?_
    refine z_goto (tgt := 41) dX7_term_19 (by decide) ?_
    exact z_ireturn dX7_term_41 rfl rfl (Nat.le_refl _) (Nat.le_refl _) (fun _ => rfl) ⟨by simp only [X7_term_v, if_pos c2], rfl⟩
abbrev mX7_tells : zM := (cX7_tells, 10, none, RX7, wsX7_tells, "tells")
theorem hiX7_tells_X7 : ∀ w ∈ wsX70, w ∈ wsX7_tells := fun w h => List.mem_cons_of_mem _ (List.mem_append_right _ h)
theorem lkX7_tells_252 : Cond.fieldLink RX7 252 "ConfigSearchModel" "comesTriple" "I" ∈ wsX7_tells := by decide +kernel
theorem lkX7_tells_255 : Cond.fieldLink RX7 255 "ConfigSearchModel" "comesSign" "I" ∈ wsX7_tells := by decide +kernel
def X7_tells_p76_14 (tt : Nat) (a b c d e : Nat) : Nat := if (nI tt) = 0 then (plN a b c) else (if (nI tt) = (nI 2) then (plN a b d) else (if (nI tt) = (nI 4) then (if (nI tt) = (nI 5) then (plN a b d) else (plN a b e)) else (if (nI tt) = (nI 1) then (if (nI tt) = (nI 5) then (plN a d d) else (plN a d e)) else (if (nI tt) = (nI 5) then (plN a c d) else (plN a c e)))))
def X7_tells_p76_15 (tt : Nat) (sn : Int32) (a b c d e : Nat) : Int32 := if (nI tt) = 0 then (sn * (X7_turnOf_v (nI a) (nI b) (nI c))) else (if (nI tt) = (nI 2) then (sn * (X7_turnOf_v (nI a) (nI b) (nI d))) else (if (nI tt) = (nI 4) then (if (nI tt) = (nI 5) then (sn * (X7_turnOf_v (nI a) (nI b) (nI d))) else (sn * (X7_turnOf_v (nI a) (nI b) (nI e)))) else (if (nI tt) = (nI 1) then (if (nI tt) = (nI 5) then (sn * (X7_turnOf_v (nI a) (nI d) (nI d))) else (sn * (X7_turnOf_v (nI a) (nI d) (nI e)))) else (if (nI tt) = (nI 5) then (sn * (X7_turnOf_v (nI a) (nI c) (nI d))) else (sn * (X7_turnOf_v (nI a) (nI c) (nI e)))))))
set_option maxRecDepth 100000 in
set_option maxHeartbeats 4000000 in
theorem c_X7_tells (G : zG) (ex : Bool) (g : Nat → va_E) (code : Int32) (tps pts lns wds brs ors : Nat) (stp hasP fld laid told : Int32) (rws : Nat) (cms : Int32) (cmT : Nat) (cmS isN : Int32) (trs : Nat) (tt : Nat) (sn : Int32) (a b c d e : Nat) (ha : a < 10) (hb : b < 10) (hc : c < 10) (hd : d < 10) (he : e < 10) (h76 : g 76 = (oMod G code (nI tps) (nI pts) (nI lns) (nI wds) (nI brs) (nI ors) stp hasP fld laid told (nI rws) cms (nI cmT) cmS isN (nI trs))) : zC G yX7_tells wsX7_tells (zrm 1 24) ex [.ref (zB G + 76), .int (nI tt), .int sn, .int (nI a), .int (nI b), .int (nI c), .int (nI d), .int (nI e)] (zN, g) (fun r h => r = none ∧ h = (zN, zus g [(76, (oMod G code (nI tps) (nI pts) (nI lns) (nI wds) (nI brs) (nI ors) stp hasP fld laid told (nI rws) cms (nI (X7_tells_p76_14 tt a b c d e)) (X7_tells_p76_15 tt sn a b c d e) isN (nI trs)))])) := by
  refine zC_of mX7_tells (lv := [some (.ref (zB G + 76)), some (.int (nI tt)), some (.int sn), some (.int (nI a)), some (.int (nI b)), some (.int (nI c)), some (.int (nI d)), some (.int (nI e)), none, none]) rfl rfl (by decide) (by intro v hv; simp at hv; rcases hv with rfl | rfl | rfl | rfl | rfl | rfl | rfl | rfl <;> rfl) (Nat.le_of_ble_eq_true rfl) rfl ?_
  refine z_0 ?_
  refine z_heap (g' := zu (zus g []) 76 (oMod G code (nI tps) (nI pts) (nI lns) (nI wds) (nI brs) (nI ors) stp hasP fld laid told (nI rws) cms (nI cmT) cmS isN (nI trs))) (zu_self (zus g []) 76 _ h76).symm ?_
  refine z_n (L' := [(76, (oMod G code (nI tps) (nI pts) (nI lns) (nI wds) (nI brs) (nI ors) stp hasP fld laid told (nI rws) cms (nI cmT) cmS isN (nI trs)))]) rfl ?_
  refine z_iload_n dX7_tells_0 rfl rfl ?_
  refine z_if_eq (tgt := 14) dX7_tells_1 rfl (by decide) (fun c1 => ?_) (fun c1 => ?_)
  · refine z_iload dX7_tells_14 rfl rfl ?_
    refine z_goto (tgt := 31) dX7_tells_16 (by decide) ?_
    refine z_istore_8 dX7_tells_31 rfl ?_
    refine z_iload_n dX7_tells_33 rfl rfl ?_
    refine z_if_ne (tgt := 42) dX7_tells_34 rfl (by decide) (fun c34 => ?_) (fun c34 => ?_)
    · exact absurd c1 c34
    · refine z_iload dX7_tells_37 rfl rfl ?_
      refine z_goto (tgt := 59) dX7_tells_39 (by decide) ?_
      refine z_istore_9 dX7_tells_59 rfl ?_
      refine z_aload_n dX7_tells_61 rfl rfl ?_
      refine z_iload_n dX7_tells_62 rfl rfl ?_
      refine z_iload dX7_tells_63 rfl rfl ?_
      refine z_iload dX7_tells_65 rfl rfl ?_
      refine z_callSi (c_X7_placeIn_N G ex _ a b c (by omega) (by omega) (by omega)) gX7_tells_X7_placeIn rfl dX7_tells_67 rfl rfl okk_X7_placeIn ⟨Nat.le_of_ble_eq_true rfl, Nat.le_of_ble_eq_true rfl⟩ ⟨Nat.le_of_ble_eq_true rfl, Nat.le_of_ble_eq_true rfl⟩ (Nat.le_of_ble_eq_true rfl) ?_
      refine z_putN (e9 := (oMod G code (nI tps) (nI pts) (nI lns) (nI wds) (nI brs) (nI ors) stp hasP fld laid told (nI rws) cms (nI (plN a b c)) cmS isN (nI trs))) tyX7 tyX7_ok nmX7 dX7_tells_70 rfl hiX7_tells_X7 39 lkX7_tells_252 rfl (by decide +kernel) (Nat.le_of_ble_eq_true rfl) rfl rfl (by decide) (Nat.le_of_ble_eq_true rfl) rfl rfl rfl ?_
      refine z_n (L' := [(76, (oMod G code (nI tps) (nI pts) (nI lns) (nI wds) (nI brs) (nI ors) stp hasP fld laid told (nI rws) cms (nI (plN a b c)) cmS isN (nI trs)))]) rfl ?_
      refine z_aload_n dX7_tells_73 rfl rfl ?_
      refine z_iload_n dX7_tells_74 rfl rfl ?_
      refine z_iload_n dX7_tells_75 rfl rfl ?_
      refine z_iload dX7_tells_76 rfl rfl ?_
      refine z_iload dX7_tells_78 rfl rfl ?_
      refine z_callSi (c_X7_turnOf G ex _ (nI a) (nI b) (nI c)) gX7_tells_X7_turnOf rfl dX7_tells_80 rfl rfl okk_X7_turnOf ⟨Nat.le_of_ble_eq_true rfl, Nat.le_of_ble_eq_true rfl⟩ ⟨Nat.le_of_ble_eq_true rfl, Nat.le_of_ble_eq_true rfl⟩ (Nat.le_of_ble_eq_true rfl) ?_
      refine z_imul dX7_tells_83 rfl ?_
      refine z_putN (e9 := (oMod G code (nI tps) (nI pts) (nI lns) (nI wds) (nI brs) (nI ors) stp hasP fld laid told (nI rws) cms (nI (plN a b c)) (sn * (X7_turnOf_v (nI a) (nI b) (nI c))) isN (nI trs))) tyX7 tyX7_ok nmX7 dX7_tells_84 rfl hiX7_tells_X7 40 lkX7_tells_255 rfl (by decide +kernel) (Nat.le_of_ble_eq_true rfl) rfl rfl (by decide) (Nat.le_of_ble_eq_true rfl) rfl rfl rfl ?_
      refine z_n (L' := [(76, (oMod G code (nI tps) (nI pts) (nI lns) (nI wds) (nI brs) (nI ors) stp hasP fld laid told (nI rws) cms (nI (plN a b c)) (sn * (X7_turnOf_v (nI a) (nI b) (nI c))) isN (nI trs)))]) rfl ?_
      exact z_return dX7_tells_87 rfl (Nat.le_refl _) (Nat.le_refl _) (fun _ => rfl) ⟨rfl, by simp only [X7_tells_p76_14, X7_tells_p76_15, if_pos c1]⟩
  · refine z_iload_n dX7_tells_4 rfl rfl ?_
    refine z_iconst (v := nI 2) dX7_tells_5 rfl (by decide) ?_
    refine z_icmp_eq (tgt := 14) dX7_tells_6 rfl (by decide) (fun c6 => ?_) (fun c6 => ?_)
    · refine z_iload dX7_tells_14 rfl rfl ?_
      refine z_goto (tgt := 31) dX7_tells_16 (by decide) ?_
      refine z_istore_8 dX7_tells_31 rfl ?_
      refine z_iload_n dX7_tells_33 rfl rfl ?_
      refine z_if_ne (tgt := 42) dX7_tells_34 rfl (by decide) (fun c34 => ?_) (fun c34 => ?_)
      · refine z_iload_n dX7_tells_42 rfl rfl ?_
        refine z_iconst (v := nI 2) dX7_tells_43 rfl (by decide) ?_
        refine z_icmp_eq (tgt := 52) dX7_tells_44 rfl (by decide) (fun c44 => ?_) (fun c44 => ?_)
        · refine z_iload dX7_tells_52 rfl rfl ?_
          refine z_goto (tgt := 59) dX7_tells_54 (by decide) ?_
          refine z_istore_9 dX7_tells_59 rfl ?_
          refine z_aload_n dX7_tells_61 rfl rfl ?_
          refine z_iload_n dX7_tells_62 rfl rfl ?_
          refine z_iload dX7_tells_63 rfl rfl ?_
          refine z_iload dX7_tells_65 rfl rfl ?_
          refine z_callSi (c_X7_placeIn_N G ex _ a b d (by omega) (by omega) (by omega)) gX7_tells_X7_placeIn rfl dX7_tells_67 rfl rfl okk_X7_placeIn ⟨Nat.le_of_ble_eq_true rfl, Nat.le_of_ble_eq_true rfl⟩ ⟨Nat.le_of_ble_eq_true rfl, Nat.le_of_ble_eq_true rfl⟩ (Nat.le_of_ble_eq_true rfl) ?_
          refine z_putN (e9 := (oMod G code (nI tps) (nI pts) (nI lns) (nI wds) (nI brs) (nI ors) stp hasP fld laid told (nI rws) cms (nI (plN a b d)) cmS isN (nI trs))) tyX7 tyX7_ok nmX7 dX7_tells_70 rfl hiX7_tells_X7 39 lkX7_tells_252 rfl (by decide +kernel) (Nat.le_of_ble_eq_true rfl) rfl rfl (by decide) (Nat.le_of_ble_eq_true rfl) rfl rfl rfl ?_
          refine z_n (L' := [(76, (oMod G code (nI tps) (nI pts) (nI lns) (nI wds) (nI brs) (nI ors) stp hasP fld laid told (nI rws) cms (nI (plN a b d)) cmS isN (nI trs)))]) rfl ?_
          refine z_aload_n dX7_tells_73 rfl rfl ?_
          refine z_iload_n dX7_tells_74 rfl rfl ?_
          refine z_iload_n dX7_tells_75 rfl rfl ?_
          refine z_iload dX7_tells_76 rfl rfl ?_
          refine z_iload dX7_tells_78 rfl rfl ?_
          refine z_callSi (c_X7_turnOf G ex _ (nI a) (nI b) (nI d)) gX7_tells_X7_turnOf rfl dX7_tells_80 rfl rfl okk_X7_turnOf ⟨Nat.le_of_ble_eq_true rfl, Nat.le_of_ble_eq_true rfl⟩ ⟨Nat.le_of_ble_eq_true rfl, Nat.le_of_ble_eq_true rfl⟩ (Nat.le_of_ble_eq_true rfl) ?_
          refine z_imul dX7_tells_83 rfl ?_
          refine z_putN (e9 := (oMod G code (nI tps) (nI pts) (nI lns) (nI wds) (nI brs) (nI ors) stp hasP fld laid told (nI rws) cms (nI (plN a b d)) (sn * (X7_turnOf_v (nI a) (nI b) (nI d))) isN (nI trs))) tyX7 tyX7_ok nmX7 dX7_tells_84 rfl hiX7_tells_X7 40 lkX7_tells_255 rfl (by decide +kernel) (Nat.le_of_ble_eq_true rfl) rfl rfl (by decide) (Nat.le_of_ble_eq_true rfl) rfl rfl rfl ?_
          refine z_n (L' := [(76, (oMod G code (nI tps) (nI pts) (nI lns) (nI wds) (nI brs) (nI ors) stp hasP fld laid told (nI rws) cms (nI (plN a b d)) (sn * (X7_turnOf_v (nI a) (nI b) (nI d))) isN (nI trs)))]) rfl ?_
          exact z_return dX7_tells_87 rfl (Nat.le_refl _) (Nat.le_refl _) (fun _ => rfl) ⟨rfl, by simp only [X7_tells_p76_14, X7_tells_p76_15, if_neg c1, if_pos c6]⟩
        · exact absurd c6 c44
      · exact absurd c34 c1
    · refine z_iload_n dX7_tells_9 rfl rfl ?_
      refine z_iconst (v := nI 4) dX7_tells_10 rfl (by decide) ?_
      refine z_icmp_ne (tgt := 19) dX7_tells_11 rfl (by decide) (fun c11 => ?_) (fun c11 => ?_)
      · refine z_iload_n dX7_tells_19 rfl rfl ?_
        refine z_iconst (v := nI 1) dX7_tells_20 rfl (by decide) ?_
        refine z_icmp_ne (tgt := 29) dX7_tells_21 rfl (by decide) (fun c21 => ?_) (fun c21 => ?_)
        · refine z_iload dX7_tells_29 rfl rfl ?_
          refine z_istore_8 dX7_tells_31 rfl ?_
          refine z_iload_n dX7_tells_33 rfl rfl ?_
          refine z_if_ne (tgt := 42) dX7_tells_34 rfl (by decide) (fun c34 => ?_) (fun c34 => ?_)
          · refine z_iload_n dX7_tells_42 rfl rfl ?_
            refine z_iconst (v := nI 2) dX7_tells_43 rfl (by decide) ?_
            refine z_icmp_eq (tgt := 52) dX7_tells_44 rfl (by decide) (fun c44 => ?_) (fun c44 => ?_)
            · exact absurd c44 c6
            · refine z_iload_n dX7_tells_47 rfl rfl ?_
              refine z_iconst (v := nI 5) dX7_tells_48 rfl (by decide) ?_
              refine z_icmp_ne (tgt := 57) dX7_tells_49 rfl (by decide) (fun c49 => ?_) (fun c49 => ?_)
              · refine z_iload dX7_tells_57 rfl rfl ?_
                refine z_istore_9 dX7_tells_59 rfl ?_
                refine z_aload_n dX7_tells_61 rfl rfl ?_
                refine z_iload_n dX7_tells_62 rfl rfl ?_
                refine z_iload dX7_tells_63 rfl rfl ?_
                refine z_iload dX7_tells_65 rfl rfl ?_
                refine z_callSi (c_X7_placeIn_N G ex _ a c e (by omega) (by omega) (by omega)) gX7_tells_X7_placeIn rfl dX7_tells_67 rfl rfl okk_X7_placeIn ⟨Nat.le_of_ble_eq_true rfl, Nat.le_of_ble_eq_true rfl⟩ ⟨Nat.le_of_ble_eq_true rfl, Nat.le_of_ble_eq_true rfl⟩ (Nat.le_of_ble_eq_true rfl) ?_
                refine z_putN (e9 := (oMod G code (nI tps) (nI pts) (nI lns) (nI wds) (nI brs) (nI ors) stp hasP fld laid told (nI rws) cms (nI (plN a c e)) cmS isN (nI trs))) tyX7 tyX7_ok nmX7 dX7_tells_70 rfl hiX7_tells_X7 39 lkX7_tells_252 rfl (by decide +kernel) (Nat.le_of_ble_eq_true rfl) rfl rfl (by decide) (Nat.le_of_ble_eq_true rfl) rfl rfl rfl ?_
                refine z_n (L' := [(76, (oMod G code (nI tps) (nI pts) (nI lns) (nI wds) (nI brs) (nI ors) stp hasP fld laid told (nI rws) cms (nI (plN a c e)) cmS isN (nI trs)))]) rfl ?_
                refine z_aload_n dX7_tells_73 rfl rfl ?_
                refine z_iload_n dX7_tells_74 rfl rfl ?_
                refine z_iload_n dX7_tells_75 rfl rfl ?_
                refine z_iload dX7_tells_76 rfl rfl ?_
                refine z_iload dX7_tells_78 rfl rfl ?_
                refine z_callSi (c_X7_turnOf G ex _ (nI a) (nI c) (nI e)) gX7_tells_X7_turnOf rfl dX7_tells_80 rfl rfl okk_X7_turnOf ⟨Nat.le_of_ble_eq_true rfl, Nat.le_of_ble_eq_true rfl⟩ ⟨Nat.le_of_ble_eq_true rfl, Nat.le_of_ble_eq_true rfl⟩ (Nat.le_of_ble_eq_true rfl) ?_
                refine z_imul dX7_tells_83 rfl ?_
                refine z_putN (e9 := (oMod G code (nI tps) (nI pts) (nI lns) (nI wds) (nI brs) (nI ors) stp hasP fld laid told (nI rws) cms (nI (plN a c e)) (sn * (X7_turnOf_v (nI a) (nI c) (nI e))) isN (nI trs))) tyX7 tyX7_ok nmX7 dX7_tells_84 rfl hiX7_tells_X7 40 lkX7_tells_255 rfl (by decide +kernel) (Nat.le_of_ble_eq_true rfl) rfl rfl (by decide) (Nat.le_of_ble_eq_true rfl) rfl rfl rfl ?_
                refine z_n (L' := [(76, (oMod G code (nI tps) (nI pts) (nI lns) (nI wds) (nI brs) (nI ors) stp hasP fld laid told (nI rws) cms (nI (plN a c e)) (sn * (X7_turnOf_v (nI a) (nI c) (nI e))) isN (nI trs)))]) rfl ?_
                exact z_return dX7_tells_87 rfl (Nat.le_refl _) (Nat.le_refl _) (fun _ => rfl) ⟨rfl, by simp only [X7_tells_p76_14, X7_tells_p76_15, if_neg c1, if_neg c6, if_neg c11, if_neg c21, if_neg c49]⟩
              · refine z_iload dX7_tells_52 rfl rfl ?_
                refine z_goto (tgt := 59) dX7_tells_54 (by decide) ?_
                refine z_istore_9 dX7_tells_59 rfl ?_
                refine z_aload_n dX7_tells_61 rfl rfl ?_
                refine z_iload_n dX7_tells_62 rfl rfl ?_
                refine z_iload dX7_tells_63 rfl rfl ?_
                refine z_iload dX7_tells_65 rfl rfl ?_
                refine z_callSi (c_X7_placeIn_N G ex _ a c d (by omega) (by omega) (by omega)) gX7_tells_X7_placeIn rfl dX7_tells_67 rfl rfl okk_X7_placeIn ⟨Nat.le_of_ble_eq_true rfl, Nat.le_of_ble_eq_true rfl⟩ ⟨Nat.le_of_ble_eq_true rfl, Nat.le_of_ble_eq_true rfl⟩ (Nat.le_of_ble_eq_true rfl) ?_
                refine z_putN (e9 := (oMod G code (nI tps) (nI pts) (nI lns) (nI wds) (nI brs) (nI ors) stp hasP fld laid told (nI rws) cms (nI (plN a c d)) cmS isN (nI trs))) tyX7 tyX7_ok nmX7 dX7_tells_70 rfl hiX7_tells_X7 39 lkX7_tells_252 rfl (by decide +kernel) (Nat.le_of_ble_eq_true rfl) rfl rfl (by decide) (Nat.le_of_ble_eq_true rfl) rfl rfl rfl ?_
                refine z_n (L' := [(76, (oMod G code (nI tps) (nI pts) (nI lns) (nI wds) (nI brs) (nI ors) stp hasP fld laid told (nI rws) cms (nI (plN a c d)) cmS isN (nI trs)))]) rfl ?_
                refine z_aload_n dX7_tells_73 rfl rfl ?_
                refine z_iload_n dX7_tells_74 rfl rfl ?_
                refine z_iload_n dX7_tells_75 rfl rfl ?_
                refine z_iload dX7_tells_76 rfl rfl ?_
                refine z_iload dX7_tells_78 rfl rfl ?_
                refine z_callSi (c_X7_turnOf G ex _ (nI a) (nI c) (nI d)) gX7_tells_X7_turnOf rfl dX7_tells_80 rfl rfl okk_X7_turnOf ⟨Nat.le_of_ble_eq_true rfl, Nat.le_of_ble_eq_true rfl⟩ ⟨Nat.le_of_ble_eq_true rfl, Nat.le_of_ble_eq_true rfl⟩ (Nat.le_of_ble_eq_true rfl) ?_
                refine z_imul dX7_tells_83 rfl ?_
                refine z_putN (e9 := (oMod G code (nI tps) (nI pts) (nI lns) (nI wds) (nI brs) (nI ors) stp hasP fld laid told (nI rws) cms (nI (plN a c d)) (sn * (X7_turnOf_v (nI a) (nI c) (nI d))) isN (nI trs))) tyX7 tyX7_ok nmX7 dX7_tells_84 rfl hiX7_tells_X7 40 lkX7_tells_255 rfl (by decide +kernel) (Nat.le_of_ble_eq_true rfl) rfl rfl (by decide) (Nat.le_of_ble_eq_true rfl) rfl rfl rfl ?_
                refine z_n (L' := [(76, (oMod G code (nI tps) (nI pts) (nI lns) (nI wds) (nI brs) (nI ors) stp hasP fld laid told (nI rws) cms (nI (plN a c d)) (sn * (X7_turnOf_v (nI a) (nI c) (nI d))) isN (nI trs)))]) rfl ?_
                exact z_return dX7_tells_87 rfl (Nat.le_refl _) (Nat.le_refl _) (fun _ => rfl) ⟨rfl, by simp only [X7_tells_p76_14, X7_tells_p76_15, if_neg c1, if_neg c6, if_neg c11, if_neg c21, if_pos c49]⟩
          · exact absurd c34 c1
        · refine z_iload dX7_tells_24 rfl rfl ?_
          refine z_goto (tgt := 31) dX7_tells_26 (by decide) ?_
          refine z_istore_8 dX7_tells_31 rfl ?_
          refine z_iload_n dX7_tells_33 rfl rfl ?_
          refine z_if_ne (tgt := 42) dX7_tells_34 rfl (by decide) (fun c34 => ?_) (fun c34 => ?_)
          · refine z_iload_n dX7_tells_42 rfl rfl ?_
            refine z_iconst (v := nI 2) dX7_tells_43 rfl (by decide) ?_
            refine z_icmp_eq (tgt := 52) dX7_tells_44 rfl (by decide) (fun c44 => ?_) (fun c44 => ?_)
            · exact absurd c44 c6
            · refine z_iload_n dX7_tells_47 rfl rfl ?_
              refine z_iconst (v := nI 5) dX7_tells_48 rfl (by decide) ?_
              refine z_icmp_ne (tgt := 57) dX7_tells_49 rfl (by decide) (fun c49 => ?_) (fun c49 => ?_)
              · refine z_iload dX7_tells_57 rfl rfl ?_
                refine z_istore_9 dX7_tells_59 rfl ?_
                refine z_aload_n dX7_tells_61 rfl rfl ?_
                refine z_iload_n dX7_tells_62 rfl rfl ?_
                refine z_iload dX7_tells_63 rfl rfl ?_
                refine z_iload dX7_tells_65 rfl rfl ?_
                refine z_callSi (c_X7_placeIn_N G ex _ a d e (by omega) (by omega) (by omega)) gX7_tells_X7_placeIn rfl dX7_tells_67 rfl rfl okk_X7_placeIn ⟨Nat.le_of_ble_eq_true rfl, Nat.le_of_ble_eq_true rfl⟩ ⟨Nat.le_of_ble_eq_true rfl, Nat.le_of_ble_eq_true rfl⟩ (Nat.le_of_ble_eq_true rfl) ?_
                refine z_putN (e9 := (oMod G code (nI tps) (nI pts) (nI lns) (nI wds) (nI brs) (nI ors) stp hasP fld laid told (nI rws) cms (nI (plN a d e)) cmS isN (nI trs))) tyX7 tyX7_ok nmX7 dX7_tells_70 rfl hiX7_tells_X7 39 lkX7_tells_252 rfl (by decide +kernel) (Nat.le_of_ble_eq_true rfl) rfl rfl (by decide) (Nat.le_of_ble_eq_true rfl) rfl rfl rfl ?_
                refine z_n (L' := [(76, (oMod G code (nI tps) (nI pts) (nI lns) (nI wds) (nI brs) (nI ors) stp hasP fld laid told (nI rws) cms (nI (plN a d e)) cmS isN (nI trs)))]) rfl ?_
                refine z_aload_n dX7_tells_73 rfl rfl ?_
                refine z_iload_n dX7_tells_74 rfl rfl ?_
                refine z_iload_n dX7_tells_75 rfl rfl ?_
                refine z_iload dX7_tells_76 rfl rfl ?_
                refine z_iload dX7_tells_78 rfl rfl ?_
                refine z_callSi (c_X7_turnOf G ex _ (nI a) (nI d) (nI e)) gX7_tells_X7_turnOf rfl dX7_tells_80 rfl rfl okk_X7_turnOf ⟨Nat.le_of_ble_eq_true rfl, Nat.le_of_ble_eq_true rfl⟩ ⟨Nat.le_of_ble_eq_true rfl, Nat.le_of_ble_eq_true rfl⟩ (Nat.le_of_ble_eq_true rfl) ?_
                refine z_imul dX7_tells_83 rfl ?_
                refine z_putN (e9 := (oMod G code (nI tps) (nI pts) (nI lns) (nI wds) (nI brs) (nI ors) stp hasP fld laid told (nI rws) cms (nI (plN a d e)) (sn * (X7_turnOf_v (nI a) (nI d) (nI e))) isN (nI trs))) tyX7 tyX7_ok nmX7 dX7_tells_84 rfl hiX7_tells_X7 40 lkX7_tells_255 rfl (by decide +kernel) (Nat.le_of_ble_eq_true rfl) rfl rfl (by decide) (Nat.le_of_ble_eq_true rfl) rfl rfl rfl ?_
                refine z_n (L' := [(76, (oMod G code (nI tps) (nI pts) (nI lns) (nI wds) (nI brs) (nI ors) stp hasP fld laid told (nI rws) cms (nI (plN a d e)) (sn * (X7_turnOf_v (nI a) (nI d) (nI e))) isN (nI trs)))]) rfl ?_
                exact z_return dX7_tells_87 rfl (Nat.le_refl _) (Nat.le_refl _) (fun _ => rfl) ⟨rfl, by simp only [X7_tells_p76_14, X7_tells_p76_15, if_neg c1, if_neg c6, if_neg c11, if_pos c21, if_neg c49]⟩
              · refine z_iload dX7_tells_52 rfl rfl ?_
                refine z_goto (tgt := 59) dX7_tells_54 (by decide) ?_
                refine z_istore_9 dX7_tells_59 rfl ?_
                refine z_aload_n dX7_tells_61 rfl rfl ?_
                refine z_iload_n dX7_tells_62 rfl rfl ?_
                refine z_iload dX7_tells_63 rfl rfl ?_
                refine z_iload dX7_tells_65 rfl rfl ?_
                refine z_callSi (c_X7_placeIn_N G ex _ a d d (by omega) (by omega) (by omega)) gX7_tells_X7_placeIn rfl dX7_tells_67 rfl rfl okk_X7_placeIn ⟨Nat.le_of_ble_eq_true rfl, Nat.le_of_ble_eq_true rfl⟩ ⟨Nat.le_of_ble_eq_true rfl, Nat.le_of_ble_eq_true rfl⟩ (Nat.le_of_ble_eq_true rfl) ?_
                refine z_putN (e9 := (oMod G code (nI tps) (nI pts) (nI lns) (nI wds) (nI brs) (nI ors) stp hasP fld laid told (nI rws) cms (nI (plN a d d)) cmS isN (nI trs))) tyX7 tyX7_ok nmX7 dX7_tells_70 rfl hiX7_tells_X7 39 lkX7_tells_252 rfl (by decide +kernel) (Nat.le_of_ble_eq_true rfl) rfl rfl (by decide) (Nat.le_of_ble_eq_true rfl) rfl rfl rfl ?_
                refine z_n (L' := [(76, (oMod G code (nI tps) (nI pts) (nI lns) (nI wds) (nI brs) (nI ors) stp hasP fld laid told (nI rws) cms (nI (plN a d d)) cmS isN (nI trs)))]) rfl ?_
                refine z_aload_n dX7_tells_73 rfl rfl ?_
                refine z_iload_n dX7_tells_74 rfl rfl ?_
                refine z_iload_n dX7_tells_75 rfl rfl ?_
                refine z_iload dX7_tells_76 rfl rfl ?_
                refine z_iload dX7_tells_78 rfl rfl ?_
                refine z_callSi (c_X7_turnOf G ex _ (nI a) (nI d) (nI d)) gX7_tells_X7_turnOf rfl dX7_tells_80 rfl rfl okk_X7_turnOf ⟨Nat.le_of_ble_eq_true rfl, Nat.le_of_ble_eq_true rfl⟩ ⟨Nat.le_of_ble_eq_true rfl, Nat.le_of_ble_eq_true rfl⟩ (Nat.le_of_ble_eq_true rfl) ?_
                refine z_imul dX7_tells_83 rfl ?_
                refine z_putN (e9 := (oMod G code (nI tps) (nI pts) (nI lns) (nI wds) (nI brs) (nI ors) stp hasP fld laid told (nI rws) cms (nI (plN a d d)) (sn * (X7_turnOf_v (nI a) (nI d) (nI d))) isN (nI trs))) tyX7 tyX7_ok nmX7 dX7_tells_84 rfl hiX7_tells_X7 40 lkX7_tells_255 rfl (by decide +kernel) (Nat.le_of_ble_eq_true rfl) rfl rfl (by decide) (Nat.le_of_ble_eq_true rfl) rfl rfl rfl ?_
                refine z_n (L' := [(76, (oMod G code (nI tps) (nI pts) (nI lns) (nI wds) (nI brs) (nI ors) stp hasP fld laid told (nI rws) cms (nI (plN a d d)) (sn * (X7_turnOf_v (nI a) (nI d) (nI d))) isN (nI trs)))]) rfl ?_
                exact z_return dX7_tells_87 rfl (Nat.le_refl _) (Nat.le_refl _) (fun _ => rfl) ⟨rfl, by simp only [X7_tells_p76_14, X7_tells_p76_15, if_neg c1, if_neg c6, if_neg c11, if_pos c21, if_pos c49]⟩
          · exact absurd c34 c1
      · refine z_iload dX7_tells_14 rfl rfl ?_
        refine z_goto (tgt := 31) dX7_tells_16 (by decide) ?_
        refine z_istore_8 dX7_tells_31 rfl ?_
        refine z_iload_n dX7_tells_33 rfl rfl ?_
        refine z_if_ne (tgt := 42) dX7_tells_34 rfl (by decide) (fun c34 => ?_) (fun c34 => ?_)
        · refine z_iload_n dX7_tells_42 rfl rfl ?_
          refine z_iconst (v := nI 2) dX7_tells_43 rfl (by decide) ?_
          refine z_icmp_eq (tgt := 52) dX7_tells_44 rfl (by decide) (fun c44 => ?_) (fun c44 => ?_)
          · exact absurd c44 c6
          · refine z_iload_n dX7_tells_47 rfl rfl ?_
            refine z_iconst (v := nI 5) dX7_tells_48 rfl (by decide) ?_
            refine z_icmp_ne (tgt := 57) dX7_tells_49 rfl (by decide) (fun c49 => ?_) (fun c49 => ?_)
            · refine z_iload dX7_tells_57 rfl rfl ?_
              refine z_istore_9 dX7_tells_59 rfl ?_
              refine z_aload_n dX7_tells_61 rfl rfl ?_
              refine z_iload_n dX7_tells_62 rfl rfl ?_
              refine z_iload dX7_tells_63 rfl rfl ?_
              refine z_iload dX7_tells_65 rfl rfl ?_
              refine z_callSi (c_X7_placeIn_N G ex _ a b e (by omega) (by omega) (by omega)) gX7_tells_X7_placeIn rfl dX7_tells_67 rfl rfl okk_X7_placeIn ⟨Nat.le_of_ble_eq_true rfl, Nat.le_of_ble_eq_true rfl⟩ ⟨Nat.le_of_ble_eq_true rfl, Nat.le_of_ble_eq_true rfl⟩ (Nat.le_of_ble_eq_true rfl) ?_
              refine z_putN (e9 := (oMod G code (nI tps) (nI pts) (nI lns) (nI wds) (nI brs) (nI ors) stp hasP fld laid told (nI rws) cms (nI (plN a b e)) cmS isN (nI trs))) tyX7 tyX7_ok nmX7 dX7_tells_70 rfl hiX7_tells_X7 39 lkX7_tells_252 rfl (by decide +kernel) (Nat.le_of_ble_eq_true rfl) rfl rfl (by decide) (Nat.le_of_ble_eq_true rfl) rfl rfl rfl ?_
              refine z_n (L' := [(76, (oMod G code (nI tps) (nI pts) (nI lns) (nI wds) (nI brs) (nI ors) stp hasP fld laid told (nI rws) cms (nI (plN a b e)) cmS isN (nI trs)))]) rfl ?_
              refine z_aload_n dX7_tells_73 rfl rfl ?_
              refine z_iload_n dX7_tells_74 rfl rfl ?_
              refine z_iload_n dX7_tells_75 rfl rfl ?_
              refine z_iload dX7_tells_76 rfl rfl ?_
              refine z_iload dX7_tells_78 rfl rfl ?_
              refine z_callSi (c_X7_turnOf G ex _ (nI a) (nI b) (nI e)) gX7_tells_X7_turnOf rfl dX7_tells_80 rfl rfl okk_X7_turnOf ⟨Nat.le_of_ble_eq_true rfl, Nat.le_of_ble_eq_true rfl⟩ ⟨Nat.le_of_ble_eq_true rfl, Nat.le_of_ble_eq_true rfl⟩ (Nat.le_of_ble_eq_true rfl) ?_
              refine z_imul dX7_tells_83 rfl ?_
              refine z_putN (e9 := (oMod G code (nI tps) (nI pts) (nI lns) (nI wds) (nI brs) (nI ors) stp hasP fld laid told (nI rws) cms (nI (plN a b e)) (sn * (X7_turnOf_v (nI a) (nI b) (nI e))) isN (nI trs))) tyX7 tyX7_ok nmX7 dX7_tells_84 rfl hiX7_tells_X7 40 lkX7_tells_255 rfl (by decide +kernel) (Nat.le_of_ble_eq_true rfl) rfl rfl (by decide) (Nat.le_of_ble_eq_true rfl) rfl rfl rfl ?_
              refine z_n (L' := [(76, (oMod G code (nI tps) (nI pts) (nI lns) (nI wds) (nI brs) (nI ors) stp hasP fld laid told (nI rws) cms (nI (plN a b e)) (sn * (X7_turnOf_v (nI a) (nI b) (nI e))) isN (nI trs)))]) rfl ?_
              exact z_return dX7_tells_87 rfl (Nat.le_refl _) (Nat.le_refl _) (fun _ => rfl) ⟨rfl, by simp only [X7_tells_p76_14, X7_tells_p76_15, if_neg c1, if_neg c6, if_pos c11, if_neg c49]⟩
            · refine z_iload dX7_tells_52 rfl rfl ?_
              refine z_goto (tgt := 59) dX7_tells_54 (by decide) ?_
              refine z_istore_9 dX7_tells_59 rfl ?_
              refine z_aload_n dX7_tells_61 rfl rfl ?_
              refine z_iload_n dX7_tells_62 rfl rfl ?_
              refine z_iload dX7_tells_63 rfl rfl ?_
              refine z_iload dX7_tells_65 rfl rfl ?_
              refine z_callSi (c_X7_placeIn_N G ex _ a b d (by omega) (by omega) (by omega)) gX7_tells_X7_placeIn rfl dX7_tells_67 rfl rfl okk_X7_placeIn ⟨Nat.le_of_ble_eq_true rfl, Nat.le_of_ble_eq_true rfl⟩ ⟨Nat.le_of_ble_eq_true rfl, Nat.le_of_ble_eq_true rfl⟩ (Nat.le_of_ble_eq_true rfl) ?_
              refine z_putN (e9 := (oMod G code (nI tps) (nI pts) (nI lns) (nI wds) (nI brs) (nI ors) stp hasP fld laid told (nI rws) cms (nI (plN a b d)) cmS isN (nI trs))) tyX7 tyX7_ok nmX7 dX7_tells_70 rfl hiX7_tells_X7 39 lkX7_tells_252 rfl (by decide +kernel) (Nat.le_of_ble_eq_true rfl) rfl rfl (by decide) (Nat.le_of_ble_eq_true rfl) rfl rfl rfl ?_
              refine z_n (L' := [(76, (oMod G code (nI tps) (nI pts) (nI lns) (nI wds) (nI brs) (nI ors) stp hasP fld laid told (nI rws) cms (nI (plN a b d)) cmS isN (nI trs)))]) rfl ?_
              refine z_aload_n dX7_tells_73 rfl rfl ?_
              refine z_iload_n dX7_tells_74 rfl rfl ?_
              refine z_iload_n dX7_tells_75 rfl rfl ?_
              refine z_iload dX7_tells_76 rfl rfl ?_
              refine z_iload dX7_tells_78 rfl rfl ?_
              refine z_callSi (c_X7_turnOf G ex _ (nI a) (nI b) (nI d)) gX7_tells_X7_turnOf rfl dX7_tells_80 rfl rfl okk_X7_turnOf ⟨Nat.le_of_ble_eq_true rfl, Nat.le_of_ble_eq_true rfl⟩ ⟨Nat.le_of_ble_eq_true rfl, Nat.le_of_ble_eq_true rfl⟩ (Nat.le_of_ble_eq_true rfl) ?_
              refine z_imul dX7_tells_83 rfl ?_
              refine z_putN (e9 := (oMod G code (nI tps) (nI pts) (nI lns) (nI wds) (nI brs) (nI ors) stp hasP fld laid told (nI rws) cms (nI (plN a b d)) (sn * (X7_turnOf_v (nI a) (nI b) (nI d))) isN (nI trs))) tyX7 tyX7_ok nmX7 dX7_tells_84 rfl hiX7_tells_X7 40 lkX7_tells_255 rfl (by decide +kernel) (Nat.le_of_ble_eq_true rfl) rfl rfl (by decide) (Nat.le_of_ble_eq_true rfl) rfl rfl rfl ?_
              refine z_n (L' := [(76, (oMod G code (nI tps) (nI pts) (nI lns) (nI wds) (nI brs) (nI ors) stp hasP fld laid told (nI rws) cms (nI (plN a b d)) (sn * (X7_turnOf_v (nI a) (nI b) (nI d))) isN (nI trs)))]) rfl ?_
              exact z_return dX7_tells_87 rfl (Nat.le_refl _) (Nat.le_refl _) (fun _ => rfl) ⟨rfl, by simp only [X7_tells_p76_14, X7_tells_p76_15, if_neg c1, if_neg c6, if_pos c11, if_pos c49]⟩
        · exact absurd c34 c1
abbrev mX7_maskAt : zM := (cX7_maskAt, 1, (some .int), RX7, wsX7_maskAt, "maskAt")
def X7_maskAt_v (t : Int32) : Int32 := X7_maskOf_v (t / (nI 100)) ((t / (nI 10)) - (t / (nI 10)) / (nI 10) * (nI 10)) (t - t / (nI 10) * (nI 10))
set_option maxRecDepth 100000 in
set_option maxHeartbeats 4000000 in
theorem c_X7_maskAt (G : zG) (ex : Bool) (g : Nat → va_E) (t : Int32)   : zC G yX7_maskAt wsX7_maskAt (zrm 1 22) ex [.int t] (zN, g) (fun r h => r = some (.int (X7_maskAt_v t)) ∧ h = (zN, g)) := by
  refine zC_of mX7_maskAt (lv := [some (.int t)]) rfl rfl (by decide) (by intro v hv; simp at hv; subst hv; rfl) (Nat.le_of_ble_eq_true rfl) rfl ?_
  refine z_0 ?_
  refine z_iload_n dX7_maskAt_0 rfl rfl ?_
  refine z_bipush (v := nI 100) dX7_maskAt_1 rfl (by decide) ?_
  refine z_idiv dX7_maskAt_3 rfl (by decide) ?_
  refine z_iload_n dX7_maskAt_4 rfl rfl ?_
  refine z_bipush (v := nI 10) dX7_maskAt_5 rfl (by decide) ?_
  refine z_idiv dX7_maskAt_7 rfl (by decide) ?_
  refine z_bipush (v := nI 10) dX7_maskAt_8 rfl (by decide) ?_
  refine z_irem dX7_maskAt_10 rfl (by decide) ?_
  refine z_iload_n dX7_maskAt_11 rfl rfl ?_
  refine z_bipush (v := nI 10) dX7_maskAt_12 rfl (by decide) ?_
  refine z_irem dX7_maskAt_14 rfl (by decide) ?_
  refine z_callSi (c_X7_maskOf G ex _ (t / (nI 100)) ((t / (nI 10)) - (t / (nI 10)) / (nI 10) * (nI 10)) (t - t / (nI 10) * (nI 10))) gX7_maskAt_X7_maskOf rfl dX7_maskAt_15 rfl rfl okk_X7_maskOf ⟨Nat.le_of_ble_eq_true rfl, Nat.le_of_ble_eq_true rfl⟩ ⟨Nat.le_of_ble_eq_true rfl, Nat.le_of_ble_eq_true rfl⟩ (Nat.le_of_ble_eq_true rfl) ?_
  exact z_ireturn dX7_maskAt_18 rfl rfl (Nat.le_refl _) (Nat.le_refl _) (fun _ => rfl) ⟨by simp only [X7_maskAt_v], rfl⟩
abbrev mX7_kindThen : zM := (cX7_kindThen, 1, (some .int), RX7, wsX7_kindThen, "kindThen")
theorem hiX7_kindThen_X7 : ∀ w ∈ wsX70, w ∈ wsX7_kindThen := fun w h => List.mem_cons_of_mem _ (List.mem_append_right _ h)
theorem lkX7_kindThen_238 : Cond.fieldLink RX7 238 "ConfigSearchModel" "comes" "I" ∈ wsX7_kindThen := by decide +kernel
theorem lkX7_kindThen_255 : Cond.fieldLink RX7 255 "ConfigSearchModel" "comesSign" "I" ∈ wsX7_kindThen := by decide +kernel
theorem lkX7_kindThen_252 : Cond.fieldLink RX7 252 "ConfigSearchModel" "comesTriple" "I" ∈ wsX7_kindThen := by decide +kernel
theorem okk_X7_maskAt : zOk yX7_maskAt 1 := by unfold zOk; decide +kernel
def X7_kindThen_n (brs : Nat) (cms : Int32) (cmT : Nat) (cmS : Int32) (bm : Nat → Int32) : Nat := if cms = (nI 1) then 1 else (if cmS = 0 then (if (X7_barAt_v brs bm (X7_maskAt_v (nI cmT))) = (-4) then 0 else 2) else 0)
set_option maxRecDepth 100000 in
set_option maxHeartbeats 4000000 in
theorem c_X7_kindThen (G : zG) (ex : Bool) (g : Nat → va_E) (code : Int32) (tps pts lns wds brs ors : Nat) (stp hasP fld laid told : Int32) (rws : Nat) (cms : Int32) (cmT : Nat) (cmS isN : Int32) (trs : Nat) (bm : Nat → Int32) (hb : brs ≤ 20) (h76 : g 76 = (oMod G code (nI tps) (nI pts) (nI lns) (nI wds) (nI brs) (nI ors) stp hasP fld laid told (nI rws) cms (nI cmT) cmS isN (nI trs))) (h86 : g 86 = (zI G 20 bm)) : zC G yX7_kindThen wsX7_kindThen (zrm 2 42) ex [.ref (zB G + 76)] (zN, g) (fun r h => r = some (.int (nI (X7_kindThen_n brs cms cmT cmS bm))) ∧ h = (zN, g)) := by
  refine zC_of mX7_kindThen (lv := [some (.ref (zB G + 76))]) rfl rfl (by decide) (by intro v hv; simp at hv; subst hv; rfl) (Nat.le_of_ble_eq_true rfl) rfl ?_
  refine z_0 ?_
  refine z_aload_n dX7_kindThen_0 rfl rfl ?_
  refine z_get dX7_kindThen_1 rfl hiX7_kindThen_X7 38 lkX7_kindThen_238 (Nat.le_of_ble_eq_true rfl) h76 rfl (by decide) rfl ?_
  refine z_iconst (v := nI 1) dX7_kindThen_4 rfl (by decide) ?_
  refine z_icmp_ne (tgt := 12) dX7_kindThen_5 rfl (by decide) (fun c5 => ?_) (fun c5 => ?_)
  · refine z_aload_n dX7_kindThen_12 rfl rfl ?_
    refine z_get dX7_kindThen_13 rfl hiX7_kindThen_X7 40 lkX7_kindThen_255 (Nat.le_of_ble_eq_true rfl) h76 rfl (by decide) rfl ?_
    refine z_if_ne (tgt := 39) dX7_kindThen_16 rfl (by decide) (fun c16 => ?_) (fun c16 => ?_)
    · refine z_iconst (v := nI 0) dX7_kindThen_39 rfl (by decide) ?_
      exact z_ireturn dX7_kindThen_40 rfl rfl (Nat.le_refl _) (Nat.le_refl _) (fun _ => rfl) ⟨by simp only [X7_kindThen_n, if_neg c5, if_neg c16], rfl⟩
    · refine z_aload_n dX7_kindThen_19 rfl rfl ?_
      refine z_aload_n dX7_kindThen_20 rfl rfl ?_
      refine z_get dX7_kindThen_21 rfl hiX7_kindThen_X7 39 lkX7_kindThen_252 (Nat.le_of_ble_eq_true rfl) h76 rfl (by decide) rfl ?_
      refine z_callSi (c_X7_maskAt G ex _ (nI cmT)) gX7_kindThen_X7_maskAt rfl dX7_kindThen_24 rfl rfl okk_X7_maskAt ⟨Nat.le_of_ble_eq_true rfl, Nat.le_of_ble_eq_true rfl⟩ ⟨Nat.le_of_ble_eq_true rfl, Nat.le_of_ble_eq_true rfl⟩ (Nat.le_of_ble_eq_true rfl) ?_
      refine z_callVi (c_X7_barAt G ex _ code tps pts lns wds brs ors stp hasP fld laid told rws cms cmT cmS isN trs bm (X7_maskAt_v (nI cmT)) (by omega) h76 h86) gX7_kindThen_X7_barAt rfl dX7_kindThen_27 rfl rfl rfl okk_X7_barAt (Nat.le_of_ble_eq_true rfl) h76 rfl ⟨Nat.le_of_ble_eq_true rfl, Nat.le_of_ble_eq_true rfl⟩ ⟨Nat.le_of_ble_eq_true rfl, Nat.le_of_ble_eq_true rfl⟩ (Nat.le_of_ble_eq_true rfl) ?_
      refine z_bipush (v := (-4)) dX7_kindThen_30 rfl (by decide) ?_
      refine z_icmp_eq (tgt := 39) dX7_kindThen_32 rfl (by decide) (fun c32 => ?_) (fun c32 => ?_)
      · refine z_iconst (v := nI 0) dX7_kindThen_39 rfl (by decide) ?_
        exact z_ireturn dX7_kindThen_40 rfl rfl (Nat.le_refl _) (Nat.le_refl _) (fun _ => rfl) ⟨by simp only [X7_kindThen_n, if_neg c5, if_pos c16, if_pos c32], rfl⟩
      · refine z_iconst (v := nI 2) dX7_kindThen_35 rfl (by decide) ?_
        refine z_goto (tgt := 40) dX7_kindThen_36 (by decide) ?_
        exact z_ireturn dX7_kindThen_40 rfl rfl (Nat.le_refl _) (Nat.le_refl _) (fun _ => rfl) ⟨by simp only [X7_kindThen_n, if_neg c5, if_pos c16, if_neg c32], rfl⟩
  · refine z_iconst (v := nI 1) dX7_kindThen_8 rfl (by decide) ?_
    refine z_goto (tgt := 40) dX7_kindThen_9 (by decide) ?_
    exact z_ireturn dX7_kindThen_40 rfl rfl (Nat.le_refl _) (Nat.le_refl _) (fun _ => rfl) ⟨by simp only [X7_kindThen_n, if_pos c5], rfl⟩
abbrev mX7_layTable : zM := (cX7_layTable, 7, none, RX7, wsX7_layTable, "layTable")
theorem hiX7_layTable_X7 : ∀ w ∈ wsX70, w ∈ wsX7_layTable := fun w h => List.mem_cons_of_mem _ (List.mem_append_right _ h)
theorem lkX7_layTable_143 : Cond.fieldLink RX7 143 "ConfigSearchModel" "points" "I" ∈ wsX7_layTable := by decide +kernel
theorem lkX7_layTable_71 : Cond.fieldLink RX7 71 "ConfigSearchModel" "signs" "[I" ∈ wsX7_layTable := by decide +kernel
theorem lkX7_layTable_43 : Cond.fieldLink RX7 43 "ConfigSearchModel" "orientSign" "[I" ∈ wsX7_layTable := by decide +kernel
theorem okk_X7_layRow : zOk yX7_layRow 1 := by unfold zOk; decide +kernel
def X7_layTable_L27_F (lns : Nat) (ors : Nat) (lm : Nat → Int32) (om : Nat → Int32) (os : Nat → Int32) (a : Nat) (b : Nat) (c : Nat) (a9 : (Nat → Int32)) : (Nat → Int32) := if (X7_isFlat_v lns lm (X7_maskOf_v (nI a) (nI b) (nI c))) = 0 then (if (X7_orientAt_v ors om (X7_maskOf_v (nI a) (nI b) (nI c))) = (-4) then (upd a9 (((100 * a) + (10 * b)) + c) (nI 9)) else (upd a9 (((100 * a) + (10 * b)) + c) (os (X7_orientAt_v ors om (X7_maskOf_v (nI a) (nI b) (nI c))).toNatClampNeg))) else (upd a9 (((100 * a) + (10 * b)) + c) (nI 0))
def X7_layTable_L14_F (pts : Nat) (lns : Nat) (ors : Nat) (lm : Nat → Int32) (om : Nat → Int32) (os : Nat → Int32) (a : Nat) (b : Nat) (a9 : (Nat → Int32)) : (Nat → Int32) := (zfold (X7_layTable_L27_F lns ors lm om os a b) (pts - (b + 1)) (b + 1) a9)
def X7_layTable_L2_F (pts : Nat) (lns : Nat) (ors : Nat) (lm : Nat → Int32) (om : Nat → Int32) (os : Nat → Int32) (a : Nat) (a9 : (Nat → Int32)) : (Nat → Int32) := (zfold (X7_layTable_L14_F pts lns ors lm om os a) (pts - (a + 1)) (a + 1) a9)
def X7_layTable_L122_F (rk : Nat → Int32) (rt : Nat → Int32) (rs : Nat → Int32) (k : Nat) (a9 : (Nat → Int32)) : (Nat → Int32) := X7_layRow_c96 a9 rk rt rs k
def X7_layTable_c96 (pts lns ors : Nat) (lm om os sg rk rt rs : Nat → Int32) (by9 : Nat) : Nat → Int32 := (zfold (X7_layTable_L122_F rk rt rs) by9 0 (zfold (X7_layTable_L2_F pts lns ors lm om os) pts 0 sg))
set_option maxRecDepth 100000 in
set_option maxHeartbeats 4000000 in
theorem c_X7_layTable (G : zG) (ex : Bool) (g : Nat → va_E) (code : Int32) (tps pts lns wds brs ors : Nat) (stp hasP fld laid told : Int32) (rws : Nat) (cms : Int32) (cmT : Nat) (cmS isN : Int32) (trs : Nat) (lm om os sg rk rt rs : Nat → Int32) (by9 : Nat) (hl : lns ≤ 12) (ho : ors ≤ 20) (hp : pts ≤ 10) (hby : by9 ≤ 60) (h4 : ∀ k, k < by9 → ¬ rk k = nI 1 → vp_in (rt k) 1000) (h76 : g 76 = (oMod G code (nI tps) (nI pts) (nI lns) (nI wds) (nI brs) (nI ors) stp hasP fld laid told (nI rws) cms (nI cmT) cmS isN (nI trs))) (h82 : g 82 = (zI G 12 lm)) (h87 : g 87 = (zI G 20 om)) (h88 : g 88 = (zI G 20 os)) (h96 : g 96 = (zI G 1000 sg)) (h97 : g 97 = (zI G 60 rk)) (h99 : g 99 = (zI G 60 rt)) (h100 : g 100 = (zI G 60 rs)) : zC G yX7_layTable wsX7_layTable (zrm 1 23) ex [.ref (zB G + 76), .int (nI by9)] (zN, g) (fun r h => r = none ∧ h = (zN, zus g [(96, zI G 1000 (X7_layTable_c96 pts lns ors lm om os sg rk rt rs by9))])) := by
  refine zC_of mX7_layTable (lv := [some (.ref (zB G + 76)), some (.int (nI by9)), none, none, none, none, none]) rfl rfl (by decide) (by intro v hv; simp at hv; rcases hv with rfl | rfl <;> rfl) (Nat.le_of_ble_eq_true rfl) rfl ?_
  refine z_0 ?_
  refine z_heap (g' := zu (zus g []) 96 (zI G 1000 sg)) (zu_self (zus g []) 96 _ h96).symm ?_
  refine z_n (L' := [(96, (zI G 1000 sg))]) rfl ?_
  refine z_iconst (v := nI 0) dX7_layTable_0 rfl (by decide) ?_
  refine z_istore_2 dX7_layTable_1 rfl ?_
  refine z_forI (head := fun a (st9 : (Nat → Int32)) => ∀ y3 y4 y5 y6 : Option Value, Z G mX7_layTable (zrm 1 23) ex _ 2 [some (.ref (zB G + 76)), some (.int (nI by9)), some (.int (nI a)), y3, y4, y5, y6] [] (zN, zus g [(96, (zI G 1000 st9))]) 0 0) (F := (X7_layTable_L2_F pts lns ors lm om os)) (n := pts) (fun _ _ => True) (fun _ _ _ _ => trivial) ?_ pts 0 sg (by omega) trivial ?_ _ _ _ _
  · intro a sg1 hi _ K
    intro y3 y4 y5 y6
    have ha : a < pts := hi
    refine z_iload_n dX7_layTable_2 rfl rfl ?_
    refine z_aload_n dX7_layTable_3 rfl rfl ?_
    refine z_get dX7_layTable_4 rfl hiX7_layTable_X7 3 lkX7_layTable_143 (Nat.le_of_ble_eq_true rfl) h76 rfl (by decide) rfl ?_
    refine z_icmp_ge (tgt := 120) dX7_layTable_7 rfl (by decide) (fun c7 => ?_) (fun c7 => ?_)
    · exact absurd c7 (nI_ge hi (by omega))
    · refine z_iload_n dX7_layTable_10 rfl rfl ?_
      refine z_iconst (v := nI 1) dX7_layTable_11 rfl (by decide) ?_
      refine z_iadd dX7_layTable_12 rfl ?_
      refine z_top (show (nI a) + (nI 1) = nI (a + 1) from (zq_add rfl rfl)) ?_
      refine z_istore_3 dX7_layTable_13 rfl ?_
      refine z_forI (head := fun b (st9 : (Nat → Int32)) => ∀ y4 y5 y6 : Option Value, Z G mX7_layTable (zrm 1 23) ex _ 14 [some (.ref (zB G + 76)), some (.int (nI by9)), some (.int (nI a)), some (.int (nI b)), y4, y5, y6] [] (zN, zus g [(96, (zI G 1000 st9))]) 0 0) (F := (X7_layTable_L14_F pts lns ors lm om os a)) (n := pts) (fun _ _ => True) (fun _ _ _ _ => trivial) ?_ (pts - (a + 1)) (a + 1) sg1 (by omega) trivial ?_ _ _ _
      · intro b sg2 hi _ K
        intro y4 y5 y6
        have hb9 : b < pts := hi
        refine z_iload_n dX7_layTable_14 rfl rfl ?_
        refine z_aload_n dX7_layTable_15 rfl rfl ?_
        refine z_get dX7_layTable_16 rfl hiX7_layTable_X7 3 lkX7_layTable_143 (Nat.le_of_ble_eq_true rfl) h76 rfl (by decide) rfl ?_
        refine z_icmp_ge (tgt := 114) dX7_layTable_19 rfl (by decide) (fun c19 => ?_) (fun c19 => ?_)
        · exact absurd c19 (nI_ge hi (by omega))
        · refine z_iload_n dX7_layTable_22 rfl rfl ?_
          refine z_iconst (v := nI 1) dX7_layTable_23 rfl (by decide) ?_
          refine z_iadd dX7_layTable_24 rfl ?_
          refine z_top (show (nI b) + (nI 1) = nI (b + 1) from (zq_add rfl rfl)) ?_
          refine z_istore_4 dX7_layTable_25 rfl ?_
          refine z_forI (head := fun c (st9 : (Nat → Int32)) => ∀ y5 y6 : Option Value, Z G mX7_layTable (zrm 1 23) ex _ 27 [some (.ref (zB G + 76)), some (.int (nI by9)), some (.int (nI a)), some (.int (nI b)), some (.int (nI c)), y5, y6] [] (zN, zus g [(96, (zI G 1000 st9))]) 0 0) (F := (X7_layTable_L27_F lns ors lm om os a b)) (n := pts) (fun _ _ => True) (fun _ _ _ _ => trivial) ?_ (pts - (b + 1)) (b + 1) sg2 (by omega) trivial ?_ _ _
          · intro c sg3 hi _ K
            intro y5 y6
            have hc : c < pts := hi
            refine z_iload dX7_layTable_27 rfl rfl ?_
            refine z_aload_n dX7_layTable_29 rfl rfl ?_
            refine z_get dX7_layTable_30 rfl hiX7_layTable_X7 3 lkX7_layTable_143 (Nat.le_of_ble_eq_true rfl) h76 rfl (by decide) rfl ?_
            refine z_icmp_ge (tgt := 108) dX7_layTable_33 rfl (by decide) (fun c33 => ?_) (fun c33 => ?_)
            · exact absurd c33 (nI_ge hi (by omega))
            · refine z_iload_n dX7_layTable_36 rfl rfl ?_
              refine z_iload_n dX7_layTable_37 rfl rfl ?_
              refine z_iload dX7_layTable_38 rfl rfl ?_
              refine z_callSi (c_X7_maskOf G ex _ (nI a) (nI b) (nI c)) gX7_layTable_X7_maskOf rfl dX7_layTable_40 rfl rfl okk_X7_maskOf ⟨Nat.le_of_ble_eq_true rfl, Nat.le_of_ble_eq_true rfl⟩ ⟨Nat.le_of_ble_eq_true rfl, Nat.le_of_ble_eq_true rfl⟩ (Nat.le_of_ble_eq_true rfl) ?_
              refine z_istore_5 dX7_layTable_43 rfl ?_
              refine z_aload_n dX7_layTable_45 rfl rfl ?_
              refine z_iload dX7_layTable_46 rfl rfl ?_
              refine z_callVi (c_X7_orientAt G ex _ code tps pts lns wds brs ors stp hasP fld laid told rws cms cmT cmS isN trs om (X7_maskOf_v (nI a) (nI b) (nI c)) (by omega) h76 h87) gX7_layTable_X7_orientAt rfl dX7_layTable_48 rfl rfl rfl okk_X7_orientAt (Nat.le_of_ble_eq_true rfl) h76 rfl ⟨Nat.le_of_ble_eq_true rfl, Nat.le_of_ble_eq_true rfl⟩ ⟨Nat.le_of_ble_eq_true rfl, Nat.le_of_ble_eq_true rfl⟩ (Nat.le_of_ble_eq_true rfl) ?_
              refine z_istore_6 dX7_layTable_51 rfl ?_
              refine z_aload_n dX7_layTable_53 rfl rfl ?_
              refine z_get dX7_layTable_54 rfl hiX7_layTable_X7 30 lkX7_layTable_71 (Nat.le_of_ble_eq_true rfl) h76 rfl (by decide) rfl ?_
              refine z_bipush (v := nI 100) dX7_layTable_57 rfl (by decide) ?_
              refine z_iload_n dX7_layTable_59 rfl rfl ?_
              refine z_imul dX7_layTable_60 rfl ?_
              refine z_bipush (v := nI 10) dX7_layTable_61 rfl (by decide) ?_
              refine z_iload_n dX7_layTable_63 rfl rfl ?_
              refine z_imul dX7_layTable_64 rfl ?_
              refine z_iadd dX7_layTable_65 rfl ?_
              refine z_iload dX7_layTable_66 rfl rfl ?_
              refine z_iadd dX7_layTable_68 rfl ?_
              refine z_aload_n dX7_layTable_69 rfl rfl ?_
              refine z_iload dX7_layTable_70 rfl rfl ?_
              refine z_callVi (c_X7_isFlat G ex _ code tps pts lns wds brs ors stp hasP fld laid told rws cms cmT cmS isN trs lm (X7_maskOf_v (nI a) (nI b) (nI c)) (by omega) h76 h82) gX7_layTable_X7_isFlat rfl dX7_layTable_72 rfl rfl rfl okk_X7_isFlat (Nat.le_of_ble_eq_true rfl) h76 rfl ⟨Nat.le_of_ble_eq_true rfl, Nat.le_of_ble_eq_true rfl⟩ ⟨Nat.le_of_ble_eq_true rfl, Nat.le_of_ble_eq_true rfl⟩ (Nat.le_of_ble_eq_true rfl) ?_
              refine z_if_eq (tgt := 82) dX7_layTable_75 rfl (by decide) (fun c75 => ?_) (fun c75 => ?_)
              · refine z_iload dX7_layTable_82 rfl rfl ?_
                refine z_bipush (v := (-4)) dX7_layTable_84 rfl (by decide) ?_
                refine z_icmp_eq (tgt := 99) dX7_layTable_86 rfl (by decide) (fun c86 => ?_) (fun c86 => ?_)
                · refine z_bipush (v := nI 9) dX7_layTable_99 rfl (by decide) ?_
                  refine z_iastN (j := ((100 * a) + (10 * b)) + c) dX7_layTable_101 rfl (Nat.le_of_ble_eq_true rfl) rfl ((zq_add (zq_add (zq_mul rfl rfl) (zq_mul rfl rfl)) rfl)) (by omega) (by decide) ?_
                  refine z_n (L' := [(96, (zI G 1000 (upd sg3 (((100 * a) + (10 * b)) + c) (nI 9))))]) rfl ?_
                  refine z_iinc_4 (v := nI (c + 1)) dX7_layTable_102 rfl (zinc _) ?_
                  refine z_goto (tgt := 27) dX7_layTable_105 (by decide) ?_
                  have K9 := K
                  try simp only [X7_layTable_L27_F, if_pos c75, if_pos c86] at K9
                  exact K9 _ _
                · refine z_aload_n dX7_layTable_89 rfl rfl ?_
                  refine z_get dX7_layTable_90 rfl hiX7_layTable_X7 18 lkX7_layTable_43 (Nat.le_of_ble_eq_true rfl) h76 rfl (by decide) rfl ?_
                  refine z_iload dX7_layTable_93 rfl rfl ?_
                  refine z_iald dX7_layTable_95 rfl (Nat.le_of_ble_eq_true rfl) h88 (vp_in_mono ((orientAt_in ho).resolve_left (by assumption)) ho) ?_
                  refine z_goto (tgt := 101) dX7_layTable_96 (by decide) ?_
                  refine z_iastN (j := ((100 * a) + (10 * b)) + c) dX7_layTable_101 rfl (Nat.le_of_ble_eq_true rfl) rfl ((zq_add (zq_add (zq_mul rfl rfl) (zq_mul rfl rfl)) rfl)) (by omega) (by decide) ?_
                  refine z_n (L' := [(96, (zI G 1000 (upd sg3 (((100 * a) + (10 * b)) + c) (os (X7_orientAt_v ors om (X7_maskOf_v (nI a) (nI b) (nI c))).toNatClampNeg))))]) rfl ?_
                  refine z_iinc_4 (v := nI (c + 1)) dX7_layTable_102 rfl (zinc _) ?_
                  refine z_goto (tgt := 27) dX7_layTable_105 (by decide) ?_
                  have K9 := K
                  try simp only [X7_layTable_L27_F, if_pos c75, if_neg c86] at K9
                  exact K9 _ _
              · refine z_iconst (v := nI 0) dX7_layTable_78 rfl (by decide) ?_
                refine z_goto (tgt := 101) dX7_layTable_79 (by decide) ?_
                refine z_iastN (j := ((100 * a) + (10 * b)) + c) dX7_layTable_101 rfl (Nat.le_of_ble_eq_true rfl) rfl ((zq_add (zq_add (zq_mul rfl rfl) (zq_mul rfl rfl)) rfl)) (by omega) (by decide) ?_
                refine z_n (L' := [(96, (zI G 1000 (upd sg3 (((100 * a) + (10 * b)) + c) (nI 0))))]) rfl ?_
                refine z_iinc_4 (v := nI (c + 1)) dX7_layTable_102 rfl (zinc _) ?_
                refine z_goto (tgt := 27) dX7_layTable_105 (by decide) ?_
                have K9 := K
                try simp only [X7_layTable_L27_F, if_neg c75] at K9
                exact K9 _ _
          · intro _ y5 y6
            refine z_iload dX7_layTable_27 rfl rfl ?_
            refine z_aload_n dX7_layTable_29 rfl rfl ?_
            refine z_get dX7_layTable_30 rfl hiX7_layTable_X7 3 lkX7_layTable_143 (Nat.le_of_ble_eq_true rfl) h76 rfl (by decide) rfl ?_
            refine z_icmp_ge (tgt := 108) dX7_layTable_33 rfl (by decide) (fun c33 => ?_) (fun c33 => ?_)
            · refine z_iinc_3 (v := nI (b + 1)) dX7_layTable_108 rfl (zinc _) ?_
              refine z_goto (tgt := 14) dX7_layTable_111 (by decide) ?_
              exact K _ _ _
            · exact absurd (nI_le (Nat.le_refl _) (by omega)) c33
      · intro _ y4 y5 y6
        refine z_iload_n dX7_layTable_14 rfl rfl ?_
        refine z_aload_n dX7_layTable_15 rfl rfl ?_
        refine z_get dX7_layTable_16 rfl hiX7_layTable_X7 3 lkX7_layTable_143 (Nat.le_of_ble_eq_true rfl) h76 rfl (by decide) rfl ?_
        refine z_icmp_ge (tgt := 114) dX7_layTable_19 rfl (by decide) (fun c19 => ?_) (fun c19 => ?_)
        · refine z_iinc_2 (v := nI (a + 1)) dX7_layTable_114 rfl (zinc _) ?_
          refine z_goto (tgt := 2) dX7_layTable_117 (by decide) ?_
          exact K _ _ _ _
        · exact absurd (nI_le (Nat.le_refl _) (by omega)) c19
  · intro _ y3 y4 y5 y6
    refine z_iload_n dX7_layTable_2 rfl rfl ?_
    refine z_aload_n dX7_layTable_3 rfl rfl ?_
    refine z_get dX7_layTable_4 rfl hiX7_layTable_X7 3 lkX7_layTable_143 (Nat.le_of_ble_eq_true rfl) h76 rfl (by decide) rfl ?_
    refine z_icmp_ge (tgt := 120) dX7_layTable_7 rfl (by decide) (fun c7 => ?_) (fun c7 => ?_)
    · refine z_iconst (v := nI 0) dX7_layTable_120 rfl (by decide) ?_
      refine z_istore_2 dX7_layTable_121 rfl ?_
      refine z_forI (head := fun k (st9 : (Nat → Int32)) => Z G mX7_layTable (zrm 1 23) ex _ 122 [some (.ref (zB G + 76)), some (.int (nI by9)), some (.int (nI k)), y3, y4, y5, y6] [] (zN, zus g [(96, (zI G 1000 st9))]) 0 0) (F := (X7_layTable_L122_F rk rt rs)) (n := by9) (fun _ _ => True) (fun _ _ _ _ => trivial) ?_ by9 0 (zfold (X7_layTable_L2_F pts lns ors lm om os) pts 0 sg) (by omega) trivial ?_
      · intro k sg4 hi _ K
        refine z_iload_n dX7_layTable_122 rfl rfl ?_
        refine z_iload_n dX7_layTable_123 rfl rfl ?_
        refine z_icmp_ge (tgt := 138) dX7_layTable_124 rfl (by decide) (fun c124 => ?_) (fun c124 => ?_)
        · exact absurd c124 (nI_ge hi (by omega))
        · refine z_aload_n dX7_layTable_127 rfl rfl ?_
          refine z_iload_n dX7_layTable_128 rfl rfl ?_
          refine z_callVv (c_X7_layRow G ex _ code tps pts lns wds brs ors stp hasP fld laid told rws cms cmT cmS isN trs sg4 rk rt rs k (by omega) (h4 k (by omega)) h76 rfl h97 h99 h100) gX7_layTable_X7_layRow rfl dX7_layTable_129 rfl rfl rfl okk_X7_layRow (Nat.le_of_ble_eq_true rfl) h76 rfl ⟨Nat.le_of_ble_eq_true rfl, Nat.le_of_ble_eq_true rfl⟩ ⟨Nat.le_of_ble_eq_true rfl, Nat.le_of_ble_eq_true rfl⟩ (Nat.le_of_ble_eq_true rfl) ?_
          refine z_nn (L' := [(96, (zI G 1000 (X7_layRow_c96 sg4 rk rt rs k)))]) rfl ?_
          refine z_iinc_2 (v := nI (k + 1)) dX7_layTable_132 rfl (zinc _) ?_
          refine z_goto (tgt := 122) dX7_layTable_135 (by decide) ?_
          exact K
      · intro _
        refine z_iload_n dX7_layTable_122 rfl rfl ?_
        refine z_iload_n dX7_layTable_123 rfl rfl ?_
        refine z_icmp_ge (tgt := 138) dX7_layTable_124 rfl (by decide) (fun c124 => ?_) (fun c124 => ?_)
        · exact z_return dX7_layTable_138 rfl (Nat.le_refl _) (Nat.le_refl _) (fun _ => rfl) ⟨rfl, by simp only [X7_layTable_c96]⟩
        · exact absurd (nI_le (Nat.le_refl _) (by omega)) c124
    · exact absurd (nI_le (Nat.le_refl _) (by omega)) c7
