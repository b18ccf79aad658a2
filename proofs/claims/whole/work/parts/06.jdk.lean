/-! ===== the JDK's own methods ===== -/
def icmp (x y : Int32) : Int32 := if y ≤ x then (if x = y then 0 else 1) else -1
def bcnt (x : Int32) : Int32 :=
  let a := x - ((x.toUInt32 >>> ((nI 1).toUInt32 &&& Int32.toUInt32 31)).toInt32 &&& 1431655765)
  let b := (a &&& 858993459) + ((a.toUInt32 >>> ((nI 2).toUInt32 &&& Int32.toUInt32 31)).toInt32 &&& 858993459)
  let c := (b + (b.toUInt32 >>> ((nI 4).toUInt32 &&& Int32.toUInt32 31)).toInt32) &&& 252645135
  let d := c + (c.toUInt32 >>> ((nI 8).toUInt32 &&& Int32.toUInt32 31)).toInt32
  let e := d + (d.toUInt32 >>> ((nI 16).toUInt32 &&& Int32.toUInt32 31)).toInt32
  e &&& nI 63
def fmod (x y : Int32) : Int32 := if 0 ≤ x ^^^ y then x - x / y * y else if x - x / y * y = 0 then x - x / y * y else x - x / y * y + y
abbrev mJ6_compare_7cf53 : zM := (cJ6_compare_7cf53, 2, (some .int), RJ6, wsJ6_compare_7cf53, "compare")
set_option maxRecDepth 100000 in
set_option maxHeartbeats 4000000 in
theorem c_compare (G : zG) (ex : Bool) (g : Nat → va_E) (x y : Int32) : zC G yJ6_compare_7cf53 wsJ6_compare_7cf53 (zrm 0 0) ex [.int x, .int y] (zN, g) (fun r h => r = some (.int (icmp x y)) ∧ h = (zN, g)) := by
  refine zC_of mJ6_compare_7cf53 (lv := [some (.int x), some (.int y)]) rfl rfl (by decide) (by intro v hv; simp at hv; rcases hv with rfl | rfl <;> rfl) (Nat.le_of_ble_eq_true rfl) rfl ?_
  refine z_0 ?_
  refine z_iload_n dJ6_compare_7cf53_0 rfl rfl ?_
  refine z_iload_n dJ6_compare_7cf53_1 rfl rfl ?_
  refine z_icmp_ge (tgt := 9) dJ6_compare_7cf53_2 rfl (by decide) (fun c => ?_) (fun c => ?_)
  · refine z_iload_n dJ6_compare_7cf53_9 rfl rfl ?_
    refine z_iload_n dJ6_compare_7cf53_10 rfl rfl ?_
    refine z_icmp_ne (tgt := 18) dJ6_compare_7cf53_11 rfl (by decide) (fun c2 => ?_) (fun c2 => ?_)
    · refine z_iconst (v := nI 1) dJ6_compare_7cf53_18 rfl (by decide) ?_
      exact z_ireturn dJ6_compare_7cf53_19 rfl rfl (Nat.le_refl _) (Nat.le_refl _) (fun _ => rfl) ⟨by unfold icmp; rw [if_pos c, if_neg c2]; rfl, rfl⟩
    · refine z_iconst (v := 0) dJ6_compare_7cf53_14 rfl (by decide) ?_
      refine z_goto (tgt := 19) dJ6_compare_7cf53_15 (by decide) ?_
      exact z_ireturn dJ6_compare_7cf53_19 rfl rfl (Nat.le_refl _) (Nat.le_refl _) (fun _ => rfl) ⟨by unfold icmp; rw [if_pos c, if_pos c2], rfl⟩
  · refine z_iconst (v := (-1)) dJ6_compare_7cf53_5 rfl (by decide) ?_
    refine z_goto (tgt := 19) dJ6_compare_7cf53_6 (by decide) ?_
    exact z_ireturn dJ6_compare_7cf53_19 rfl rfl (Nat.le_refl _) (Nat.le_refl _) (fun _ => rfl) ⟨by unfold icmp; rw [if_neg c], rfl⟩
abbrev mJ6_bitCount_0f7a4 : zM := (cJ6_bitCount_0f7a4, 1, (some .int), RJ6, wsJ6_bitCount_0f7a4, "bitCount")
theorem meJ6_bitCount_0f7a4_k265 : Cond.constant RJ6 265 (1431655765) ∈ wsJ6_bitCount_0f7a4 := by decide +kernel
theorem meJ6_bitCount_0f7a4_k266 : Cond.constant RJ6 266 (858993459) ∈ wsJ6_bitCount_0f7a4 := by decide +kernel
theorem meJ6_bitCount_0f7a4_k267 : Cond.constant RJ6 267 (252645135) ∈ wsJ6_bitCount_0f7a4 := by decide +kernel
set_option maxRecDepth 100000 in
set_option maxHeartbeats 4000000 in
theorem c_bitCount (G : zG) (ex : Bool) (g : Nat → va_E) (x : Int32) : zC G yJ6_bitCount_0f7a4 wsJ6_bitCount_0f7a4 (zrm 0 0) ex [.int x] (zN, g) (fun r h => r = some (.int (bcnt x)) ∧ h = (zN, g)) := by
  refine zC_of mJ6_bitCount_0f7a4 (lv := [some (.int x)]) rfl rfl (by decide) (by intro v hv; simp at hv; subst hv; rfl) (Nat.le_of_ble_eq_true rfl) rfl ?_
  refine z_0 ?_
  refine z_iload_n dJ6_bitCount_0f7a4_0 rfl rfl ?_
  refine z_iload_n dJ6_bitCount_0f7a4_1 rfl rfl ?_
  refine z_iconst (v := nI 1) dJ6_bitCount_0f7a4_2 rfl (by decide) ?_
  refine z_iushr dJ6_bitCount_0f7a4_3 rfl ?_
  refine z_ldcw dJ6_bitCount_0f7a4_4 rfl meJ6_bitCount_0f7a4_k265 ?_
  refine z_iand dJ6_bitCount_0f7a4_7 rfl ?_
  refine z_isub dJ6_bitCount_0f7a4_8 rfl ?_
  refine z_istore_0 dJ6_bitCount_0f7a4_9 rfl ?_
  refine z_iload_n dJ6_bitCount_0f7a4_10 rfl rfl ?_
  refine z_ldcw dJ6_bitCount_0f7a4_11 rfl meJ6_bitCount_0f7a4_k266 ?_
  refine z_iand dJ6_bitCount_0f7a4_14 rfl ?_
  refine z_iload_n dJ6_bitCount_0f7a4_15 rfl rfl ?_
  refine z_iconst (v := nI 2) dJ6_bitCount_0f7a4_16 rfl (by decide) ?_
  refine z_iushr dJ6_bitCount_0f7a4_17 rfl ?_
  refine z_ldcw dJ6_bitCount_0f7a4_18 rfl meJ6_bitCount_0f7a4_k266 ?_
  refine z_iand dJ6_bitCount_0f7a4_21 rfl ?_
  refine z_iadd dJ6_bitCount_0f7a4_22 rfl ?_
  refine z_istore_0 dJ6_bitCount_0f7a4_23 rfl ?_
  refine z_iload_n dJ6_bitCount_0f7a4_24 rfl rfl ?_
  refine z_iload_n dJ6_bitCount_0f7a4_25 rfl rfl ?_
  refine z_iconst (v := nI 4) dJ6_bitCount_0f7a4_26 rfl (by decide) ?_
  refine z_iushr dJ6_bitCount_0f7a4_27 rfl ?_
  refine z_iadd dJ6_bitCount_0f7a4_28 rfl ?_
  refine z_ldcw dJ6_bitCount_0f7a4_29 rfl meJ6_bitCount_0f7a4_k267 ?_
  refine z_iand dJ6_bitCount_0f7a4_32 rfl ?_
  refine z_istore_0 dJ6_bitCount_0f7a4_33 rfl ?_
  refine z_iload_n dJ6_bitCount_0f7a4_34 rfl rfl ?_
  refine z_iload_n dJ6_bitCount_0f7a4_35 rfl rfl ?_
  refine z_bipush (v := nI 8) dJ6_bitCount_0f7a4_36 rfl (by decide) ?_
  refine z_iushr dJ6_bitCount_0f7a4_38 rfl ?_
  refine z_iadd dJ6_bitCount_0f7a4_39 rfl ?_
  refine z_istore_0 dJ6_bitCount_0f7a4_40 rfl ?_
  refine z_iload_n dJ6_bitCount_0f7a4_41 rfl rfl ?_
  refine z_iload_n dJ6_bitCount_0f7a4_42 rfl rfl ?_
  refine z_bipush (v := nI 16) dJ6_bitCount_0f7a4_43 rfl (by decide) ?_
  refine z_iushr dJ6_bitCount_0f7a4_45 rfl ?_
  refine z_iadd dJ6_bitCount_0f7a4_46 rfl ?_
  refine z_istore_0 dJ6_bitCount_0f7a4_47 rfl ?_
  refine z_iload_n dJ6_bitCount_0f7a4_48 rfl rfl ?_
  refine z_bipush (v := nI 63) dJ6_bitCount_0f7a4_49 rfl (by decide) ?_
  refine z_iand dJ6_bitCount_0f7a4_51 rfl ?_
  exact z_ireturn dJ6_bitCount_0f7a4_52 rfl rfl (Nat.le_refl _) (Nat.le_refl _) (fun _ => rfl) ⟨rfl, rfl⟩
abbrev mJ9_floorMod_7cf53 : zM := (cJ9_floorMod_7cf53, 3, (some .int), RJ9, wsJ9_floorMod_7cf53, "floorMod")
set_option maxRecDepth 100000 in
set_option maxHeartbeats 4000000 in
theorem c_floorMod (G : zG) (ex : Bool) (g : Nat → va_E) (x y : Int32) (hy : ¬ y = 0) : zC G yJ9_floorMod_7cf53 wsJ9_floorMod_7cf53 (zrm 0 0) ex [.int x, .int y] (zN, g) (fun r h => r = some (.int (fmod x y)) ∧ h = (zN, g)) := by
  refine zC_ofF mJ9_floorMod_7cf53 (lv := [some (.int x), some (.int y), none]) rfl rfl (by decide +kernel) (by intro v hv; simp at hv; rcases hv with rfl | rfl <;> rfl) (Nat.le_of_ble_eq_true rfl) rfl ?_
  refine z_0 ?_
  refine z_iload_n dJ9_floorMod_7cf53_0 rfl rfl ?_
  refine z_iload_n dJ9_floorMod_7cf53_1 rfl rfl ?_
  refine z_irem dJ9_floorMod_7cf53_2 rfl hy ?_
  refine z_istore_2 dJ9_floorMod_7cf53_3 rfl ?_
  refine z_iload_n dJ9_floorMod_7cf53_4 rfl rfl ?_
  refine z_iload_n dJ9_floorMod_7cf53_5 rfl rfl ?_
  refine z_ixor dJ9_floorMod_7cf53_6 rfl ?_
  refine z_if_ge (tgt := 18) dJ9_floorMod_7cf53_7 rfl (by decide) (fun c => ?_) (fun c => ?_)
  · refine z_iload_n dJ9_floorMod_7cf53_18 rfl rfl ?_
    exact z_ireturn dJ9_floorMod_7cf53_19 rfl rfl (Nat.le_refl _) (Nat.le_refl _) (fun _ => rfl) ⟨by unfold fmod; rw [if_pos c], rfl⟩
  · refine z_iload_n dJ9_floorMod_7cf53_10 rfl rfl ?_
    refine z_if_eq (tgt := 18) dJ9_floorMod_7cf53_11 rfl (by decide) (fun c2 => ?_) (fun c2 => ?_)
    · refine z_iload_n dJ9_floorMod_7cf53_18 rfl rfl ?_
      exact z_ireturn dJ9_floorMod_7cf53_19 rfl rfl (Nat.le_refl _) (Nat.le_refl _) (fun _ => rfl) ⟨by unfold fmod; rw [if_neg c, if_pos c2], rfl⟩
    · refine z_iload_n dJ9_floorMod_7cf53_14 rfl rfl ?_
      refine z_iload_n dJ9_floorMod_7cf53_15 rfl rfl ?_
      refine z_iadd dJ9_floorMod_7cf53_16 rfl ?_
      exact z_ireturn dJ9_floorMod_7cf53_17 rfl rfl (Nat.le_refl _) (Nat.le_refl _) (fun _ => rfl) ⟨by unfold fmod; rw [if_neg c, if_neg c2], rfl⟩
def fillF (n : Nat) (v : Int32) (f : Nat → Int32) : Nat → Int32 := zfold (fun i f => upd f i v) n 0 f
abbrev mJ7_fill_53178 : zM := (cJ7_fill_53178, 4, none, RJ7, wsJ7_fill_53178, "fill")
set_option maxRecDepth 100000 in
set_option maxHeartbeats 4000000 in
theorem c_fill_64 (G : zG) (ex : Bool) (g : Nat → va_E) (f : Nat → Int32) (v : Int32) (hk : g 64 = zI G 1000 f) : zC G yJ7_fill_53178 wsJ7_fill_53178 (zrm 0 0) ex [.ref (zB G + 64), .int v] (zN, g) (fun r h => r = none ∧ h = (zN, zus g [(64, zI G 1000 (fillF 1000 v f))])) := by
  refine zC_of mJ7_fill_53178 (lv := [some (.ref (zB G + 64)), some (.int v), none, none]) rfl rfl (by decide) (by intro v hv; simp at hv; rcases hv with rfl | rfl <;> rfl) (Nat.le_of_ble_eq_true rfl) rfl ?_
  refine z_0 ?_
  refine z_heap (g' := zus g [(64, zI G 1000 f)]) (zu_self _ _ _ hk).symm ?_
  refine z_iconst (v := nI 0) dJ7_fill_53178_0 rfl (by decide) ?_
  refine z_istore_2 dJ7_fill_53178_1 rfl ?_
  refine z_aload_n dJ7_fill_53178_2 rfl rfl ?_
  refine z_alen dJ7_fill_53178_3 rfl (Nat.le_of_ble_eq_true rfl) rfl ?_
  refine z_istore_3 dJ7_fill_53178_4 rfl ?_
  refine z_for (head := fun i (f : Nat → Int32) => Z G mJ7_fill_53178 (zrm 0 0) ex _ 5 [some (.ref (zB G + 64)), some (.int v), some (.int (nI i)), some (.int (nI 1000))] [] (zN, zus g [(64, zI G 1000 f)]) 0 0) (F := fun i f => upd f i v) (n := 1000) ?_ 1000 0 f rfl ?_
  · intro i f hi K
    refine z_iload_n dJ7_fill_53178_5 rfl rfl ?_
    refine z_iload_n dJ7_fill_53178_6 rfl rfl ?_
    refine z_icmp_ge (tgt := 20) dJ7_fill_53178_7 rfl (by decide) (fun c => ?_) (fun c => ?_)
    · exact absurd c (nI_ge hi (by decide))
    · refine z_aload_n dJ7_fill_53178_10 rfl rfl ?_
      refine z_iload_n dJ7_fill_53178_11 rfl rfl ?_
      refine z_iload_n dJ7_fill_53178_12 rfl rfl ?_
      refine z_iastN (j := i) dJ7_fill_53178_13 rfl (Nat.le_of_ble_eq_true rfl) rfl (rfl) (by omega) (by decide) ?_
      refine z_n (L' := [(64, _)]) rfl ?_
      refine z_iinc_2 (v := nI (i + 1)) dJ7_fill_53178_14 rfl (zinc _) ?_
      refine z_goto (tgt := 5) dJ7_fill_53178_17 (by decide) ?_
      exact K
  · refine z_iload_n dJ7_fill_53178_5 rfl rfl ?_
    refine z_iload_n dJ7_fill_53178_6 rfl rfl ?_
    refine z_icmp_ge (tgt := 20) dJ7_fill_53178_7 rfl (by decide) (fun c => ?_) (fun c => ?_)
    · exact z_return dJ7_fill_53178_20 rfl (Nat.le_refl _) (Nat.le_refl _) (fun _ => rfl) ⟨rfl, rfl⟩
    · exact absurd (by decide) c
set_option maxRecDepth 100000 in
set_option maxHeartbeats 4000000 in
theorem c_fill_69 (G : zG) (ex : Bool) (g : Nat → va_E) (f : Nat → Int32) (v : Int32) (hk : g 69 = zI G 13 f) : zC G yJ7_fill_53178 wsJ7_fill_53178 (zrm 0 0) ex [.ref (zB G + 69), .int v] (zN, g) (fun r h => r = none ∧ h = (zN, zus g [(69, zI G 13 (fillF 13 v f))])) := by
  refine zC_of mJ7_fill_53178 (lv := [some (.ref (zB G + 69)), some (.int v), none, none]) rfl rfl (by decide) (by intro v hv; simp at hv; rcases hv with rfl | rfl <;> rfl) (Nat.le_of_ble_eq_true rfl) rfl ?_
  refine z_0 ?_
  refine z_heap (g' := zus g [(69, zI G 13 f)]) (zu_self _ _ _ hk).symm ?_
  refine z_iconst (v := nI 0) dJ7_fill_53178_0 rfl (by decide) ?_
  refine z_istore_2 dJ7_fill_53178_1 rfl ?_
  refine z_aload_n dJ7_fill_53178_2 rfl rfl ?_
  refine z_alen dJ7_fill_53178_3 rfl (Nat.le_of_ble_eq_true rfl) rfl ?_
  refine z_istore_3 dJ7_fill_53178_4 rfl ?_
  refine z_for (head := fun i (f : Nat → Int32) => Z G mJ7_fill_53178 (zrm 0 0) ex _ 5 [some (.ref (zB G + 69)), some (.int v), some (.int (nI i)), some (.int (nI 13))] [] (zN, zus g [(69, zI G 13 f)]) 0 0) (F := fun i f => upd f i v) (n := 13) ?_ 13 0 f rfl ?_
  · intro i f hi K
    refine z_iload_n dJ7_fill_53178_5 rfl rfl ?_
    refine z_iload_n dJ7_fill_53178_6 rfl rfl ?_
    refine z_icmp_ge (tgt := 20) dJ7_fill_53178_7 rfl (by decide) (fun c => ?_) (fun c => ?_)
    · exact absurd c (nI_ge hi (by decide))
    · refine z_aload_n dJ7_fill_53178_10 rfl rfl ?_
      refine z_iload_n dJ7_fill_53178_11 rfl rfl ?_
      refine z_iload_n dJ7_fill_53178_12 rfl rfl ?_
      refine z_iastN (j := i) dJ7_fill_53178_13 rfl (Nat.le_of_ble_eq_true rfl) rfl (rfl) (by omega) (by decide) ?_
      refine z_n (L' := [(69, _)]) rfl ?_
      refine z_iinc_2 (v := nI (i + 1)) dJ7_fill_53178_14 rfl (zinc _) ?_
      refine z_goto (tgt := 5) dJ7_fill_53178_17 (by decide) ?_
      exact K
  · refine z_iload_n dJ7_fill_53178_5 rfl rfl ?_
    refine z_iload_n dJ7_fill_53178_6 rfl rfl ?_
    refine z_icmp_ge (tgt := 20) dJ7_fill_53178_7 rfl (by decide) (fun c => ?_) (fun c => ?_)
    · exact z_return dJ7_fill_53178_20 rfl (Nat.le_refl _) (Nat.le_refl _) (fun _ => rfl) ⟨rfl, rfl⟩
    · exact absurd (by decide) c
set_option maxRecDepth 100000 in
set_option maxHeartbeats 4000000 in
theorem c_fill_75 (G : zG) (ex : Bool) (g : Nat → va_E) (f : Nat → Int32) (v : Int32) (hk : g 75 = zI G 35 f) : zC G yJ7_fill_53178 wsJ7_fill_53178 (zrm 0 0) ex [.ref (zB G + 75), .int v] (zN, g) (fun r h => r = none ∧ h = (zN, zus g [(75, zI G 35 (fillF 35 v f))])) := by
  refine zC_of mJ7_fill_53178 (lv := [some (.ref (zB G + 75)), some (.int v), none, none]) rfl rfl (by decide) (by intro v hv; simp at hv; rcases hv with rfl | rfl <;> rfl) (Nat.le_of_ble_eq_true rfl) rfl ?_
  refine z_0 ?_
  refine z_heap (g' := zus g [(75, zI G 35 f)]) (zu_self _ _ _ hk).symm ?_
  refine z_iconst (v := nI 0) dJ7_fill_53178_0 rfl (by decide) ?_
  refine z_istore_2 dJ7_fill_53178_1 rfl ?_
  refine z_aload_n dJ7_fill_53178_2 rfl rfl ?_
  refine z_alen dJ7_fill_53178_3 rfl (Nat.le_of_ble_eq_true rfl) rfl ?_
  refine z_istore_3 dJ7_fill_53178_4 rfl ?_
  refine z_for (head := fun i (f : Nat → Int32) => Z G mJ7_fill_53178 (zrm 0 0) ex _ 5 [some (.ref (zB G + 75)), some (.int v), some (.int (nI i)), some (.int (nI 35))] [] (zN, zus g [(75, zI G 35 f)]) 0 0) (F := fun i f => upd f i v) (n := 35) ?_ 35 0 f rfl ?_
  · intro i f hi K
    refine z_iload_n dJ7_fill_53178_5 rfl rfl ?_
    refine z_iload_n dJ7_fill_53178_6 rfl rfl ?_
    refine z_icmp_ge (tgt := 20) dJ7_fill_53178_7 rfl (by decide) (fun c => ?_) (fun c => ?_)
    · exact absurd c (nI_ge hi (by decide))
    · refine z_aload_n dJ7_fill_53178_10 rfl rfl ?_
      refine z_iload_n dJ7_fill_53178_11 rfl rfl ?_
      refine z_iload_n dJ7_fill_53178_12 rfl rfl ?_
      refine z_iastN (j := i) dJ7_fill_53178_13 rfl (Nat.le_of_ble_eq_true rfl) rfl (rfl) (by omega) (by decide) ?_
      refine z_n (L' := [(75, _)]) rfl ?_
      refine z_iinc_2 (v := nI (i + 1)) dJ7_fill_53178_14 rfl (zinc _) ?_
      refine z_goto (tgt := 5) dJ7_fill_53178_17 (by decide) ?_
      exact K
  · refine z_iload_n dJ7_fill_53178_5 rfl rfl ?_
    refine z_iload_n dJ7_fill_53178_6 rfl rfl ?_
    refine z_icmp_ge (tgt := 20) dJ7_fill_53178_7 rfl (by decide) (fun c => ?_) (fun c => ?_)
    · exact z_return dJ7_fill_53178_20 rfl (Nat.le_refl _) (Nat.le_refl _) (fun _ => rfl) ⟨rfl, rfl⟩
    · exact absurd (by decide) c
