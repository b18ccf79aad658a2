/-! ===== ConfigSearch$Forms: leaves ===== -/
/-- a row's entry j goes down to its place -/
def insF : (Nat → Int32) → Nat → (Nat → Int32)
  | f, 0 => f
  | f, j + 1 => if f j ≤ f (j + 1) then f else insF (upd (upd f (j + 1) (f j)) j (f (j + 1))) j
def outF : Nat → Nat → (Nat → Int32) → (Nat → Int32)
  | 0, _, f => f
  | d + 1, i, f => outF d (i + 1) (insF f i)
/-- the first n entries sorted -/
def srtF (f : Nat → Int32) (n : Nat) : Nat → Int32 := outF (n - 1) 1 f
abbrev mX1_sort : zM := (cX1_sort, 5, none, RX1, wsX1_sort, "sort")
set_option maxRecDepth 100000 in
set_option maxHeartbeats 4000000 in
theorem sort70_in {G : zG} {ex : Bool} {Q : Option Value → zAH → Prop} {g : Nat → va_E} {len : Nat} {i : Nat} (hi : i < 12) : ∀ (j : Nat) (f : Nat → Int32) (a4 : Option Value), j ≤ i → (∀ a3 a4 : Option Value, Z G mX1_sort (zrm 0 0) ex Q 50 [some (.ref (zB G + 70)), some (.int (nI len)), some (.int (nI (i))), a3, a4] [] (zN, zus g [(70, zI G 12 (insF f j))]) 0 0) → Z G mX1_sort (zrm 0 0) ex Q 9 [some (.ref (zB G + 70)), some (.int (nI len)), some (.int (nI (i))), some (.int (nI (j))), a4] [] (zN, zus g [(70, zI G 12 (f))]) 0 0 := by
  intro j
  induction j with
  | zero =>
    intro f a4 hj K
    refine z_iload_n dX1_sort_9 rfl rfl ?_
    refine z_if_le (tgt := 50) dX1_sort_10 rfl (by decide) (fun c => ?_) (fun c => ?_)
    · exact K _ _
    · exact absurd (by decide) c
  | succ j ih =>
    intro f a4 hj K
    refine z_iload_n dX1_sort_9 rfl rfl ?_
    refine z_if_le (tgt := 50) dX1_sort_10 rfl (by decide) (fun c => ?_) (fun c => ?_)
    · exact absurd c (nI_nle (by omega) (by omega))
    · refine z_aload_n dX1_sort_13 rfl rfl ?_
      refine z_iload_n dX1_sort_14 rfl rfl ?_
      refine z_iconst (v := nI 1) dX1_sort_15 rfl (by decide) ?_
      refine z_isub dX1_sort_16 rfl ?_
      refine z_ialdN (j := j) dX1_sort_17 rfl (Nat.le_of_ble_eq_true rfl) rfl (zsub1 _) (by omega) (by decide) ?_
      refine z_aload_n dX1_sort_18 rfl rfl ?_
      refine z_iload_n dX1_sort_19 rfl rfl ?_
      refine z_ialdN (j := j + 1) dX1_sort_20 rfl (Nat.le_of_ble_eq_true rfl) rfl (rfl) (by omega) (by decide) ?_
      refine z_icmp_le (tgt := 50) dX1_sort_21 rfl (by decide) (fun c2 => ?_) (fun c2 => ?_)
      · have K9 := K (some (.int (nI (j + 1)))) a4
        rw [insF, if_pos c2] at K9
        exact K9
      · refine z_aload_n dX1_sort_24 rfl rfl ?_
        refine z_iload_n dX1_sort_25 rfl rfl ?_
        refine z_ialdN (j := j + 1) dX1_sort_26 rfl (Nat.le_of_ble_eq_true rfl) rfl (rfl) (by omega) (by decide) ?_
        refine z_istore_4 dX1_sort_27 rfl ?_
        refine z_aload_n dX1_sort_29 rfl rfl ?_
        refine z_iload_n dX1_sort_30 rfl rfl ?_
        refine z_aload_n dX1_sort_31 rfl rfl ?_
        refine z_iload_n dX1_sort_32 rfl rfl ?_
        refine z_iconst (v := nI 1) dX1_sort_33 rfl (by decide) ?_
        refine z_isub dX1_sort_34 rfl ?_
        refine z_ialdN (j := j) dX1_sort_35 rfl (Nat.le_of_ble_eq_true rfl) rfl (zsub1 _) (by omega) (by decide) ?_
        refine z_iastN (j := j + 1) dX1_sort_36 rfl (Nat.le_of_ble_eq_true rfl) rfl (rfl) (by omega) (by decide) ?_
        refine z_n (L' := [(70, _)]) rfl ?_
        refine z_aload_n dX1_sort_37 rfl rfl ?_
        refine z_iload_n dX1_sort_38 rfl rfl ?_
        refine z_iconst (v := nI 1) dX1_sort_39 rfl (by decide) ?_
        refine z_isub dX1_sort_40 rfl ?_
        refine z_iload dX1_sort_41 rfl rfl ?_
        refine z_iastN (j := j) dX1_sort_43 rfl (Nat.le_of_ble_eq_true rfl) rfl (zsub1 _) (by omega) (by decide) ?_
        refine z_n (L' := [(70, _)]) rfl ?_
        refine z_iinc_3 (v := nI j) dX1_sort_44 rfl (zdec _) ?_
        refine z_goto (tgt := 9) dX1_sort_47 (by decide) ?_
        exact ih _ _ (by omega) (fun a3 a4 => by
          have K9 := K a3 a4
          rw [insF, if_neg c2] at K9
          exact K9)
set_option maxRecDepth 100000 in
set_option maxHeartbeats 4000000 in
theorem sort70_out {G : zG} {ex : Bool} {Q : Option Value → zAH → Prop} {g : Nat → va_E} {len : Nat} (hl : len ≤ 12) : ∀ (d i : Nat) (f : Nat → Int32) (a3 a4 : Option Value), (d = 0 ∨ i + d = len) → len ≤ i + d → i ≤ 12 → (∀ a2 a3 a4 : Option Value, Z G mX1_sort (zrm 0 0) ex Q 56 [some (.ref (zB G + 70)), some (.int (nI len)), a2, a3, a4] [] (zN, zus g [(70, zI G 12 (outF d i f))]) 0 0) → Z G mX1_sort (zrm 0 0) ex Q 2 [some (.ref (zB G + 70)), some (.int (nI len)), some (.int (nI (i))), a3, a4] [] (zN, zus g [(70, zI G 12 (f))]) 0 0 := by
  intro d
  induction d with
  | zero =>
    intro i f a3 a4 h1 h2 h3 K
    refine z_iload_n dX1_sort_2 rfl rfl ?_
    refine z_iload_n dX1_sort_3 rfl rfl ?_
    refine z_icmp_ge (tgt := 56) dX1_sort_4 rfl (by decide) (fun c => ?_) (fun c => ?_)
    · exact K _ _ _
    · exact absurd (nI_le (by omega) (by omega)) c
  | succ d ih =>
    intro i f a3 a4 h1 h2 h3 K
    refine z_iload_n dX1_sort_2 rfl rfl ?_
    refine z_iload_n dX1_sort_3 rfl rfl ?_
    refine z_icmp_ge (tgt := 56) dX1_sort_4 rfl (by decide) (fun c => ?_) (fun c => ?_)
    · exact absurd c (nI_ge (by omega) (by omega))
    · refine z_iload_n dX1_sort_7 rfl rfl ?_
      refine z_istore_3 dX1_sort_8 rfl ?_
      refine sort70_in (by omega) i f _ (Nat.le_refl i) (fun a3 a4 => ?_)
      refine z_iinc_2 (v := nI (i + 1)) dX1_sort_50 rfl (zinc _) ?_
      refine z_goto (tgt := 2) dX1_sort_53 (by decide) ?_
      exact ih (i + 1) _ _ _ (by omega) (by omega) (by omega) (fun a2 a3 a4 => K a2 a3 a4)
set_option maxRecDepth 100000 in
set_option maxHeartbeats 4000000 in
theorem c_X1_sort_70 (G : zG) (ex : Bool) (g : Nat → va_E) (f : Nat → Int32) (len : Nat) (hl : len ≤ 12) (hk : g 70 = zI G 12 f) : zC G yX1_sort wsX1_sort (zrm 0 0) ex [.ref (zB G + 70), .int (nI len)] (zN, g) (fun r h => r = none ∧ h = (zN, zus g [(70, zI G 12 (srtF f len))])) := by
  refine zC_of mX1_sort (lv := [some (.ref (zB G + 70)), some (.int (nI len)), none, none, none]) rfl rfl (by decide) (by intro v hv; simp at hv; rcases hv with rfl | rfl <;> rfl) (Nat.le_of_ble_eq_true rfl) rfl ?_
  refine z_heap (g' := zus g [(70, zI G 12 f)]) (zu_self _ _ _ hk).symm ?_
  refine z_iconst (v := nI 1) dX1_sort_0 rfl (by decide) ?_
  refine z_istore_2 dX1_sort_1 rfl ?_
  refine sort70_out hl (len - 1) 1 f _ _ (by omega) (by omega) (by omega) (fun a2 a3 a4 => ?_)
  exact z_return dX1_sort_56 rfl (Nat.le_refl _) (Nat.le_refl _) (fun _ => rfl) ⟨rfl, rfl⟩
set_option maxRecDepth 100000 in
set_option maxHeartbeats 4000000 in
theorem sort71_in {G : zG} {ex : Bool} {Q : Option Value → zAH → Prop} {g : Nat → va_E} {len : Nat} {i : Nat} (hi : i < 12) : ∀ (j : Nat) (f : Nat → Int32) (a4 : Option Value), j ≤ i → (∀ a3 a4 : Option Value, Z G mX1_sort (zrm 0 0) ex Q 50 [some (.ref (zB G + 71)), some (.int (nI len)), some (.int (nI (i))), a3, a4] [] (zN, zus g [(71, zI G 12 (insF f j))]) 0 0) → Z G mX1_sort (zrm 0 0) ex Q 9 [some (.ref (zB G + 71)), some (.int (nI len)), some (.int (nI (i))), some (.int (nI (j))), a4] [] (zN, zus g [(71, zI G 12 (f))]) 0 0 := by
  intro j
  induction j with
  | zero =>
    intro f a4 hj K
    refine z_iload_n dX1_sort_9 rfl rfl ?_
    refine z_if_le (tgt := 50) dX1_sort_10 rfl (by decide) (fun c => ?_) (fun c => ?_)
    · exact K _ _
    · exact absurd (by decide) c
  | succ j ih =>
    intro f a4 hj K
    refine z_iload_n dX1_sort_9 rfl rfl ?_
    refine z_if_le (tgt := 50) dX1_sort_10 rfl (by decide) (fun c => ?_) (fun c => ?_)
    · exact absurd c (nI_nle (by omega) (by omega))
    · refine z_aload_n dX1_sort_13 rfl rfl ?_
      refine z_iload_n dX1_sort_14 rfl rfl ?_
      refine z_iconst (v := nI 1) dX1_sort_15 rfl (by decide) ?_
      refine z_isub dX1_sort_16 rfl ?_
      refine z_ialdN (j := j) dX1_sort_17 rfl (Nat.le_of_ble_eq_true rfl) rfl (zsub1 _) (by omega) (by decide) ?_
      refine z_aload_n dX1_sort_18 rfl rfl ?_
      refine z_iload_n dX1_sort_19 rfl rfl ?_
      refine z_ialdN (j := j + 1) dX1_sort_20 rfl (Nat.le_of_ble_eq_true rfl) rfl (rfl) (by omega) (by decide) ?_
      refine z_icmp_le (tgt := 50) dX1_sort_21 rfl (by decide) (fun c2 => ?_) (fun c2 => ?_)
      · have K9 := K (some (.int (nI (j + 1)))) a4
        rw [insF, if_pos c2] at K9
        exact K9
      · refine z_aload_n dX1_sort_24 rfl rfl ?_
        refine z_iload_n dX1_sort_25 rfl rfl ?_
        refine z_ialdN (j := j + 1) dX1_sort_26 rfl (Nat.le_of_ble_eq_true rfl) rfl (rfl) (by omega) (by decide) ?_
        refine z_istore_4 dX1_sort_27 rfl ?_
        refine z_aload_n dX1_sort_29 rfl rfl ?_
        refine z_iload_n dX1_sort_30 rfl rfl ?_
        refine z_aload_n dX1_sort_31 rfl rfl ?_
        refine z_iload_n dX1_sort_32 rfl rfl ?_
        refine z_iconst (v := nI 1) dX1_sort_33 rfl (by decide) ?_
        refine z_isub dX1_sort_34 rfl ?_
        refine z_ialdN (j := j) dX1_sort_35 rfl (Nat.le_of_ble_eq_true rfl) rfl (zsub1 _) (by omega) (by decide) ?_
        refine z_iastN (j := j + 1) dX1_sort_36 rfl (Nat.le_of_ble_eq_true rfl) rfl (rfl) (by omega) (by decide) ?_
        refine z_n (L' := [(71, _)]) rfl ?_
        refine z_aload_n dX1_sort_37 rfl rfl ?_
        refine z_iload_n dX1_sort_38 rfl rfl ?_
        refine z_iconst (v := nI 1) dX1_sort_39 rfl (by decide) ?_
        refine z_isub dX1_sort_40 rfl ?_
        refine z_iload dX1_sort_41 rfl rfl ?_
        refine z_iastN (j := j) dX1_sort_43 rfl (Nat.le_of_ble_eq_true rfl) rfl (zsub1 _) (by omega) (by decide) ?_
        refine z_n (L' := [(71, _)]) rfl ?_
        refine z_iinc_3 (v := nI j) dX1_sort_44 rfl (zdec _) ?_
        refine z_goto (tgt := 9) dX1_sort_47 (by decide) ?_
        exact ih _ _ (by omega) (fun a3 a4 => by
          have K9 := K a3 a4
          rw [insF, if_neg c2] at K9
          exact K9)
set_option maxRecDepth 100000 in
set_option maxHeartbeats 4000000 in
theorem sort71_out {G : zG} {ex : Bool} {Q : Option Value → zAH → Prop} {g : Nat → va_E} {len : Nat} (hl : len ≤ 12) : ∀ (d i : Nat) (f : Nat → Int32) (a3 a4 : Option Value), (d = 0 ∨ i + d = len) → len ≤ i + d → i ≤ 12 → (∀ a2 a3 a4 : Option Value, Z G mX1_sort (zrm 0 0) ex Q 56 [some (.ref (zB G + 71)), some (.int (nI len)), a2, a3, a4] [] (zN, zus g [(71, zI G 12 (outF d i f))]) 0 0) → Z G mX1_sort (zrm 0 0) ex Q 2 [some (.ref (zB G + 71)), some (.int (nI len)), some (.int (nI (i))), a3, a4] [] (zN, zus g [(71, zI G 12 (f))]) 0 0 := by
  intro d
  induction d with
  | zero =>
    intro i f a3 a4 h1 h2 h3 K
    refine z_iload_n dX1_sort_2 rfl rfl ?_
    refine z_iload_n dX1_sort_3 rfl rfl ?_
    refine z_icmp_ge (tgt := 56) dX1_sort_4 rfl (by decide) (fun c => ?_) (fun c => ?_)
    · exact K _ _ _
    · exact absurd (nI_le (by omega) (by omega)) c
  | succ d ih =>
    intro i f a3 a4 h1 h2 h3 K
    refine z_iload_n dX1_sort_2 rfl rfl ?_
    refine z_iload_n dX1_sort_3 rfl rfl ?_
    refine z_icmp_ge (tgt := 56) dX1_sort_4 rfl (by decide) (fun c => ?_) (fun c => ?_)
    · exact absurd c (nI_ge (by omega) (by omega))
    · refine z_iload_n dX1_sort_7 rfl rfl ?_
      refine z_istore_3 dX1_sort_8 rfl ?_
      refine sort71_in (by omega) i f _ (Nat.le_refl i) (fun a3 a4 => ?_)
      refine z_iinc_2 (v := nI (i + 1)) dX1_sort_50 rfl (zinc _) ?_
      refine z_goto (tgt := 2) dX1_sort_53 (by decide) ?_
      exact ih (i + 1) _ _ _ (by omega) (by omega) (by omega) (fun a2 a3 a4 => K a2 a3 a4)
set_option maxRecDepth 100000 in
set_option maxHeartbeats 4000000 in
theorem c_X1_sort_71 (G : zG) (ex : Bool) (g : Nat → va_E) (f : Nat → Int32) (len : Nat) (hl : len ≤ 12) (hk : g 71 = zI G 12 f) : zC G yX1_sort wsX1_sort (zrm 0 0) ex [.ref (zB G + 71), .int (nI len)] (zN, g) (fun r h => r = none ∧ h = (zN, zus g [(71, zI G 12 (srtF f len))])) := by
  refine zC_of mX1_sort (lv := [some (.ref (zB G + 71)), some (.int (nI len)), none, none, none]) rfl rfl (by decide) (by intro v hv; simp at hv; rcases hv with rfl | rfl <;> rfl) (Nat.le_of_ble_eq_true rfl) rfl ?_
  refine z_heap (g' := zus g [(71, zI G 12 f)]) (zu_self _ _ _ hk).symm ?_
  refine z_iconst (v := nI 1) dX1_sort_0 rfl (by decide) ?_
  refine z_istore_2 dX1_sort_1 rfl ?_
  refine sort71_out hl (len - 1) 1 f _ _ (by omega) (by omega) (by omega) (fun a2 a3 a4 => ?_)
  exact z_return dX1_sort_56 rfl (Nat.le_refl _) (Nat.le_refl _) (fun _ => rfl) ⟨rfl, rfl⟩
