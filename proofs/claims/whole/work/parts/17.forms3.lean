theorem zdec1 {m : Nat} (h : 1 ≤ m) : nI m - nI 1 + Int32.ofInt (-1) = nI (m - 1) - nI 1 := by
  obtain ⟨k, rfl⟩ : ∃ k, m = k + 1 := ⟨m - 1, by omega⟩
  rw [nI_succ]
  show nI k + 1 - 1 + -1 = nI k - 1
  rw [Int32.add_sub_cancel, Int32.sub_eq_add_neg]
theorem zm1_lt : nI 0 - nI 1 < 0 := by decide
theorem zm1_nlt {m : Nat} (h : 1 ≤ m) (hm : m < 2147483648) : ¬ nI m - nI 1 < 0 := by
  rw [pk_sub h]
  exact nI_nlt (Nat.zero_le _) (by omega)
theorem zm1_ge {m : Nat} (h : 0 ≤ nI m - nI 1) : 1 ≤ m := by
  rcases Nat.eq_zero_or_pos m with q | q
  · subst q
    exact absurd h (by decide)
  · exact q
theorem fac_le : ∀ n, n ≤ 7 → X1_factorial_n n ≤ 5040 := by decide +kernel
theorem shl1N : ∀ n, n < 31 → nI 1 <<< (nI n &&& 31) = nI (2 ^ n) := by decide +kernel
theorem zfoldB_J9 {α β : Type} {B : Nat → α → Option β} {F : Nat → α → α} {n : Nat} (J : β → Prop) (hJ : ∀ i a b, i < n → B i a = some b → J b) :
    ∀ (d i : Nat) (a : α), i + d = n → (∀ b a', zfoldB B F d i a = (some b, a') → J b) := by
  intro d
  induction d with
  | zero =>
    intro i a h b a' q
    simp [zfoldB] at q
  | succ d ih =>
    intro i a h
    cases hb : B i a with
    | some b =>
      have e : zfoldB B F (d + 1) i a = (some b, a) := by simp [zfoldB, hb]
      rw [e]
      exact fun b' a' q => by cases q; exact hJ i a b (by omega) hb
    | none =>
      have e : zfoldB B F (d + 1) i a = zfoldB B F d (i + 1) (F i a) := by simp [zfoldB, hb]
      rw [e]
      exact ih (i + 1) (F i a) (by omega)
theorem zpick_J9 {α β γ : Type} {r : Option β × α} {f : β → γ} {k : α → γ} (J : γ → Prop) (h1 : ∀ b a', r = (some b, a') → J (f b)) (h2 : ∀ a', r = (none, a') → J (k a')) : J (zpick r f k) := by
  obtain ⟨b, a⟩ := r
  cases b with
  | none => exact h2 a rfl
  | some b => exact h1 b a rfl
theorem pow6 {n : Nat} (h : n ≤ 6) : 2 ^ n ≤ 64 := Nat.pow_le_pow_right (by decide) h
abbrev mX1_orderOfRenaming : zM := (cX1_orderOfRenaming, 5, (some .int), RX1, wsX1_orderOfRenaming, "orderOfRenaming")
theorem hiX1_orderOfRenaming_X1 : ∀ w ∈ wsX10, w ∈ wsX1_orderOfRenaming := fun w h => List.mem_cons_of_mem _ (List.mem_append_right _ h)
theorem lkX1_orderOfRenaming_31 : Cond.fieldLink RX1 31 "ConfigSearch$Forms" "moved" "[I" ∈ wsX1_orderOfRenaming := by decide +kernel
theorem lkX1_orderOfRenaming_28 : Cond.fieldLink RX1 28 "ConfigSearch$Forms" "renaming" "[I" ∈ wsX1_orderOfRenaming := by decide +kernel
def X1_orderOfRenaming_L2_F (k : Nat) (a9 : (Nat → Int32)) : (Nat → Int32) := upd a9 k (nI k)
def X1_orderOfRenaming_L33_F (ren : Nat → Int32) (k : Nat) (a9 : (Nat → Int32) × (Int32)) : (Nat → Int32) × (Int32) := if ((upd a9.1 k (ren (a9.1 k).toNatClampNeg)) k) = (nI k) then (upd a9.1 k (ren (a9.1 k).toNatClampNeg), a9.2 &&& (nI 1)) else (upd a9.1 k (ren (a9.1 k).toNatClampNeg), a9.2 &&& (nI 0))
def X1_orderOfRenaming_L22_F (ren : Nat → Int32) (pts : Nat) (tm : Nat) (a9 : (Nat → Int32)) : (Nat → Int32) := zlet (zfold (X1_orderOfRenaming_L33_F ren) pts 0 (a9, nI 1)) (fun rr33 => if rr33.2 = 0 then rr33.1 else a9)
def X1_orderOfRenaming_L22_B (ren : Nat → Int32) (pts : Nat) (tm : Nat) (a9 : (Nat → Int32)) : Option ((Int32) × (Nat → Int32)) := zlet (zfold (X1_orderOfRenaming_L33_F ren) pts 0 (a9, nI 1)) (fun rr33 => if rr33.2 = 0 then none else (some (nI tm, rr33.1)))
def X1_orderOfRenaming_v (ren mv : Nat → Int32) (pts : Nat) : Int32 := zlet (zfold (X1_orderOfRenaming_L2_F) pts 0 mv) (fun rr2 => zpick (zfoldB (X1_orderOfRenaming_L22_B ren pts) (X1_orderOfRenaming_L22_F ren pts) 11 1 rr2) (fun b => b.1) (fun am22 => nI 12))
def X1_orderOfRenaming_c73 (ren mv : Nat → Int32) (pts : Nat) : Nat → Int32 := zlet (zfold (X1_orderOfRenaming_L2_F) pts 0 mv) (fun rr2 => zpick (zfoldB (X1_orderOfRenaming_L22_B ren pts) (X1_orderOfRenaming_L22_F ren pts) 11 1 rr2) (fun b => b.2) (fun am22 => am22))
set_option maxRecDepth 100000 in
set_option maxHeartbeats 4000000 in
theorem c_X1_orderOfRenaming (G : zG) (ex : Bool) (g : Nat → va_E) (sd : Int32) (ren mv : Nat → Int32) (pts : Nat) (hp : pts ≤ 7) (hren : ∀ j, j < 7 → vp_in (ren j) 7) (h67 : g 67 = (oFrm G sd)) (h72 : g 72 = (zI G 7 ren)) (h73 : g 73 = (zI G 7 mv)) : zC G yX1_orderOfRenaming wsX1_orderOfRenaming (zrm 0 0) ex [.ref (zB G + 67), .int (nI pts)] (zN, g) (fun r h => r = some (.int (X1_orderOfRenaming_v ren mv pts)) ∧ h = (zN, zus g [(73, zI G 7 (X1_orderOfRenaming_c73 ren mv pts))])) := by
  refine zC_of mX1_orderOfRenaming (lv := [some (.ref (zB G + 67)), some (.int (nI pts)), none, none, none]) rfl rfl (by decide) (by intro v hv; simp at hv; rcases hv with rfl | rfl <;> rfl) (Nat.le_of_ble_eq_true rfl) rfl ?_
  refine z_0 ?_
  refine z_heap (g' := zu (zus g []) 73 (zI G 7 mv)) (zu_self (zus g []) 73 _ h73).symm ?_
  refine z_n (L' := [(73, (zI G 7 mv))]) rfl ?_
  refine z_iconst (v := nI 0) dX1_orderOfRenaming_0 rfl (by decide) ?_
  refine z_istore_2 dX1_orderOfRenaming_1 rfl ?_
  refine z_forI (head := fun k (st9 : (Nat → Int32)) => Z G mX1_orderOfRenaming (zrm 0 0) ex _ 2 [some (.ref (zB G + 67)), some (.int (nI pts)), some (.int (nI k)), none, none] [] (zN, zus g [(73, (zI G 7 st9))]) 0 0) (F := (X1_orderOfRenaming_L2_F)) (n := pts) (fun i a => ∀ j, j < i → vp_in (a j) 7) (fun i a hi h j hj => by
        unfold X1_orderOfRenaming_L2_F
        simp only [upd]
        split
        · exact vp_in_nI (by omega) (by decide)
        · exact h j (by omega)) ?_ pts 0 mv (by omega) (fun j h => absurd h (Nat.not_lt_zero j)) ?_
  · intro k m1 hi hI K
    refine z_iload_n dX1_orderOfRenaming_2 rfl rfl ?_
    refine z_iload_n dX1_orderOfRenaming_3 rfl rfl ?_
    refine z_icmp_ge (tgt := 20) dX1_orderOfRenaming_4 rfl (by decide) (fun c4 => ?_) (fun c4 => ?_)
    · exact absurd c4 (nI_ge hi (by omega))
    · refine z_aload_n dX1_orderOfRenaming_7 rfl rfl ?_
      refine z_get dX1_orderOfRenaming_8 rfl hiX1_orderOfRenaming_X1 6 lkX1_orderOfRenaming_31 (Nat.le_of_ble_eq_true rfl) h67 rfl (by decide) rfl ?_
      refine z_iload_n dX1_orderOfRenaming_11 rfl rfl ?_
      refine z_iload_n dX1_orderOfRenaming_12 rfl rfl ?_
      refine z_iastN (j := k) dX1_orderOfRenaming_13 rfl (Nat.le_of_ble_eq_true rfl) rfl (rfl) (by omega) (by decide) ?_
      refine z_n (L' := [(73, (zI G 7 (upd m1 k (nI k))))]) rfl ?_
      refine z_iinc_2 (v := nI (k + 1)) dX1_orderOfRenaming_14 rfl (zinc _) ?_
      refine z_goto (tgt := 2) dX1_orderOfRenaming_17 (by decide) ?_
      exact K
  · generalize hR2 : zfold (X1_orderOfRenaming_L2_F) pts 0 mv = r9
    obtain ⟨m1o, rfl⟩ : ∃ z, z = r9 := ⟨_, rfl⟩
    intro hI
    have hm1 : ∀ j, j < pts → vp_in (m1o j) 7 := hI
    refine z_iload_n dX1_orderOfRenaming_2 rfl rfl ?_
    refine z_iload_n dX1_orderOfRenaming_3 rfl rfl ?_
    refine z_icmp_ge (tgt := 20) dX1_orderOfRenaming_4 rfl (by decide) (fun c4 => ?_) (fun c4 => ?_)
    · refine z_iconst (v := nI 1) dX1_orderOfRenaming_20 rfl (by decide) ?_
      refine z_istore_2 dX1_orderOfRenaming_21 rfl ?_
      refine z_forB (head := fun tm (st9 : (Nat → Int32)) => ∀ y3 y4 : Option Value, Z G mX1_orderOfRenaming (zrm 0 0) ex _ 22 [some (.ref (zB G + 67)), some (.int (nI pts)), some (.int (nI tm)), y3, y4] [] (zN, zus g [(73, (zI G 7 st9))]) 0 0) (out := fun b _ => (some (Value.int b.1) = some (Value.int (X1_orderOfRenaming_v ren mv pts))) ∧ ((zN, zus g [(73, (zI G 7 b.2))]) : zAH) = (zN, zus g [(73, zI G 7 (X1_orderOfRenaming_c73 ren mv pts))])) (B := (X1_orderOfRenaming_L22_B ren pts)) (F := (X1_orderOfRenaming_L22_F ren pts)) (n := 12) (fun _ a => ∀ j, j < pts → vp_in (a j) 7) (fun i a hi h hB => by
            unfold X1_orderOfRenaming_L22_F
            have e := zfold_I (n := pts) (fun (_ : Nat) (b : (Nat → Int32) × Int32) => ∀ j, j < pts → vp_in (b.1 j) 7) (F := X1_orderOfRenaming_L33_F ren) (fun i b hi hb j hj => by
              unfold X1_orderOfRenaming_L33_F
              split
              all_goals (simp only [upd]; split; exact hren _ (zvlt (hb _ hi)); exact hb j hj)) pts 0 (a, nI 1) (by omega) h
            simp only [zlet]
            split
            all_goals first | exact h | exact e) ?_ 11 1 m1o (by omega) hm1 ?_ ?_ _ _
      · intro tm m2 hi hI Ko K
        intro y3 y4
        refine z_iload_n dX1_orderOfRenaming_22 rfl rfl ?_
        refine z_bipush (v := nI 12) dX1_orderOfRenaming_23 rfl (by decide) ?_
        refine z_icmp_ge (tgt := 96) dX1_orderOfRenaming_25 rfl (by decide) (fun c25 => ?_) (fun c25 => ?_)
        · exact absurd c25 (nI_ge hi (by omega))
        · refine z_iconst (v := nI 1) dX1_orderOfRenaming_28 rfl (by decide) ?_
          refine z_istore_3 dX1_orderOfRenaming_29 rfl ?_
          refine z_iconst (v := nI 0) dX1_orderOfRenaming_30 rfl (by decide) ?_
          refine z_istore_4 dX1_orderOfRenaming_31 rfl ?_
          refine z_forI (head := fun k (st9 : (Nat → Int32) × (Int32)) => Z G mX1_orderOfRenaming (zrm 0 0) ex _ 33 [some (.ref (zB G + 67)), some (.int (nI pts)), some (.int (nI tm)), some (.int st9.2), some (.int (nI k))] [] (zN, zus g [(73, (zI G 7 st9.1))]) 0 0) (F := (X1_orderOfRenaming_L33_F ren)) (n := pts) (fun _ a => ∀ j, j < pts → vp_in (a.1 j) 7) (fun i b hi hb j hj => by
                  unfold X1_orderOfRenaming_L33_F
                  split
                  all_goals (simp only [upd]; split; exact hren _ (zvlt (hb _ hi)); exact hb j hj)) ?_ pts 0 (m2, nI 1) (by omega) hI ?_
          · intro k a9 hi hI K
            obtain ⟨m3, hm⟩ := a9
            refine z_iload dX1_orderOfRenaming_33 rfl rfl ?_
            refine z_iload_n dX1_orderOfRenaming_35 rfl rfl ?_
            refine z_icmp_ge (tgt := 84) dX1_orderOfRenaming_36 rfl (by decide) (fun c36 => ?_) (fun c36 => ?_)
            · exact absurd c36 (nI_ge hi (by omega))
            · refine z_aload_n dX1_orderOfRenaming_39 rfl rfl ?_
              refine z_get dX1_orderOfRenaming_40 rfl hiX1_orderOfRenaming_X1 6 lkX1_orderOfRenaming_31 (Nat.le_of_ble_eq_true rfl) h67 rfl (by decide) rfl ?_
              refine z_iload dX1_orderOfRenaming_43 rfl rfl ?_
              refine z_aload_n dX1_orderOfRenaming_45 rfl rfl ?_
              refine z_get dX1_orderOfRenaming_46 rfl hiX1_orderOfRenaming_X1 5 lkX1_orderOfRenaming_28 (Nat.le_of_ble_eq_true rfl) h67 rfl (by decide) rfl ?_
              refine z_aload_n dX1_orderOfRenaming_49 rfl rfl ?_
              refine z_get dX1_orderOfRenaming_50 rfl hiX1_orderOfRenaming_X1 6 lkX1_orderOfRenaming_31 (Nat.le_of_ble_eq_true rfl) h67 rfl (by decide) rfl ?_
              refine z_iload dX1_orderOfRenaming_53 rfl rfl ?_
              refine z_ialdN (j := k) dX1_orderOfRenaming_55 rfl (Nat.le_of_ble_eq_true rfl) rfl (rfl) (by omega) (by decide) ?_
              refine z_iald dX1_orderOfRenaming_56 rfl (Nat.le_of_ble_eq_true rfl) h72 (hI _ hi) ?_
              refine z_iastN (j := k) dX1_orderOfRenaming_57 rfl (Nat.le_of_ble_eq_true rfl) rfl (rfl) (by omega) (by decide) ?_
              refine z_n (L' := [(73, (zI G 7 (upd m3 k (ren (m3 k).toNatClampNeg))))]) rfl ?_
              refine z_iload_n dX1_orderOfRenaming_58 rfl rfl ?_
              refine z_aload_n dX1_orderOfRenaming_59 rfl rfl ?_
              refine z_get dX1_orderOfRenaming_60 rfl hiX1_orderOfRenaming_X1 6 lkX1_orderOfRenaming_31 (Nat.le_of_ble_eq_true rfl) h67 rfl (by decide) rfl ?_
              refine z_iload dX1_orderOfRenaming_63 rfl rfl ?_
              refine z_ialdN (j := k) dX1_orderOfRenaming_65 rfl (Nat.le_of_ble_eq_true rfl) rfl (rfl) (by omega) (by decide) ?_
              refine z_iload dX1_orderOfRenaming_66 rfl rfl ?_
              refine z_icmp_ne (tgt := 75) dX1_orderOfRenaming_68 rfl (by decide) (fun c68 => ?_) (fun c68 => ?_)
              · refine z_iconst (v := nI 0) dX1_orderOfRenaming_75 rfl (by decide) ?_
                refine z_iand dX1_orderOfRenaming_76 rfl ?_
                refine z_istore_3 dX1_orderOfRenaming_77 rfl ?_
                refine z_iinc_4 (v := nI (k + 1)) dX1_orderOfRenaming_78 rfl (zinc _) ?_
                refine z_goto (tgt := 33) dX1_orderOfRenaming_81 (by decide) ?_
                have K9 := K
                try simp only [X1_orderOfRenaming_L33_F, if_neg c68] at K9
                exact K9
              · refine z_iconst (v := nI 1) dX1_orderOfRenaming_71 rfl (by decide) ?_
                refine z_goto (tgt := 76) dX1_orderOfRenaming_72 (by decide) ?_
                refine z_iand dX1_orderOfRenaming_76 rfl ?_
                refine z_istore_3 dX1_orderOfRenaming_77 rfl ?_
                refine z_iinc_4 (v := nI (k + 1)) dX1_orderOfRenaming_78 rfl (zinc _) ?_
                refine z_goto (tgt := 33) dX1_orderOfRenaming_81 (by decide) ?_
                have K9 := K
                try simp only [X1_orderOfRenaming_L33_F, if_pos c68] at K9
                exact K9
          · generalize hR33 : zfold (X1_orderOfRenaming_L33_F ren) pts 0 (m2, nI 1) = r9
            obtain ⟨m3o, hmo⟩ := r9
            intro hI
            refine z_iload dX1_orderOfRenaming_33 rfl rfl ?_
            refine z_iload_n dX1_orderOfRenaming_35 rfl rfl ?_
            refine z_icmp_ge (tgt := 84) dX1_orderOfRenaming_36 rfl (by decide) (fun c36 => ?_) (fun c36 => ?_)
            · refine z_iload_n dX1_orderOfRenaming_84 rfl rfl ?_
              refine z_if_eq (tgt := 90) dX1_orderOfRenaming_85 rfl (by decide) (fun c85 => ?_) (fun c85 => ?_)
              · refine z_iinc_2 (v := nI (tm + 1)) dX1_orderOfRenaming_90 rfl (zinc _) ?_
                refine z_goto (tgt := 22) dX1_orderOfRenaming_93 (by decide) ?_
                have K9 := (K (by simp only [X1_orderOfRenaming_L22_B, hR33, zlet_e, if_pos c85]))
                try simp only [X1_orderOfRenaming_L22_F, hR33, zlet_e, if_pos c85] at K9
                exact K9 _ _
              · refine z_iload_n dX1_orderOfRenaming_88 rfl rfl ?_
                exact z_ireturn dX1_orderOfRenaming_89 rfl rfl (Nat.le_refl _) (Nat.le_refl _) (fun _ => rfl) (Ko (nI tm, m3o) (by simp only [X1_orderOfRenaming_L22_B, hR33, zlet_e, if_neg c85]))
            · exact absurd (nI_le (Nat.le_refl _) (by omega)) c36
      · intro b a9 hz22
        exact ⟨by simp only [X1_orderOfRenaming_v, hR2, zlet_e, hz22, zpick_s], by simp only [X1_orderOfRenaming_c73, hR2, zlet_e, hz22, zpick_s]⟩
      · intro m2 hz22 hI
        intro y3 y4
        refine z_iload_n dX1_orderOfRenaming_22 rfl rfl ?_
        refine z_bipush (v := nI 12) dX1_orderOfRenaming_23 rfl (by decide) ?_
        refine z_icmp_ge (tgt := 96) dX1_orderOfRenaming_25 rfl (by decide) (fun c25 => ?_) (fun c25 => ?_)
        · refine z_bipush (v := nI 12) dX1_orderOfRenaming_96 rfl (by decide) ?_
          exact z_ireturn dX1_orderOfRenaming_98 rfl rfl (Nat.le_refl _) (Nat.le_refl _) (fun _ => rfl) ⟨by simp only [X1_orderOfRenaming_v, hR2, zlet_e, hz22, zpick_n], by simp only [X1_orderOfRenaming_c73, hR2, zlet_e, hz22, zpick_n]⟩
        · exact absurd (nI_le (Nat.le_refl _) (by omega)) c25
    · exact absurd (nI_le (Nat.le_refl _) (by omega)) c4
abbrev mX1_nextRenaming : zM := (cX1_nextRenaming, 6, none, RX1, wsX1_nextRenaming, "nextRenaming")
theorem hiX1_nextRenaming_X1 : ∀ w ∈ wsX10, w ∈ wsX1_nextRenaming := fun w h => List.mem_cons_of_mem _ (List.mem_append_right _ h)
theorem lkX1_nextRenaming_28 : Cond.fieldLink RX1 28 "ConfigSearch$Forms" "renaming" "[I" ∈ wsX1_nextRenaming := by decide +kernel
theorem okk_X1_exchange : zOk yX1_exchange 2 := by unfold zOk; decide +kernel
def X1_nextRenaming_L4_F (ren : Nat → Int32) (pts : Nat) (c : Nat) (a9 : Unit) : Unit := if (ren (pts - 1 - c - 1)) ≤ (ren ((pts - 1 - c - 1) + 1)) then () else ()
def X1_nextRenaming_L4_B (ren : Nat → Int32) (pts : Nat) (c : Nat) (a9 : Unit) : Option (Unit) := if (ren (pts - 1 - c - 1)) ≤ (ren ((pts - 1 - c - 1) + 1)) then (some ()) else none
def X1_nextRenaming_L40_F (ren : Nat → Int32) (pts : Nat) (ic : Nat) (e : Nat) (a9 : Unit) : Unit := if (ren (pts - 1 - ic - 1)) ≤ (ren (pts - 1 - e)) then () else ()
def X1_nextRenaming_L40_B (ren : Nat → Int32) (pts : Nat) (ic : Nat) (e : Nat) (a9 : Unit) : Option (Unit) := if (ren (pts - 1 - ic - 1)) ≤ (ren (pts - 1 - e)) then (some ()) else none
def X1_nextRenaming_L82_F (pts : Nat) (ic : Nat) (q : Nat) (a9 : (Nat → Int32)) : (Nat → Int32) := X1_exchange_c72 a9 (pts - 1 - ic - 1 + 1 + q) (pts - 1 - q)
def X1_nextRenaming_c72 (ren : Nat → Int32) (pts : Nat) : Nat → Int32 := zlet (zfoldX (X1_nextRenaming_L4_B ren pts) (X1_nextRenaming_L4_F ren pts) (pts - 1) 0 ()) (fun rr4 => if 0 ≤ (nI (pts - 1 - rr4.1) - nI 1) then (zlet (zfoldX (X1_nextRenaming_L40_B ren pts rr4.1) (X1_nextRenaming_L40_F ren pts rr4.1) (rr4.1 + 1) 0 ()) (fun rr40 => (zfold (X1_nextRenaming_L82_F pts rr4.1) ((rr4.1 + 1) / 2) 0 (X1_exchange_c72 ren (pts - 1 - rr4.1 - 1) (pts - 1 - rr40.1))))) else ren)
set_option maxRecDepth 100000 in
set_option maxHeartbeats 4000000 in
theorem c_X1_nextRenaming (G : zG) (ex : Bool) (g : Nat → va_E) (sd : Int32) (ren : Nat → Int32) (pts : Nat) (hp2 : 2 ≤ pts) (hp : pts ≤ 7) (h67 : g 67 = (oFrm G sd)) (h72 : g 72 = (zI G 7 ren)) : zC G yX1_nextRenaming wsX1_nextRenaming (zrm 1 23) ex [.ref (zB G + 67), .int (nI pts)] (zN, g) (fun r h => r = none ∧ h = (zN, zus g [(72, zI G 7 (X1_nextRenaming_c72 ren pts))])) := by
  refine zC_of mX1_nextRenaming (lv := [some (.ref (zB G + 67)), some (.int (nI pts)), none, none, none, none]) rfl rfl (by decide) (by intro v hv; simp at hv; rcases hv with rfl | rfl <;> rfl) (Nat.le_of_ble_eq_true rfl) rfl ?_
  refine z_0 ?_
  refine z_heap (g' := zu (zus g []) 72 (zI G 7 ren)) (zu_self (zus g []) 72 _ h72).symm ?_
  refine z_n (L' := [(72, (zI G 7 ren))]) rfl ?_
  refine z_iload_n dX1_nextRenaming_0 rfl rfl ?_
  refine z_iconst (v := nI 2) dX1_nextRenaming_1 rfl (by decide) ?_
  refine z_isub dX1_nextRenaming_2 rfl ?_
  refine z_top (show (nI pts) - (nI 2) = nI (pts - 2) from (zq_sub rfl rfl (by omega))) ?_
  refine z_istore_2 dX1_nextRenaming_3 rfl ?_
  rw [show nI (pts - 2) = nI (pts - 1 - 0) - nI 1 from by rw [pk_sub (show 1 ≤ pts - 1 - 0 by omega)]; exact congrArg nI (by omega)]
  refine z_forX (head := fun c (st9 : Unit) => Z G mX1_nextRenaming (zrm 1 23) ex _ 4 [some (.ref (zB G + 67)), some (.int (nI pts)), some (.int (nI (pts - 1 - c) - nI 1)), none, none, none] [] (zN, zus g [(72, (zI G 7 ren))]) 0 0) (out := fun c (st9 : Unit) => Z G mX1_nextRenaming (zrm 1 23) ex (fun r h => r = none ∧ h = (zN, zus g [(72, zI G 7 (X1_nextRenaming_c72 ren pts))])) 31 [some (.ref (zB G + 67)), some (.int (nI pts)), some (.int (nI (pts - 1 - c) - nI 1)), none, none, none] [] (zN, zus g [(72, (zI G 7 ren))]) 0 0) (B := (X1_nextRenaming_L4_B ren pts)) (F := (X1_nextRenaming_L4_F ren pts)) (n := pts - 1) (fun _ _ => True) (fun _ _ => True) (fun _ _ _ _ _ => trivial) (fun _ _ _ _ _ _ => trivial) (fun _ _ => trivial) ?_ ?_ (pts - 1) 0 () (by omega) trivial ?_
  · intro c _ hi _ Ko K
    refine z_iload_n dX1_nextRenaming_4 rfl rfl ?_
    refine z_if_lt (tgt := 31) dX1_nextRenaming_5 rfl (by decide) (fun c5 => ?_) (fun c5 => ?_)
    · exact absurd c5 (zm1_nlt (by omega) (by omega))
    · refine z_aload_n dX1_nextRenaming_8 rfl rfl ?_
      refine z_get dX1_nextRenaming_9 rfl hiX1_nextRenaming_X1 5 lkX1_nextRenaming_28 (Nat.le_of_ble_eq_true rfl) h67 rfl (by decide) rfl ?_
      refine z_iload_n dX1_nextRenaming_12 rfl rfl ?_
      refine z_ialdN (j := pts - 1 - c - 1) dX1_nextRenaming_13 rfl (Nat.le_of_ble_eq_true rfl) rfl ((zq_sub rfl rfl (by omega))) (by omega) (by decide) ?_
      refine z_aload_n dX1_nextRenaming_14 rfl rfl ?_
      refine z_get dX1_nextRenaming_15 rfl hiX1_nextRenaming_X1 5 lkX1_nextRenaming_28 (Nat.le_of_ble_eq_true rfl) h67 rfl (by decide) rfl ?_
      refine z_iload_n dX1_nextRenaming_18 rfl rfl ?_
      refine z_iconst (v := nI 1) dX1_nextRenaming_19 rfl (by decide) ?_
      refine z_iadd dX1_nextRenaming_20 rfl ?_
      refine z_ialdN (j := (pts - 1 - c - 1) + 1) dX1_nextRenaming_21 rfl (Nat.le_of_ble_eq_true rfl) rfl ((zq_add (zq_sub rfl rfl (by omega)) rfl)) (by omega) (by decide) ?_
      refine z_icmp_le (tgt := 31) dX1_nextRenaming_22 rfl (by decide) (fun c22 => ?_) (fun c22 => ?_)
      · exact Ko () (by simp only [X1_nextRenaming_L4_B, if_pos c22])
      · refine z_iinc_2 (v := nI (pts - 1 - (c + 1)) - nI 1) dX1_nextRenaming_25 rfl (zdec1 (by omega)) ?_
        refine z_goto (tgt := 4) dX1_nextRenaming_28 (by decide) ?_
        have K9 := (K (by simp only [X1_nextRenaming_L4_B, if_neg c22]))
        try simp only [X1_nextRenaming_L4_F, if_neg c22] at K9
        exact K9
  · intro _ _ K
    refine z_iload_n dX1_nextRenaming_4 rfl rfl ?_
    refine z_if_lt (tgt := 31) dX1_nextRenaming_5 rfl (by decide) (fun c5 => ?_) (fun c5 => ?_)
    · exact K
    · exact absurd (by rw [Nat.sub_self]; exact zm1_lt) c5
  · generalize hR4 : zfoldX (X1_nextRenaming_L4_B ren pts) (X1_nextRenaming_L4_F ren pts) (pts - 1) 0 () = r9
    obtain ⟨ic, _⟩ := r9
    intro hJ4 hle4
    refine z_iload_n dX1_nextRenaming_31 rfl rfl ?_
    refine z_if_ge (tgt := 36) dX1_nextRenaming_32 rfl (by decide) (fun c32 => ?_) (fun c32 => ?_)
    · have hic : 1 ≤ pts - 1 - ic := zm1_ge c32
      rw [show nI (pts - 1 - ic) - nI 1 = nI (pts - 1 - ic - 1) from pk_sub hic]
      refine z_iload_n dX1_nextRenaming_36 rfl rfl ?_
      refine z_iconst (v := nI 1) dX1_nextRenaming_37 rfl (by decide) ?_
      refine z_isub dX1_nextRenaming_38 rfl ?_
      refine z_top (show (nI pts) - (nI 1) = nI (pts - 1) from (zq_sub rfl rfl (by omega))) ?_
      refine z_istore_3 dX1_nextRenaming_39 rfl ?_
      refine z_forX (head := fun e (st9 : Unit) => Z G mX1_nextRenaming (zrm 1 23) ex _ 40 [some (.ref (zB G + 67)), some (.int (nI pts)), some (.int (nI (pts - 1 - ic - 1))), some (.int (nI (pts - 1 - e))), none, none] [] (zN, zus g [(72, (zI G 7 ren))]) 0 0) (out := fun e (st9 : Unit) => Z G mX1_nextRenaming (zrm 1 23) ex (fun r h => r = none ∧ h = (zN, zus g [(72, zI G 7 (X1_nextRenaming_c72 ren pts))])) 66 [some (.ref (zB G + 67)), some (.int (nI pts)), some (.int (nI (pts - 1 - ic - 1))), some (.int (nI (pts - 1 - e))), none, none] [] (zN, zus g [(72, (zI G 7 ren))]) 0 0) (B := (X1_nextRenaming_L40_B ren pts ic)) (F := (X1_nextRenaming_L40_F ren pts ic)) (n := ic + 1) (fun _ _ => True) (fun _ _ => True) (fun _ _ _ _ _ => trivial) (fun _ _ _ _ _ _ => trivial) (fun _ _ => trivial) ?_ ?_ (ic + 1) 0 () (by omega) trivial ?_
      · intro e _ hi _ Ko K
        refine z_iload_n dX1_nextRenaming_40 rfl rfl ?_
        refine z_iload_n dX1_nextRenaming_41 rfl rfl ?_
        refine z_icmp_le (tgt := 66) dX1_nextRenaming_42 rfl (by decide) (fun c42 => ?_) (fun c42 => ?_)
        · exact absurd c42 (nI_ge (by omega) (by omega))
        · refine z_aload_n dX1_nextRenaming_45 rfl rfl ?_
          refine z_get dX1_nextRenaming_46 rfl hiX1_nextRenaming_X1 5 lkX1_nextRenaming_28 (Nat.le_of_ble_eq_true rfl) h67 rfl (by decide) rfl ?_
          refine z_iload_n dX1_nextRenaming_49 rfl rfl ?_
          refine z_ialdN (j := pts - 1 - e) dX1_nextRenaming_50 rfl (Nat.le_of_ble_eq_true rfl) rfl (rfl) (by omega) (by decide) ?_
          refine z_aload_n dX1_nextRenaming_51 rfl rfl ?_
          refine z_get dX1_nextRenaming_52 rfl hiX1_nextRenaming_X1 5 lkX1_nextRenaming_28 (Nat.le_of_ble_eq_true rfl) h67 rfl (by decide) rfl ?_
          refine z_iload_n dX1_nextRenaming_55 rfl rfl ?_
          refine z_ialdN (j := pts - 1 - ic - 1) dX1_nextRenaming_56 rfl (Nat.le_of_ble_eq_true rfl) rfl (rfl) (by omega) (by decide) ?_
          refine z_icmp_ge (tgt := 66) dX1_nextRenaming_57 rfl (by decide) (fun c57 => ?_) (fun c57 => ?_)
          · exact Ko () (by simp only [X1_nextRenaming_L40_B, if_pos c57])
          · refine z_iinc_3 (v := nI (pts - 1 - (e + 1))) dX1_nextRenaming_60 rfl (zdecN (by omega)) ?_
            refine z_goto (tgt := 40) dX1_nextRenaming_63 (by decide) ?_
            have K9 := (K (by simp only [X1_nextRenaming_L40_B, if_neg c57]))
            try simp only [X1_nextRenaming_L40_F, if_neg c57] at K9
            exact K9
      · intro _ _ K
        refine z_iload_n dX1_nextRenaming_40 rfl rfl ?_
        refine z_iload_n dX1_nextRenaming_41 rfl rfl ?_
        refine z_icmp_le (tgt := 66) dX1_nextRenaming_42 rfl (by decide) (fun c42 => ?_) (fun c42 => ?_)
        · exact K
        · exact absurd (nI_le (by omega) (by omega)) c42
      · generalize hR40 : zfoldX (X1_nextRenaming_L40_B ren pts ic) (X1_nextRenaming_L40_F ren pts ic) (ic + 1) 0 () = r9
        obtain ⟨je, _⟩ := r9
        intro hJ40 hle40
        refine z_aload_n dX1_nextRenaming_66 rfl rfl ?_
        refine z_iload_n dX1_nextRenaming_67 rfl rfl ?_
        refine z_iload_n dX1_nextRenaming_68 rfl rfl ?_
        refine z_callVv (c_X1_exchange G ex _ sd ren (pts - 1 - ic - 1) (pts - 1 - je) (by omega) (by omega) h67 rfl) gX1_nextRenaming_X1_exchange rfl dX1_nextRenaming_69 rfl rfl rfl okk_X1_exchange (Nat.le_of_ble_eq_true rfl) h67 rfl ⟨Nat.le_of_ble_eq_true rfl, Nat.le_of_ble_eq_true rfl⟩ ⟨Nat.le_of_ble_eq_true rfl, Nat.le_of_ble_eq_true rfl⟩ (Nat.le_of_ble_eq_true rfl) ?_
        refine z_nn (L' := [(72, (zI G 7 (X1_exchange_c72 ren (pts - 1 - ic - 1) (pts - 1 - je))))]) rfl ?_
        refine z_iload_n dX1_nextRenaming_72 rfl rfl ?_
        refine z_iconst (v := nI 1) dX1_nextRenaming_73 rfl (by decide) ?_
        refine z_iadd dX1_nextRenaming_74 rfl ?_
        refine z_top (show (nI (pts - 1 - ic - 1)) + (nI 1) = nI ((pts - 1 - ic - 1) + 1) from (zq_add rfl rfl)) ?_
        refine z_istore_4 dX1_nextRenaming_75 rfl ?_
        refine z_iload_n dX1_nextRenaming_77 rfl rfl ?_
        refine z_iconst (v := nI 1) dX1_nextRenaming_78 rfl (by decide) ?_
        refine z_isub dX1_nextRenaming_79 rfl ?_
        refine z_top (show (nI pts) - (nI 1) = nI (pts - 1) from (zq_sub rfl rfl (by omega))) ?_
        refine z_istore_5 dX1_nextRenaming_80 rfl ?_
        refine z_forI (head := fun q (st9 : (Nat → Int32)) => Z G mX1_nextRenaming (zrm 1 23) ex _ 82 [some (.ref (zB G + 67)), some (.int (nI pts)), some (.int (nI (pts - 1 - ic - 1))), some (.int (nI (pts - 1 - je))), some (.int (nI (pts - 1 - ic - 1 + 1 + q))), some (.int (nI (pts - 1 - q)))] [] (zN, zus g [(72, (zI G 7 st9))]) 0 0) (F := (X1_nextRenaming_L82_F pts ic)) (n := (ic + 1) / 2) (fun _ _ => True) (fun _ _ _ _ => trivial) ?_ ((ic + 1) / 2) 0 (X1_exchange_c72 ren (pts - 1 - ic - 1) (pts - 1 - je)) (by omega) trivial ?_
        · intro q r2 hi _ K
          refine z_iload dX1_nextRenaming_82 rfl rfl ?_
          refine z_iload dX1_nextRenaming_84 rfl rfl ?_
          refine z_icmp_ge (tgt := 106) dX1_nextRenaming_86 rfl (by decide) (fun c86 => ?_) (fun c86 => ?_)
          · exact absurd c86 (nI_ge (by omega) (by omega))
          · refine z_aload_n dX1_nextRenaming_89 rfl rfl ?_
            refine z_iload dX1_nextRenaming_90 rfl rfl ?_
            refine z_iload dX1_nextRenaming_92 rfl rfl ?_
            refine z_callVv (c_X1_exchange G ex _ sd r2 (pts - 1 - ic - 1 + 1 + q) (pts - 1 - q) (by omega) (by omega) h67 rfl) gX1_nextRenaming_X1_exchange rfl dX1_nextRenaming_94 rfl rfl rfl okk_X1_exchange (Nat.le_of_ble_eq_true rfl) h67 rfl ⟨Nat.le_of_ble_eq_true rfl, Nat.le_of_ble_eq_true rfl⟩ ⟨Nat.le_of_ble_eq_true rfl, Nat.le_of_ble_eq_true rfl⟩ (Nat.le_of_ble_eq_true rfl) ?_
            refine z_nn (L' := [(72, (zI G 7 (X1_exchange_c72 r2 (pts - 1 - ic - 1 + 1 + q) (pts - 1 - q))))]) rfl ?_
            refine z_iinc_4 (v := nI (pts - 1 - ic - 1 + 1 + (q + 1))) dX1_nextRenaming_97 rfl (zinc _) ?_
            refine z_iinc_5 (v := nI (pts - 1 - (q + 1))) dX1_nextRenaming_100 rfl (zdecN (by omega)) ?_
            refine z_goto (tgt := 82) dX1_nextRenaming_103 (by decide) ?_
            exact K
        · intro _
          refine z_iload dX1_nextRenaming_82 rfl rfl ?_
          refine z_iload dX1_nextRenaming_84 rfl rfl ?_
          refine z_icmp_ge (tgt := 106) dX1_nextRenaming_86 rfl (by decide) (fun c86 => ?_) (fun c86 => ?_)
          · exact z_return dX1_nextRenaming_106 rfl (Nat.le_refl _) (Nat.le_refl _) (fun _ => rfl) ⟨rfl, by simp only [X1_nextRenaming_c72, hR4, zlet_e, if_pos c32, hR40, zlet_e]⟩
          · exact absurd (nI_le (by omega) (by omega)) c86
    · exact z_return dX1_nextRenaming_35 rfl (Nat.le_refl _) (Nat.le_refl _) (fun _ => rfl) ⟨rfl, by simp only [X1_nextRenaming_c72, hR4, zlet_e, if_neg c32]⟩
abbrev mX1_standsBeside : zM := (cX1_standsBeside, 4, (some .boolean), RX1, wsX1_standsBeside, "standsBeside")
theorem hiX1_standsBeside_X1 : ∀ w ∈ wsX10, w ∈ wsX1_standsBeside := fun w h => List.mem_cons_of_mem _ (List.mem_append_right _ h)
theorem lkX1_standsBeside_34 : Cond.fieldLink RX1 34 "ConfigSearch$Forms" "chosen" "[I" ∈ wsX1_standsBeside := by decide +kernel
theorem okk_J6_bitCount_0f7a4 : zOk yJ6_bitCount_0f7a4 1 := by unfold zOk; decide +kernel
def X1_standsBeside_L2_F (mk : Int32) (ch : Nat → Int32) (k : Nat) (a9 : Unit) : Unit := if (bcnt ((ch k) &&& mk)) ≤ (nI 1) then () else ()
def X1_standsBeside_L2_B (mk : Int32) (ch : Nat → Int32) (k : Nat) (a9 : Unit) : Option ((Int32)) := if (bcnt ((ch k) &&& mk)) ≤ (nI 1) then none else (some (nI 0))
def X1_standsBeside_v (mk : Int32) (ch : Nat → Int32) (dp : Nat) : Int32 := zpick (zfoldB (X1_standsBeside_L2_B mk ch) (X1_standsBeside_L2_F mk ch) dp 0 ()) (fun b => b) (fun am2 => nI 1)
set_option maxRecDepth 100000 in
set_option maxHeartbeats 4000000 in
theorem c_X1_standsBeside (G : zG) (ex : Bool) (g : Nat → va_E) (sd mk : Int32) (ch : Nat → Int32) (dp : Nat) (hd : dp ≤ 4) (h67 : g 67 = (oFrm G sd)) (h74 : g 74 = (zI G 4 ch)) : zC G yX1_standsBeside wsX1_standsBeside (zrm 1 20) ex [.ref (zB G + 67), .int mk, .int (nI dp)] (zN, g) (fun r h => r = some (.int (X1_standsBeside_v mk ch dp)) ∧ h = (zN, g)) := by
  refine zC_of mX1_standsBeside (lv := [some (.ref (zB G + 67)), some (.int mk), some (.int (nI dp)), none]) rfl rfl (by decide) (by intro v hv; simp at hv; rcases hv with rfl | rfl | rfl <;> rfl) (Nat.le_of_ble_eq_true rfl) rfl ?_
  refine z_0 ?_
  refine z_iconst (v := nI 0) dX1_standsBeside_0 rfl (by decide) ?_
  refine z_istore_3 dX1_standsBeside_1 rfl ?_
  refine z_forB (head := fun k (st9 : Unit) => Z G mX1_standsBeside (zrm 1 20) ex _ 2 [some (.ref (zB G + 67)), some (.int mk), some (.int (nI dp)), some (.int (nI k))] [] (zN, zus g []) 0 0) (out := fun b _ => (some (Value.int b) = some (Value.int (X1_standsBeside_v mk ch dp))) ∧ ((zN, zus g []) : zAH) = (zN, g)) (B := (X1_standsBeside_L2_B mk ch)) (F := (X1_standsBeside_L2_F mk ch)) (n := dp) (fun _ _ => True) (fun _ _ _ _ _ => trivial) ?_ dp 0 () (by omega) trivial ?_ ?_
  · intro k _ hi _ Ko K
    refine z_iload_n dX1_standsBeside_2 rfl rfl ?_
    refine z_iload_n dX1_standsBeside_3 rfl rfl ?_
    refine z_icmp_ge (tgt := 30) dX1_standsBeside_4 rfl (by decide) (fun c4 => ?_) (fun c4 => ?_)
    · exact absurd c4 (nI_ge hi (by omega))
    · refine z_aload_n dX1_standsBeside_7 rfl rfl ?_
      refine z_get dX1_standsBeside_8 rfl hiX1_standsBeside_X1 7 lkX1_standsBeside_34 (Nat.le_of_ble_eq_true rfl) h67 rfl (by decide) rfl ?_
      refine z_iload_n dX1_standsBeside_11 rfl rfl ?_
      refine z_ialdN (j := k) dX1_standsBeside_12 rfl (Nat.le_of_ble_eq_true rfl) h74 (rfl) (by omega) (by decide) ?_
      refine z_iload_n dX1_standsBeside_13 rfl rfl ?_
      refine z_iand dX1_standsBeside_14 rfl ?_
      refine z_callSi (c_bitCount G ex _ ((ch k) &&& mk)) gX1_standsBeside_J6_bitCount_0f7a4 rfl dX1_standsBeside_15 rfl rfl okk_J6_bitCount_0f7a4 ⟨Nat.le_of_ble_eq_true rfl, Nat.le_of_ble_eq_true rfl⟩ ⟨Nat.le_of_ble_eq_true rfl, Nat.le_of_ble_eq_true rfl⟩ (Nat.le_of_ble_eq_true rfl) ?_
      refine z_iconst (v := nI 1) dX1_standsBeside_18 rfl (by decide) ?_
      refine z_icmp_le (tgt := 24) dX1_standsBeside_19 rfl (by decide) (fun c19 => ?_) (fun c19 => ?_)
      · refine z_iinc_3 (v := nI (k + 1)) dX1_standsBeside_24 rfl (zinc _) ?_
        refine z_goto (tgt := 2) dX1_standsBeside_27 (by decide) ?_
        have K9 := (K (by simp only [X1_standsBeside_L2_B, if_pos c19]))
        try simp only [X1_standsBeside_L2_F, if_pos c19] at K9
        exact K9
      · refine z_iconst (v := nI 0) dX1_standsBeside_22 rfl (by decide) ?_
        exact z_ireturn dX1_standsBeside_23 rfl rfl (Nat.le_refl _) (Nat.le_refl _) (fun _ => rfl) (Ko (nI 0) (by simp only [X1_standsBeside_L2_B, if_neg c19]))
  · intro b a9 hz2
    exact ⟨by simp only [X1_standsBeside_v, hz2, zpick_s], rfl⟩
  · intro _ hz2 _
    refine z_iload_n dX1_standsBeside_2 rfl rfl ?_
    refine z_iload_n dX1_standsBeside_3 rfl rfl ?_
    refine z_icmp_ge (tgt := 30) dX1_standsBeside_4 rfl (by decide) (fun c4 => ?_) (fun c4 => ?_)
    · refine z_iconst (v := nI 1) dX1_standsBeside_30 rfl (by decide) ?_
      exact z_ireturn dX1_standsBeside_31 rfl rfl (Nat.le_refl _) (Nat.le_refl _) (fun _ => rfl) ⟨by simp only [X1_standsBeside_v, hz2, zpick_n], rfl⟩
    · exact absurd (nI_le (Nat.le_refl _) (by omega)) c4
abbrev mX1_isLeast : zM := (cX1_isLeast, 5, (some .boolean), RX1, wsX1_isLeast, "isLeast")
theorem okk_X1_startRenaming : zOk yX1_startRenaming 0 := by unfold zOk; decide +kernel
theorem okk_X1_factorial : zOk yX1_factorial 1 := by unfold zOk; decide +kernel
theorem hiX1_isLeast_X1 : ∀ w ∈ wsX10, w ∈ wsX1_isLeast := fun w h => List.mem_cons_of_mem _ (List.mem_append_right _ h)
theorem lkX1_isLeast_34 : Cond.fieldLink RX1 34 "ConfigSearch$Forms" "chosen" "[I" ∈ wsX1_isLeast := by decide +kernel
theorem okk_X1_rename : zOk yX1_rename 2 := by unfold zOk; decide +kernel
theorem lkX1_isLeast_25 : Cond.fieldLink RX1 25 "ConfigSearch$Forms" "image" "[I" ∈ wsX1_isLeast := by decide +kernel
theorem okk_X1_compareRows : zOk yX1_compareRows 3 := by unfold zOk; decide +kernel
theorem okk_X1_nextRenaming : zOk yX1_nextRenaming 1 := by unfold zOk; decide +kernel
def X1_isLeast_L12_F (ch : Nat → Int32) (n : Nat) (m : Nat) (r : Nat) (a9 : (Nat → Int32) × (Nat → Int32)) : (Nat → Int32) × (Nat → Int32) := if 0 ≤ (X1_compareRows_v m (X1_rename_c71_74 a9.2 a9.1 ch m) ch) then (X1_rename_c71_74 a9.2 a9.1 ch m, X1_nextRenaming_c72 a9.2 n) else (a9.1, a9.2)
def X1_isLeast_L12_B (ch : Nat → Int32) (m : Nat) (r : Nat) (a9 : (Nat → Int32) × (Nat → Int32)) : Option ((Int32) × (Nat → Int32) × (Nat → Int32)) := if 0 ≤ (X1_compareRows_v m (X1_rename_c71_74 a9.2 a9.1 ch m) ch) then none else (some (nI 0, X1_rename_c71_74 a9.2 a9.1 ch m, a9.2))
def X1_isLeast_v (ren im ch : Nat → Int32) (n m : Nat) : Int32 := zpick (zfoldB (X1_isLeast_L12_B ch m) (X1_isLeast_L12_F ch n m) (X1_factorial_n n) 0 (im, X1_startRenaming_c72 ren)) (fun b => b.1) (fun am12 => nI 1)
def X1_isLeast_c71 (ren im ch : Nat → Int32) (n m : Nat) : Nat → Int32 := zpick (zfoldB (X1_isLeast_L12_B ch m) (X1_isLeast_L12_F ch n m) (X1_factorial_n n) 0 (im, X1_startRenaming_c72 ren)) (fun b => b.2.1) (fun am12 => am12.1)
def X1_isLeast_c72 (ren im ch : Nat → Int32) (n m : Nat) : Nat → Int32 := zpick (zfoldB (X1_isLeast_L12_B ch m) (X1_isLeast_L12_F ch n m) (X1_factorial_n n) 0 (im, X1_startRenaming_c72 ren)) (fun b => b.2.2) (fun am12 => am12.2)
set_option maxRecDepth 100000 in
set_option maxHeartbeats 4000000 in
theorem c_X1_isLeast (G : zG) (ex : Bool) (g : Nat → va_E) (sd : Int32) (ren im ch : Nat → Int32) (n m : Nat) (hn2 : 2 ≤ n) (hn : n ≤ 7) (hm : m ≤ 4) (h67 : g 67 = (oFrm G sd)) (h72 : g 72 = (zI G 7 ren)) (h71 : g 71 = (zI G 12 im)) (h74 : g 74 = (zI G 4 ch)) : zC G yX1_isLeast wsX1_isLeast (zrm 2 49) ex [.ref (zB G + 67), .int (nI n), .int (nI m)] (zN, g) (fun r h => r = some (.int (X1_isLeast_v ren im ch n m)) ∧ h = (zN, zus g [(71, zI G 12 (X1_isLeast_c71 ren im ch n m)), (72, zI G 7 (X1_isLeast_c72 ren im ch n m))])) := by
  refine zC_of mX1_isLeast (lv := [some (.ref (zB G + 67)), some (.int (nI n)), some (.int (nI m)), none, none]) rfl rfl (by decide) (by intro v hv; simp at hv; rcases hv with rfl | rfl | rfl <;> rfl) (Nat.le_of_ble_eq_true rfl) rfl ?_
  refine z_0 ?_
  refine z_heap (g' := zu (zus g []) 71 (zI G 12 im)) (zu_self (zus g []) 71 _ h71).symm ?_
  refine z_n (L' := [(71, (zI G 12 im))]) rfl ?_
  refine z_heap (g' := zu (zus g [(71, (zI G 12 im))]) 72 (zI G 7 ren)) (zu_self (zus g [(71, (zI G 12 im))]) 72 _ h72).symm ?_
  refine z_n (L' := [(71, (zI G 12 im)), (72, (zI G 7 ren))]) rfl ?_
  refine z_aload_n dX1_isLeast_0 rfl rfl ?_
  refine z_callVv (c_X1_startRenaming G ex _ sd ren h67 rfl) gX1_isLeast_X1_startRenaming rfl dX1_isLeast_1 rfl rfl rfl okk_X1_startRenaming (Nat.le_of_ble_eq_true rfl) h67 rfl ⟨Nat.le_of_ble_eq_true rfl, Nat.le_of_ble_eq_true rfl⟩ ⟨Nat.le_of_ble_eq_true rfl, Nat.le_of_ble_eq_true rfl⟩ (Nat.le_of_ble_eq_true rfl) ?_
  refine z_nn (L' := [(71, (zI G 12 im)), (72, (zI G 7 (X1_startRenaming_c72 ren)))]) rfl ?_
  refine z_iload_n dX1_isLeast_4 rfl rfl ?_
  refine z_callSi (c_X1_factorial G ex _ n (by omega) (by omega)) gX1_isLeast_X1_factorial rfl dX1_isLeast_5 rfl rfl okk_X1_factorial ⟨Nat.le_of_ble_eq_true rfl, Nat.le_of_ble_eq_true rfl⟩ ⟨Nat.le_of_ble_eq_true rfl, Nat.le_of_ble_eq_true rfl⟩ (Nat.le_of_ble_eq_true rfl) ?_
  have hfac : X1_factorial_n n ≤ 5040 := fac_le n (by omega)
  refine z_istore_3 dX1_isLeast_8 rfl ?_
  refine z_iconst (v := nI 0) dX1_isLeast_9 rfl (by decide) ?_
  refine z_istore_4 dX1_isLeast_10 rfl ?_
  refine z_forB (head := fun r (st9 : (Nat → Int32) × (Nat → Int32)) => Z G mX1_isLeast (zrm 2 49) ex _ 12 [some (.ref (zB G + 67)), some (.int (nI n)), some (.int (nI m)), some (.int (nI (X1_factorial_n n))), some (.int (nI r))] [] (zN, zus g [(71, (zI G 12 st9.1)), (72, (zI G 7 st9.2))]) 0 0) (out := fun b _ => (some (Value.int b.1) = some (Value.int (X1_isLeast_v ren im ch n m))) ∧ ((zN, zus g [(71, (zI G 12 b.2.1)), (72, (zI G 7 b.2.2))]) : zAH) = (zN, zus g [(71, zI G 12 (X1_isLeast_c71 ren im ch n m)), (72, zI G 7 (X1_isLeast_c72 ren im ch n m))])) (B := (X1_isLeast_L12_B ch m)) (F := (X1_isLeast_L12_F ch n m)) (n := X1_factorial_n n) (fun _ _ => True) (fun _ _ _ _ _ => trivial) ?_ (X1_factorial_n n) 0 (im, X1_startRenaming_c72 ren) (by omega) trivial ?_ ?_
  · intro r a9 hi _ Ko K
    obtain ⟨im1, re1⟩ := a9
    refine z_iload dX1_isLeast_12 rfl rfl ?_
    refine z_iload_n dX1_isLeast_14 rfl rfl ?_
    refine z_icmp_ge (tgt := 55) dX1_isLeast_15 rfl (by decide) (fun c15 => ?_) (fun c15 => ?_)
    · exact absurd c15 (nI_ge hi (by omega))
    · refine z_aload_n dX1_isLeast_18 rfl rfl ?_
      refine z_aload_n dX1_isLeast_19 rfl rfl ?_
      refine z_get dX1_isLeast_20 rfl hiX1_isLeast_X1 7 lkX1_isLeast_34 (Nat.le_of_ble_eq_true rfl) h67 rfl (by decide) rfl ?_
      refine z_iload_n dX1_isLeast_23 rfl rfl ?_
      refine z_callVv (c_X1_rename_74 G ex _ sd re1 im1 ch m (by omega) h67 rfl rfl h74) gX1_isLeast_X1_rename rfl dX1_isLeast_24 rfl rfl rfl okk_X1_rename (Nat.le_of_ble_eq_true rfl) h67 rfl ⟨Nat.le_of_ble_eq_true rfl, Nat.le_of_ble_eq_true rfl⟩ ⟨Nat.le_of_ble_eq_true rfl, Nat.le_of_ble_eq_true rfl⟩ (Nat.le_of_ble_eq_true rfl) ?_
      refine z_nn (L' := [(71, (zI G 12 (X1_rename_c71_74 re1 im1 ch m))), (72, (zI G 7 re1))]) rfl ?_
      refine z_aload_n dX1_isLeast_27 rfl rfl ?_
      refine z_get dX1_isLeast_28 rfl hiX1_isLeast_X1 4 lkX1_isLeast_25 (Nat.le_of_ble_eq_true rfl) h67 rfl (by decide) rfl ?_
      refine z_aload_n dX1_isLeast_31 rfl rfl ?_
      refine z_get dX1_isLeast_32 rfl hiX1_isLeast_X1 7 lkX1_isLeast_34 (Nat.le_of_ble_eq_true rfl) h67 rfl (by decide) rfl ?_
      refine z_iload_n dX1_isLeast_35 rfl rfl ?_
      refine z_callSi (c_X1_compareRows G ex _ 71 74 12 4 m (X1_rename_c71_74 re1 im1 ch m) ch (Nat.le_of_ble_eq_true rfl) (Nat.le_of_ble_eq_true rfl) (by omega) (by omega) (by omega) (by omega) rfl h74) gX1_isLeast_X1_compareRows rfl dX1_isLeast_36 rfl rfl okk_X1_compareRows ⟨Nat.le_of_ble_eq_true rfl, Nat.le_of_ble_eq_true rfl⟩ ⟨Nat.le_of_ble_eq_true rfl, Nat.le_of_ble_eq_true rfl⟩ (Nat.le_of_ble_eq_true rfl) ?_
      refine z_if_ge (tgt := 44) dX1_isLeast_39 rfl (by decide) (fun c39 => ?_) (fun c39 => ?_)
      · refine z_aload_n dX1_isLeast_44 rfl rfl ?_
        refine z_iload_n dX1_isLeast_45 rfl rfl ?_
        refine z_callVv (c_X1_nextRenaming G ex _ sd re1 n (by omega) (by omega) h67 rfl) gX1_isLeast_X1_nextRenaming rfl dX1_isLeast_46 rfl rfl rfl okk_X1_nextRenaming (Nat.le_of_ble_eq_true rfl) h67 rfl ⟨Nat.le_of_ble_eq_true rfl, Nat.le_of_ble_eq_true rfl⟩ ⟨Nat.le_of_ble_eq_true rfl, Nat.le_of_ble_eq_true rfl⟩ (Nat.le_of_ble_eq_true rfl) ?_
        refine z_nn (L' := [(71, (zI G 12 (X1_rename_c71_74 re1 im1 ch m))), (72, (zI G 7 (X1_nextRenaming_c72 re1 n)))]) rfl ?_
        refine z_iinc_4 (v := nI (r + 1)) dX1_isLeast_49 rfl (zinc _) ?_
        refine z_goto (tgt := 12) dX1_isLeast_52 (by decide) ?_
        have K9 := (K (by simp only [X1_isLeast_L12_B, if_pos c39]))
        try simp only [X1_isLeast_L12_F, if_pos c39] at K9
        exact K9
      · refine z_iconst (v := nI 0) dX1_isLeast_42 rfl (by decide) ?_
        exact z_ireturn dX1_isLeast_43 rfl rfl (Nat.le_refl _) (Nat.le_refl _) (fun _ => rfl) (Ko (nI 0, X1_rename_c71_74 re1 im1 ch m, re1) (by simp only [X1_isLeast_L12_B, if_neg c39]))
  · intro b a9 hz12
    exact ⟨by simp only [X1_isLeast_v, hz12, zpick_s], by simp only [X1_isLeast_c71, X1_isLeast_c72, hz12, zpick_s]⟩
  · intro a9 hz12 _
    obtain ⟨im1, re1⟩ := a9
    refine z_iload dX1_isLeast_12 rfl rfl ?_
    refine z_iload_n dX1_isLeast_14 rfl rfl ?_
    refine z_icmp_ge (tgt := 55) dX1_isLeast_15 rfl (by decide) (fun c15 => ?_) (fun c15 => ?_)
    · refine z_iconst (v := nI 1) dX1_isLeast_55 rfl (by decide) ?_
      exact z_ireturn dX1_isLeast_56 rfl rfl (Nat.le_refl _) (Nat.le_refl _) (fun _ => rfl) ⟨by simp only [X1_isLeast_v, hz12, zpick_n], by simp only [X1_isLeast_c71, X1_isLeast_c72, hz12, zpick_n]⟩
    · exact absurd (nI_le (Nat.le_refl _) (by omega)) c15
abbrev mX1_leastFrom : zM := (cX1_leastFrom, 7, (some .int), RX1, wsX1_leastFrom, "leastFrom")
theorem okk_X1_isLeast : zOk yX1_isLeast 2 := by unfold zOk; decide +kernel
def X1_leastFrom_n_4 (ren im ch : Nat → Int32) (n m : Nat) : Nat := if (nI m) ≤ (nI 4) then (if (X1_isLeast_v ren im ch n m) = 0 then 0 else 1) else (if (X1_isLeast_v ren im ch n m) = 0 then 0 else 1)
def X1_leastFrom_c71_4 (ren im ch : Nat → Int32) (n m : Nat) : Nat → Int32 := if (nI m) ≤ (nI 4) then (if (X1_isLeast_v ren im ch n m) = 0 then (X1_isLeast_c71 ren im ch n m) else (X1_isLeast_c71 ren im ch n m)) else (if (X1_isLeast_v ren im ch n m) = 0 then (X1_isLeast_c71 ren im ch n m) else (X1_isLeast_c71 ren im ch n m))
def X1_leastFrom_c72_4 (ren im ch : Nat → Int32) (n m : Nat) : Nat → Int32 := if (nI m) ≤ (nI 4) then (if (X1_isLeast_v ren im ch n m) = 0 then (X1_isLeast_c72 ren im ch n m) else (X1_isLeast_c72 ren im ch n m)) else (if (X1_isLeast_v ren im ch n m) = 0 then (X1_isLeast_c72 ren im ch n m) else (X1_isLeast_c72 ren im ch n m))
set_option maxRecDepth 100000 in
set_option maxHeartbeats 4000000 in
theorem c_X1_leastFrom_4 (G : zG) (ex : Bool) (g : Nat → va_E) (sd : Int32) (ren im ch : Nat → Int32) (lo n m : Nat) (hn2 : 2 ≤ n) (hn : n ≤ 6) (hm : m ≤ 4) (hlo : lo ≤ 2 ^ n) (h67 : g 67 = (oFrm G sd)) (h72 : g 72 = (zI G 7 ren)) (h71 : g 71 = (zI G 12 im)) (h74 : g 74 = (zI G 4 ch)) : zC G yX1_leastFrom wsX1_leastFrom (zrm 3 73) ex [.ref (zB G + 67), .int (nI 4), .int (nI lo), .int (nI n), .int (nI m)] (zN, g) (fun r h => r = some (.int (nI (X1_leastFrom_n_4 ren im ch n m))) ∧ h = (zN, zus g [(71, zI G 12 (X1_leastFrom_c71_4 ren im ch n m)), (72, zI G 7 (X1_leastFrom_c72_4 ren im ch n m))])) := by
  refine zC_of mX1_leastFrom (lv := [some (.ref (zB G + 67)), some (.int (nI 4)), some (.int (nI lo)), some (.int (nI n)), some (.int (nI m)), none, none]) rfl rfl (by decide) (by intro v hv; simp at hv; rcases hv with rfl | rfl | rfl | rfl | rfl <;> rfl) (Nat.le_of_ble_eq_true rfl) rfl ?_
  refine z_0 ?_
  refine z_heap (g' := zu (zus g []) 71 (zI G 12 im)) (zu_self (zus g []) 71 _ h71).symm ?_
  refine z_n (L' := [(71, (zI G 12 im))]) rfl ?_
  refine z_heap (g' := zu (zus g [(71, (zI G 12 im))]) 72 (zI G 7 ren)) (zu_self (zus g [(71, (zI G 12 im))]) 72 _ h72).symm ?_
  refine z_n (L' := [(71, (zI G 12 im)), (72, (zI G 7 ren))]) rfl ?_
  refine z_iload_n dX1_leastFrom_0 rfl rfl ?_
  refine z_iload dX1_leastFrom_1 rfl rfl ?_
  refine z_icmp_ge (tgt := 11) dX1_leastFrom_3 rfl (by decide) (fun c3 => ?_) (fun c3 => ?_)
  · refine z_aload_n dX1_leastFrom_11 rfl rfl ?_
    refine z_iload_n dX1_leastFrom_12 rfl rfl ?_
    refine z_iload dX1_leastFrom_13 rfl rfl ?_
    refine z_callVi (c_X1_isLeast G ex _ sd ren im ch n m (by omega) (by omega) (by omega) h67 rfl rfl h74) gX1_leastFrom_X1_isLeast rfl dX1_leastFrom_15 rfl rfl rfl okk_X1_isLeast (Nat.le_of_ble_eq_true rfl) h67 rfl ⟨Nat.le_of_ble_eq_true rfl, Nat.le_of_ble_eq_true rfl⟩ ⟨Nat.le_of_ble_eq_true rfl, Nat.le_of_ble_eq_true rfl⟩ (Nat.le_of_ble_eq_true rfl) ?_
    refine z_nn (L' := [(71, (zI G 12 (X1_isLeast_c71 ren im ch n m))), (72, (zI G 7 (X1_isLeast_c72 ren im ch n m)))]) rfl ?_
    refine z_if_eq (tgt := 25) dX1_leastFrom_18 rfl (by decide) (fun c18 => ?_) (fun c18 => ?_)
    · refine z_iconst (v := nI 0) dX1_leastFrom_25 rfl (by decide) ?_
      exact z_ireturn dX1_leastFrom_26 rfl rfl (Nat.le_refl _) (Nat.le_refl _) (fun _ => rfl) ⟨by simp only [X1_leastFrom_n_4, if_pos c3, if_pos c18], by simp only [X1_leastFrom_c71_4, X1_leastFrom_c72_4, if_pos c3, if_pos c18]⟩
    · refine z_iconst (v := nI 1) dX1_leastFrom_21 rfl (by decide) ?_
      refine z_goto (tgt := 26) dX1_leastFrom_22 (by decide) ?_
      exact z_ireturn dX1_leastFrom_26 rfl rfl (Nat.le_refl _) (Nat.le_refl _) (fun _ => rfl) ⟨by simp only [X1_leastFrom_n_4, if_pos c3, if_neg c18], by simp only [X1_leastFrom_c71_4, X1_leastFrom_c72_4, if_pos c3, if_neg c18]⟩
  · refine z_iload_n dX1_leastFrom_6 rfl rfl ?_
    refine z_iconst (v := nI 4) dX1_leastFrom_7 rfl (by decide) ?_
    refine z_icmp_lt (tgt := 27) dX1_leastFrom_8 rfl (by decide) (fun c8 => ?_) (fun c8 => ?_)
    · exact absurd c8 (by decide)
    · refine z_aload_n dX1_leastFrom_11 rfl rfl ?_
      refine z_iload_n dX1_leastFrom_12 rfl rfl ?_
      refine z_iload dX1_leastFrom_13 rfl rfl ?_
      refine z_callVi (c_X1_isLeast G ex _ sd ren im ch n m (by omega) (by omega) (by omega) h67 rfl rfl h74) gX1_leastFrom_X1_isLeast rfl dX1_leastFrom_15 rfl rfl rfl okk_X1_isLeast (Nat.le_of_ble_eq_true rfl) h67 rfl ⟨Nat.le_of_ble_eq_true rfl, Nat.le_of_ble_eq_true rfl⟩ ⟨Nat.le_of_ble_eq_true rfl, Nat.le_of_ble_eq_true rfl⟩ (Nat.le_of_ble_eq_true rfl) ?_
      refine z_nn (L' := [(71, (zI G 12 (X1_isLeast_c71 ren im ch n m))), (72, (zI G 7 (X1_isLeast_c72 ren im ch n m)))]) rfl ?_
      refine z_if_eq (tgt := 25) dX1_leastFrom_18 rfl (by decide) (fun c18 => ?_) (fun c18 => ?_)
      · refine z_iconst (v := nI 0) dX1_leastFrom_25 rfl (by decide) ?_
        exact z_ireturn dX1_leastFrom_26 rfl rfl (Nat.le_refl _) (Nat.le_refl _) (fun _ => rfl) ⟨by simp only [X1_leastFrom_n_4, if_neg c3, if_pos c18], by simp only [X1_leastFrom_c71_4, X1_leastFrom_c72_4, if_neg c3, if_pos c18]⟩
      · refine z_iconst (v := nI 1) dX1_leastFrom_21 rfl (by decide) ?_
        refine z_goto (tgt := 26) dX1_leastFrom_22 (by decide) ?_
        exact z_ireturn dX1_leastFrom_26 rfl rfl (Nat.le_refl _) (Nat.le_refl _) (fun _ => rfl) ⟨by simp only [X1_leastFrom_n_4, if_neg c3, if_neg c18], by simp only [X1_leastFrom_c71_4, X1_leastFrom_c72_4, if_neg c3, if_neg c18]⟩
theorem okk_X1_standsBeside : zOk yX1_standsBeside 2 := by unfold zOk; decide +kernel
theorem hiX1_leastFrom_X1 : ∀ w ∈ wsX10, w ∈ wsX1_leastFrom := fun w h => List.mem_cons_of_mem _ (List.mem_append_right _ h)
theorem lkX1_leastFrom_34 : Cond.fieldLink RX1 34 "ConfigSearch$Forms" "chosen" "[I" ∈ wsX1_leastFrom := by decide +kernel
theorem okk_X1_leastFrom : zOk yX1_leastFrom 4 := by unfold zOk; decide +kernel
def X1_leastFrom_L33_3_F (n : Nat) (m : Nat) (mk : Nat) (a9 : (Int32) × (Nat → Int32) × (Nat → Int32) × (Nat → Int32)) : (Int32) × (Nat → Int32) × (Nat → Int32) × (Nat → Int32) := if (bcnt (nI mk)) = (nI 3) then (if (X1_standsBeside_v (nI mk) a9.2.2.2 3) = 0 then (a9.1, a9.2.1, a9.2.2.1, a9.2.2.2) else (a9.1 + (nI (X1_leastFrom_n_4 a9.2.2.1 a9.2.1 (upd a9.2.2.2 3 (nI mk)) n m)), X1_leastFrom_c71_4 a9.2.2.1 a9.2.1 (upd a9.2.2.2 3 (nI mk)) n m, X1_leastFrom_c72_4 a9.2.2.1 a9.2.1 (upd a9.2.2.2 3 (nI mk)) n m, upd a9.2.2.2 3 (nI mk))) else (a9.1, a9.2.1, a9.2.2.1, a9.2.2.2)
def X1_leastFrom_v_3 (ren im ch : Nat → Int32) (lo n m : Nat) : Int32 := if (nI m) ≤ (nI 3) then (if (X1_isLeast_v ren im ch n m) = 0 then (nI 0) else (nI 1)) else (zlet (zfold (X1_leastFrom_L33_3_F n m) ((2 ^ n) - lo) lo (nI 0, im, ren, ch)) (fun rr33 => rr33.1))
def X1_leastFrom_c71_3 (ren im ch : Nat → Int32) (lo n m : Nat) : Nat → Int32 := if (nI m) ≤ (nI 3) then (if (X1_isLeast_v ren im ch n m) = 0 then (X1_isLeast_c71 ren im ch n m) else (X1_isLeast_c71 ren im ch n m)) else (zlet (zfold (X1_leastFrom_L33_3_F n m) ((2 ^ n) - lo) lo (nI 0, im, ren, ch)) (fun rr33 => rr33.2.1))
def X1_leastFrom_c72_3 (ren im ch : Nat → Int32) (lo n m : Nat) : Nat → Int32 := if (nI m) ≤ (nI 3) then (if (X1_isLeast_v ren im ch n m) = 0 then (X1_isLeast_c72 ren im ch n m) else (X1_isLeast_c72 ren im ch n m)) else (zlet (zfold (X1_leastFrom_L33_3_F n m) ((2 ^ n) - lo) lo (nI 0, im, ren, ch)) (fun rr33 => rr33.2.2.1))
def X1_leastFrom_c74_3 (ren im ch : Nat → Int32) (lo n m : Nat) : Nat → Int32 := if (nI m) ≤ (nI 3) then (if (X1_isLeast_v ren im ch n m) = 0 then ch else ch) else (zlet (zfold (X1_leastFrom_L33_3_F n m) ((2 ^ n) - lo) lo (nI 0, im, ren, ch)) (fun rr33 => rr33.2.2.2))
set_option maxRecDepth 100000 in
set_option maxHeartbeats 4000000 in
theorem c_X1_leastFrom_3 (G : zG) (ex : Bool) (g : Nat → va_E) (sd : Int32) (ren im ch : Nat → Int32) (lo n m : Nat) (hn2 : 2 ≤ n) (hn : n ≤ 6) (hm : m ≤ 4) (hlo : lo ≤ 2 ^ n) (h67 : g 67 = (oFrm G sd)) (h72 : g 72 = (zI G 7 ren)) (h71 : g 71 = (zI G 12 im)) (h74 : g 74 = (zI G 4 ch)) : zC G yX1_leastFrom wsX1_leastFrom (zrm 4 99) ex [.ref (zB G + 67), .int (nI 3), .int (nI lo), .int (nI n), .int (nI m)] (zN, g) (fun r h => r = some (.int (X1_leastFrom_v_3 ren im ch lo n m)) ∧ h = (zN, zus g [(71, zI G 12 (X1_leastFrom_c71_3 ren im ch lo n m)), (72, zI G 7 (X1_leastFrom_c72_3 ren im ch lo n m)), (74, zI G 4 (X1_leastFrom_c74_3 ren im ch lo n m))])) := by
  refine zC_of mX1_leastFrom (lv := [some (.ref (zB G + 67)), some (.int (nI 3)), some (.int (nI lo)), some (.int (nI n)), some (.int (nI m)), none, none]) rfl rfl (by decide) (by intro v hv; simp at hv; rcases hv with rfl | rfl | rfl | rfl | rfl <;> rfl) (Nat.le_of_ble_eq_true rfl) rfl ?_
  refine z_0 ?_
  refine z_heap (g' := zu (zus g []) 71 (zI G 12 im)) (zu_self (zus g []) 71 _ h71).symm ?_
  refine z_n (L' := [(71, (zI G 12 im))]) rfl ?_
  refine z_heap (g' := zu (zus g [(71, (zI G 12 im))]) 72 (zI G 7 ren)) (zu_self (zus g [(71, (zI G 12 im))]) 72 _ h72).symm ?_
  refine z_n (L' := [(71, (zI G 12 im)), (72, (zI G 7 ren))]) rfl ?_
  refine z_heap (g' := zu (zus g [(71, (zI G 12 im)), (72, (zI G 7 ren))]) 74 (zI G 4 ch)) (zu_self (zus g [(71, (zI G 12 im)), (72, (zI G 7 ren))]) 74 _ h74).symm ?_
  refine z_n (L' := [(71, (zI G 12 im)), (72, (zI G 7 ren)), (74, (zI G 4 ch))]) rfl ?_
  refine z_iload_n dX1_leastFrom_0 rfl rfl ?_
  refine z_iload dX1_leastFrom_1 rfl rfl ?_
  refine z_icmp_ge (tgt := 11) dX1_leastFrom_3 rfl (by decide) (fun c3 => ?_) (fun c3 => ?_)
  · refine z_aload_n dX1_leastFrom_11 rfl rfl ?_
    refine z_iload_n dX1_leastFrom_12 rfl rfl ?_
    refine z_iload dX1_leastFrom_13 rfl rfl ?_
    refine z_callVi (c_X1_isLeast G ex _ sd ren im ch n m (by omega) (by omega) (by omega) h67 rfl rfl rfl) gX1_leastFrom_X1_isLeast rfl dX1_leastFrom_15 rfl rfl rfl okk_X1_isLeast (Nat.le_of_ble_eq_true rfl) h67 rfl ⟨Nat.le_of_ble_eq_true rfl, Nat.le_of_ble_eq_true rfl⟩ ⟨Nat.le_of_ble_eq_true rfl, Nat.le_of_ble_eq_true rfl⟩ (Nat.le_of_ble_eq_true rfl) ?_
    refine z_nn (L' := [(71, (zI G 12 (X1_isLeast_c71 ren im ch n m))), (72, (zI G 7 (X1_isLeast_c72 ren im ch n m))), (74, (zI G 4 ch))]) rfl ?_
    refine z_if_eq (tgt := 25) dX1_leastFrom_18 rfl (by decide) (fun c18 => ?_) (fun c18 => ?_)
    · refine z_iconst (v := nI 0) dX1_leastFrom_25 rfl (by decide) ?_
      exact z_ireturn dX1_leastFrom_26 rfl rfl (Nat.le_refl _) (Nat.le_refl _) (fun _ => rfl) ⟨by simp only [X1_leastFrom_v_3, if_pos c3, if_pos c18], by simp only [X1_leastFrom_c71_3, X1_leastFrom_c72_3, X1_leastFrom_c74_3, if_pos c3, if_pos c18]⟩
    · refine z_iconst (v := nI 1) dX1_leastFrom_21 rfl (by decide) ?_
      refine z_goto (tgt := 26) dX1_leastFrom_22 (by decide) ?_
      exact z_ireturn dX1_leastFrom_26 rfl rfl (Nat.le_refl _) (Nat.le_refl _) (fun _ => rfl) ⟨by simp only [X1_leastFrom_v_3, if_pos c3, if_neg c18], by simp only [X1_leastFrom_c71_3, X1_leastFrom_c72_3, X1_leastFrom_c74_3, if_pos c3, if_neg c18]⟩
  · refine z_iload_n dX1_leastFrom_6 rfl rfl ?_
    refine z_iconst (v := nI 4) dX1_leastFrom_7 rfl (by decide) ?_
    refine z_icmp_lt (tgt := 27) dX1_leastFrom_8 rfl (by decide) (fun c8 => ?_) (fun c8 => ?_)
    · have hp6 : 2 ^ n ≤ 64 := pow6 hn
      refine z_iconst (v := nI 0) dX1_leastFrom_27 rfl (by decide) ?_
      refine z_istore_5 dX1_leastFrom_28 rfl ?_
      refine z_iload_n dX1_leastFrom_30 rfl rfl ?_
      refine z_istore_6 dX1_leastFrom_31 rfl ?_
      refine z_forI (head := fun mk (st9 : (Int32) × (Nat → Int32) × (Nat → Int32) × (Nat → Int32)) => Z G mX1_leastFrom (zrm 4 99) ex _ 33 [some (.ref (zB G + 67)), some (.int (nI 3)), some (.int (nI lo)), some (.int (nI n)), some (.int (nI m)), some (.int st9.1), some (.int (nI mk))] [] (zN, zus g [(71, (zI G 12 st9.2.1)), (72, (zI G 7 st9.2.2.1)), (74, (zI G 4 st9.2.2.2))]) 0 0) (F := (X1_leastFrom_L33_3_F n m)) (n := 2 ^ n) (fun _ _ => True) (fun _ _ _ _ => trivial) ?_ ((2 ^ n) - lo) lo (nI 0, im, ren, ch) (by omega) trivial ?_
      · intro mk a9 hi _ K
        obtain ⟨tot, im1, re1, ch1⟩ := a9
        refine z_iload dX1_leastFrom_33 rfl rfl ?_
        refine z_iconst (v := nI 1) dX1_leastFrom_35 rfl (by decide) ?_
        refine z_iload_n dX1_leastFrom_36 rfl rfl ?_
        refine z_ishl dX1_leastFrom_37 rfl ?_
        refine z_icmp_ge (tgt := 93) dX1_leastFrom_38 rfl (by decide) (fun c38 => ?_) (fun c38 => ?_)
        · exact absurd c38 (by rw [shl1N n (by omega)]; exact nI_ge hi (by omega))
        · refine z_iload dX1_leastFrom_41 rfl rfl ?_
          refine z_callSi (c_bitCount G ex _ (nI mk)) gX1_leastFrom_J6_bitCount_0f7a4 rfl dX1_leastFrom_43 rfl rfl okk_J6_bitCount_0f7a4 ⟨Nat.le_of_ble_eq_true rfl, Nat.le_of_ble_eq_true rfl⟩ ⟨Nat.le_of_ble_eq_true rfl, Nat.le_of_ble_eq_true rfl⟩ (Nat.le_of_ble_eq_true rfl) ?_
          refine z_iconst (v := nI 3) dX1_leastFrom_46 rfl (by decide) ?_
          refine z_icmp_ne (tgt := 87) dX1_leastFrom_47 rfl (by decide) (fun c47 => ?_) (fun c47 => ?_)
          · refine z_iinc_6 (v := nI (mk + 1)) dX1_leastFrom_87 rfl (zinc _) ?_
            refine z_goto (tgt := 33) dX1_leastFrom_90 (by decide) ?_
            have K9 := K
            try simp only [X1_leastFrom_L33_3_F, if_neg c47] at K9
            exact K9
          · refine z_aload_n dX1_leastFrom_50 rfl rfl ?_
            refine z_iload dX1_leastFrom_51 rfl rfl ?_
            refine z_iload_n dX1_leastFrom_53 rfl rfl ?_
            refine z_callVi (c_X1_standsBeside G ex _ sd (nI mk) ch1 3 (by omega) h67 rfl) gX1_leastFrom_X1_standsBeside rfl dX1_leastFrom_54 rfl rfl rfl okk_X1_standsBeside (Nat.le_of_ble_eq_true rfl) h67 rfl ⟨Nat.le_of_ble_eq_true rfl, Nat.le_of_ble_eq_true rfl⟩ ⟨Nat.le_of_ble_eq_true rfl, Nat.le_of_ble_eq_true rfl⟩ (Nat.le_of_ble_eq_true rfl) ?_
            refine z_if_eq (tgt := 87) dX1_leastFrom_57 rfl (by decide) (fun c57 => ?_) (fun c57 => ?_)
            · refine z_iinc_6 (v := nI (mk + 1)) dX1_leastFrom_87 rfl (zinc _) ?_
              refine z_goto (tgt := 33) dX1_leastFrom_90 (by decide) ?_
              have K9 := K
              try simp only [X1_leastFrom_L33_3_F, if_pos c47, if_pos c57] at K9
              exact K9
            · refine z_aload_n dX1_leastFrom_60 rfl rfl ?_
              refine z_get dX1_leastFrom_61 rfl hiX1_leastFrom_X1 7 lkX1_leastFrom_34 (Nat.le_of_ble_eq_true rfl) h67 rfl (by decide) rfl ?_
              refine z_iload_n dX1_leastFrom_64 rfl rfl ?_
              refine z_iload dX1_leastFrom_65 rfl rfl ?_
              refine z_iastN (j := 3) dX1_leastFrom_67 rfl (Nat.le_of_ble_eq_true rfl) rfl (rfl) (by omega) (by decide) ?_
              refine z_n (L' := [(71, (zI G 12 im1)), (72, (zI G 7 re1)), (74, (zI G 4 (upd ch1 3 (nI mk))))]) rfl ?_
              refine z_iload dX1_leastFrom_68 rfl rfl ?_
              refine z_aload_n dX1_leastFrom_70 rfl rfl ?_
              refine z_iload_n dX1_leastFrom_71 rfl rfl ?_
              refine z_iconst (v := nI 1) dX1_leastFrom_72 rfl (by decide) ?_
              refine z_iadd dX1_leastFrom_73 rfl ?_
              refine z_iload dX1_leastFrom_74 rfl rfl ?_
              refine z_iconst (v := nI 1) dX1_leastFrom_76 rfl (by decide) ?_
              refine z_iadd dX1_leastFrom_77 rfl ?_
              refine z_iload_n dX1_leastFrom_78 rfl rfl ?_
              refine z_iload dX1_leastFrom_79 rfl rfl ?_
              rw [show (nI 3) + (nI 1) = nI 4 from rfl]
              rw [show (nI mk) + (nI 1) = nI (mk + 1) from (zq_add rfl rfl)]
              refine z_callVi (c_X1_leastFrom_4 G ex _ sd re1 im1 (upd ch1 3 (nI mk)) (mk + 1) n m (by omega) (by omega) (by omega) (by omega) h67 rfl rfl rfl) gX1_leastFrom_X1_leastFrom rfl dX1_leastFrom_81 rfl rfl rfl okk_X1_leastFrom (Nat.le_of_ble_eq_true rfl) h67 rfl ⟨Nat.le_of_ble_eq_true rfl, Nat.le_of_ble_eq_true rfl⟩ ⟨Nat.le_of_ble_eq_true rfl, Nat.le_of_ble_eq_true rfl⟩ (Nat.le_of_ble_eq_true rfl) ?_
              refine z_nn (L' := [(71, (zI G 12 (X1_leastFrom_c71_4 re1 im1 (upd ch1 3 (nI mk)) n m))), (72, (zI G 7 (X1_leastFrom_c72_4 re1 im1 (upd ch1 3 (nI mk)) n m))), (74, (zI G 4 (upd ch1 3 (nI mk))))]) rfl ?_
              refine z_iadd dX1_leastFrom_84 rfl ?_
              refine z_istore_5 dX1_leastFrom_85 rfl ?_
              refine z_iinc_6 (v := nI (mk + 1)) dX1_leastFrom_87 rfl (zinc _) ?_
              refine z_goto (tgt := 33) dX1_leastFrom_90 (by decide) ?_
              have K9 := K
              try simp only [X1_leastFrom_L33_3_F, if_pos c47, if_neg c57] at K9
              exact K9
      · generalize hR33 : zfold (X1_leastFrom_L33_3_F n m) ((2 ^ n) - lo) lo (nI 0, im, ren, ch) = r9
        obtain ⟨toto, im1o, re1o, ch1o⟩ := r9
        intro _
        refine z_iload dX1_leastFrom_33 rfl rfl ?_
        refine z_iconst (v := nI 1) dX1_leastFrom_35 rfl (by decide) ?_
        refine z_iload_n dX1_leastFrom_36 rfl rfl ?_
        refine z_ishl dX1_leastFrom_37 rfl ?_
        refine z_icmp_ge (tgt := 93) dX1_leastFrom_38 rfl (by decide) (fun c38 => ?_) (fun c38 => ?_)
        · refine z_iload dX1_leastFrom_93 rfl rfl ?_
          exact z_ireturn dX1_leastFrom_95 rfl rfl (Nat.le_refl _) (Nat.le_refl _) (fun _ => rfl) ⟨by simp only [X1_leastFrom_v_3, if_neg c3, hR33, zlet_e], by simp only [X1_leastFrom_c71_3, X1_leastFrom_c72_3, X1_leastFrom_c74_3, if_neg c3, hR33, zlet_e]⟩
        · exact absurd (by rw [shl1N n (by omega)]; exact nI_le (Nat.le_refl _) (by omega)) c38
    · exact absurd (by decide) c8
def X1_leastFrom_L33_2_F (n : Nat) (m : Nat) (mk : Nat) (a9 : (Int32) × (Nat → Int32) × (Nat → Int32) × (Nat → Int32)) : (Int32) × (Nat → Int32) × (Nat → Int32) × (Nat → Int32) := if (bcnt (nI mk)) = (nI 3) then (if (X1_standsBeside_v (nI mk) a9.2.2.2 2) = 0 then (a9.1, a9.2.1, a9.2.2.1, a9.2.2.2) else (a9.1 + (X1_leastFrom_v_3 a9.2.2.1 a9.2.1 (upd a9.2.2.2 2 (nI mk)) (mk + 1) n m), X1_leastFrom_c71_3 a9.2.2.1 a9.2.1 (upd a9.2.2.2 2 (nI mk)) (mk + 1) n m, X1_leastFrom_c72_3 a9.2.2.1 a9.2.1 (upd a9.2.2.2 2 (nI mk)) (mk + 1) n m, X1_leastFrom_c74_3 a9.2.2.1 a9.2.1 (upd a9.2.2.2 2 (nI mk)) (mk + 1) n m)) else (a9.1, a9.2.1, a9.2.2.1, a9.2.2.2)
def X1_leastFrom_v_2 (ren im ch : Nat → Int32) (lo n m : Nat) : Int32 := if (nI m) ≤ (nI 2) then (if (X1_isLeast_v ren im ch n m) = 0 then (nI 0) else (nI 1)) else (zlet (zfold (X1_leastFrom_L33_2_F n m) ((2 ^ n) - lo) lo (nI 0, im, ren, ch)) (fun rr33 => rr33.1))
def X1_leastFrom_c71_2 (ren im ch : Nat → Int32) (lo n m : Nat) : Nat → Int32 := if (nI m) ≤ (nI 2) then (if (X1_isLeast_v ren im ch n m) = 0 then (X1_isLeast_c71 ren im ch n m) else (X1_isLeast_c71 ren im ch n m)) else (zlet (zfold (X1_leastFrom_L33_2_F n m) ((2 ^ n) - lo) lo (nI 0, im, ren, ch)) (fun rr33 => rr33.2.1))
def X1_leastFrom_c72_2 (ren im ch : Nat → Int32) (lo n m : Nat) : Nat → Int32 := if (nI m) ≤ (nI 2) then (if (X1_isLeast_v ren im ch n m) = 0 then (X1_isLeast_c72 ren im ch n m) else (X1_isLeast_c72 ren im ch n m)) else (zlet (zfold (X1_leastFrom_L33_2_F n m) ((2 ^ n) - lo) lo (nI 0, im, ren, ch)) (fun rr33 => rr33.2.2.1))
def X1_leastFrom_c74_2 (ren im ch : Nat → Int32) (lo n m : Nat) : Nat → Int32 := if (nI m) ≤ (nI 2) then (if (X1_isLeast_v ren im ch n m) = 0 then ch else ch) else (zlet (zfold (X1_leastFrom_L33_2_F n m) ((2 ^ n) - lo) lo (nI 0, im, ren, ch)) (fun rr33 => rr33.2.2.2))
set_option maxRecDepth 100000 in
set_option maxHeartbeats 4000000 in
theorem c_X1_leastFrom_2 (G : zG) (ex : Bool) (g : Nat → va_E) (sd : Int32) (ren im ch : Nat → Int32) (lo n m : Nat) (hn2 : 2 ≤ n) (hn : n ≤ 6) (hm : m ≤ 4) (hlo : lo ≤ 2 ^ n) (h67 : g 67 = (oFrm G sd)) (h72 : g 72 = (zI G 7 ren)) (h71 : g 71 = (zI G 12 im)) (h74 : g 74 = (zI G 4 ch)) : zC G yX1_leastFrom wsX1_leastFrom (zrm 5 125) ex [.ref (zB G + 67), .int (nI 2), .int (nI lo), .int (nI n), .int (nI m)] (zN, g) (fun r h => r = some (.int (X1_leastFrom_v_2 ren im ch lo n m)) ∧ h = (zN, zus g [(71, zI G 12 (X1_leastFrom_c71_2 ren im ch lo n m)), (72, zI G 7 (X1_leastFrom_c72_2 ren im ch lo n m)), (74, zI G 4 (X1_leastFrom_c74_2 ren im ch lo n m))])) := by
  refine zC_of mX1_leastFrom (lv := [some (.ref (zB G + 67)), some (.int (nI 2)), some (.int (nI lo)), some (.int (nI n)), some (.int (nI m)), none, none]) rfl rfl (by decide) (by intro v hv; simp at hv; rcases hv with rfl | rfl | rfl | rfl | rfl <;> rfl) (Nat.le_of_ble_eq_true rfl) rfl ?_
  refine z_0 ?_
  refine z_heap (g' := zu (zus g []) 71 (zI G 12 im)) (zu_self (zus g []) 71 _ h71).symm ?_
  refine z_n (L' := [(71, (zI G 12 im))]) rfl ?_
  refine z_heap (g' := zu (zus g [(71, (zI G 12 im))]) 72 (zI G 7 ren)) (zu_self (zus g [(71, (zI G 12 im))]) 72 _ h72).symm ?_
  refine z_n (L' := [(71, (zI G 12 im)), (72, (zI G 7 ren))]) rfl ?_
  refine z_heap (g' := zu (zus g [(71, (zI G 12 im)), (72, (zI G 7 ren))]) 74 (zI G 4 ch)) (zu_self (zus g [(71, (zI G 12 im)), (72, (zI G 7 ren))]) 74 _ h74).symm ?_
  refine z_n (L' := [(71, (zI G 12 im)), (72, (zI G 7 ren)), (74, (zI G 4 ch))]) rfl ?_
  refine z_iload_n dX1_leastFrom_0 rfl rfl ?_
  refine z_iload dX1_leastFrom_1 rfl rfl ?_
  refine z_icmp_ge (tgt := 11) dX1_leastFrom_3 rfl (by decide) (fun c3 => ?_) (fun c3 => ?_)
  · refine z_aload_n dX1_leastFrom_11 rfl rfl ?_
    refine z_iload_n dX1_leastFrom_12 rfl rfl ?_
    refine z_iload dX1_leastFrom_13 rfl rfl ?_
    refine z_callVi (c_X1_isLeast G ex _ sd ren im ch n m (by omega) (by omega) (by omega) h67 rfl rfl rfl) gX1_leastFrom_X1_isLeast rfl dX1_leastFrom_15 rfl rfl rfl okk_X1_isLeast (Nat.le_of_ble_eq_true rfl) h67 rfl ⟨Nat.le_of_ble_eq_true rfl, Nat.le_of_ble_eq_true rfl⟩ ⟨Nat.le_of_ble_eq_true rfl, Nat.le_of_ble_eq_true rfl⟩ (Nat.le_of_ble_eq_true rfl) ?_
    refine z_nn (L' := [(71, (zI G 12 (X1_isLeast_c71 ren im ch n m))), (72, (zI G 7 (X1_isLeast_c72 ren im ch n m))), (74, (zI G 4 ch))]) rfl ?_
    refine z_if_eq (tgt := 25) dX1_leastFrom_18 rfl (by decide) (fun c18 => ?_) (fun c18 => ?_)
    · refine z_iconst (v := nI 0) dX1_leastFrom_25 rfl (by decide) ?_
      exact z_ireturn dX1_leastFrom_26 rfl rfl (Nat.le_refl _) (Nat.le_refl _) (fun _ => rfl) ⟨by simp only [X1_leastFrom_v_2, if_pos c3, if_pos c18], by simp only [X1_leastFrom_c71_2, X1_leastFrom_c72_2, X1_leastFrom_c74_2, if_pos c3, if_pos c18]⟩
    · refine z_iconst (v := nI 1) dX1_leastFrom_21 rfl (by decide) ?_
      refine z_goto (tgt := 26) dX1_leastFrom_22 (by decide) ?_
      exact z_ireturn dX1_leastFrom_26 rfl rfl (Nat.le_refl _) (Nat.le_refl _) (fun _ => rfl) ⟨by simp only [X1_leastFrom_v_2, if_pos c3, if_neg c18], by simp only [X1_leastFrom_c71_2, X1_leastFrom_c72_2, X1_leastFrom_c74_2, if_pos c3, if_neg c18]⟩
  · refine z_iload_n dX1_leastFrom_6 rfl rfl ?_
    refine z_iconst (v := nI 4) dX1_leastFrom_7 rfl (by decide) ?_
    refine z_icmp_lt (tgt := 27) dX1_leastFrom_8 rfl (by decide) (fun c8 => ?_) (fun c8 => ?_)
    · have hp6 : 2 ^ n ≤ 64 := pow6 hn
      refine z_iconst (v := nI 0) dX1_leastFrom_27 rfl (by decide) ?_
      refine z_istore_5 dX1_leastFrom_28 rfl ?_
      refine z_iload_n dX1_leastFrom_30 rfl rfl ?_
      refine z_istore_6 dX1_leastFrom_31 rfl ?_
      refine z_forI (head := fun mk (st9 : (Int32) × (Nat → Int32) × (Nat → Int32) × (Nat → Int32)) => Z G mX1_leastFrom (zrm 5 125) ex _ 33 [some (.ref (zB G + 67)), some (.int (nI 2)), some (.int (nI lo)), some (.int (nI n)), some (.int (nI m)), some (.int st9.1), some (.int (nI mk))] [] (zN, zus g [(71, (zI G 12 st9.2.1)), (72, (zI G 7 st9.2.2.1)), (74, (zI G 4 st9.2.2.2))]) 0 0) (F := (X1_leastFrom_L33_2_F n m)) (n := 2 ^ n) (fun _ _ => True) (fun _ _ _ _ => trivial) ?_ ((2 ^ n) - lo) lo (nI 0, im, ren, ch) (by omega) trivial ?_
      · intro mk a9 hi _ K
        obtain ⟨tot, im1, re1, ch1⟩ := a9
        refine z_iload dX1_leastFrom_33 rfl rfl ?_
        refine z_iconst (v := nI 1) dX1_leastFrom_35 rfl (by decide) ?_
        refine z_iload_n dX1_leastFrom_36 rfl rfl ?_
        refine z_ishl dX1_leastFrom_37 rfl ?_
        refine z_icmp_ge (tgt := 93) dX1_leastFrom_38 rfl (by decide) (fun c38 => ?_) (fun c38 => ?_)
        · exact absurd c38 (by rw [shl1N n (by omega)]; exact nI_ge hi (by omega))
        · refine z_iload dX1_leastFrom_41 rfl rfl ?_
          refine z_callSi (c_bitCount G ex _ (nI mk)) gX1_leastFrom_J6_bitCount_0f7a4 rfl dX1_leastFrom_43 rfl rfl okk_J6_bitCount_0f7a4 ⟨Nat.le_of_ble_eq_true rfl, Nat.le_of_ble_eq_true rfl⟩ ⟨Nat.le_of_ble_eq_true rfl, Nat.le_of_ble_eq_true rfl⟩ (Nat.le_of_ble_eq_true rfl) ?_
          refine z_iconst (v := nI 3) dX1_leastFrom_46 rfl (by decide) ?_
          refine z_icmp_ne (tgt := 87) dX1_leastFrom_47 rfl (by decide) (fun c47 => ?_) (fun c47 => ?_)
          · refine z_iinc_6 (v := nI (mk + 1)) dX1_leastFrom_87 rfl (zinc _) ?_
            refine z_goto (tgt := 33) dX1_leastFrom_90 (by decide) ?_
            have K9 := K
            try simp only [X1_leastFrom_L33_2_F, if_neg c47] at K9
            exact K9
          · refine z_aload_n dX1_leastFrom_50 rfl rfl ?_
            refine z_iload dX1_leastFrom_51 rfl rfl ?_
            refine z_iload_n dX1_leastFrom_53 rfl rfl ?_
            refine z_callVi (c_X1_standsBeside G ex _ sd (nI mk) ch1 2 (by omega) h67 rfl) gX1_leastFrom_X1_standsBeside rfl dX1_leastFrom_54 rfl rfl rfl okk_X1_standsBeside (Nat.le_of_ble_eq_true rfl) h67 rfl ⟨Nat.le_of_ble_eq_true rfl, Nat.le_of_ble_eq_true rfl⟩ ⟨Nat.le_of_ble_eq_true rfl, Nat.le_of_ble_eq_true rfl⟩ (Nat.le_of_ble_eq_true rfl) ?_
            refine z_if_eq (tgt := 87) dX1_leastFrom_57 rfl (by decide) (fun c57 => ?_) (fun c57 => ?_)
            · refine z_iinc_6 (v := nI (mk + 1)) dX1_leastFrom_87 rfl (zinc _) ?_
              refine z_goto (tgt := 33) dX1_leastFrom_90 (by decide) ?_
              have K9 := K
              try simp only [X1_leastFrom_L33_2_F, if_pos c47, if_pos c57] at K9
              exact K9
            · refine z_aload_n dX1_leastFrom_60 rfl rfl ?_
              refine z_get dX1_leastFrom_61 rfl hiX1_leastFrom_X1 7 lkX1_leastFrom_34 (Nat.le_of_ble_eq_true rfl) h67 rfl (by decide) rfl ?_
              refine z_iload_n dX1_leastFrom_64 rfl rfl ?_
              refine z_iload dX1_leastFrom_65 rfl rfl ?_
              refine z_iastN (j := 2) dX1_leastFrom_67 rfl (Nat.le_of_ble_eq_true rfl) rfl (rfl) (by omega) (by decide) ?_
              refine z_n (L' := [(71, (zI G 12 im1)), (72, (zI G 7 re1)), (74, (zI G 4 (upd ch1 2 (nI mk))))]) rfl ?_
              refine z_iload dX1_leastFrom_68 rfl rfl ?_
              refine z_aload_n dX1_leastFrom_70 rfl rfl ?_
              refine z_iload_n dX1_leastFrom_71 rfl rfl ?_
              refine z_iconst (v := nI 1) dX1_leastFrom_72 rfl (by decide) ?_
              refine z_iadd dX1_leastFrom_73 rfl ?_
              refine z_iload dX1_leastFrom_74 rfl rfl ?_
              refine z_iconst (v := nI 1) dX1_leastFrom_76 rfl (by decide) ?_
              refine z_iadd dX1_leastFrom_77 rfl ?_
              refine z_iload_n dX1_leastFrom_78 rfl rfl ?_
              refine z_iload dX1_leastFrom_79 rfl rfl ?_
              rw [show (nI 2) + (nI 1) = nI 3 from rfl]
              rw [show (nI mk) + (nI 1) = nI (mk + 1) from (zq_add rfl rfl)]
              refine z_callVi (c_X1_leastFrom_3 G ex _ sd re1 im1 (upd ch1 2 (nI mk)) (mk + 1) n m (by omega) (by omega) (by omega) (by omega) h67 rfl rfl rfl) gX1_leastFrom_X1_leastFrom rfl dX1_leastFrom_81 rfl rfl rfl okk_X1_leastFrom (Nat.le_of_ble_eq_true rfl) h67 rfl ⟨Nat.le_of_ble_eq_true rfl, Nat.le_of_ble_eq_true rfl⟩ ⟨Nat.le_of_ble_eq_true rfl, Nat.le_of_ble_eq_true rfl⟩ (Nat.le_of_ble_eq_true rfl) ?_
              refine z_nn (L' := [(71, (zI G 12 (X1_leastFrom_c71_3 re1 im1 (upd ch1 2 (nI mk)) (mk + 1) n m))), (72, (zI G 7 (X1_leastFrom_c72_3 re1 im1 (upd ch1 2 (nI mk)) (mk + 1) n m))), (74, (zI G 4 (X1_leastFrom_c74_3 re1 im1 (upd ch1 2 (nI mk)) (mk + 1) n m)))]) rfl ?_
              refine z_iadd dX1_leastFrom_84 rfl ?_
              refine z_istore_5 dX1_leastFrom_85 rfl ?_
              refine z_iinc_6 (v := nI (mk + 1)) dX1_leastFrom_87 rfl (zinc _) ?_
              refine z_goto (tgt := 33) dX1_leastFrom_90 (by decide) ?_
              have K9 := K
              try simp only [X1_leastFrom_L33_2_F, if_pos c47, if_neg c57] at K9
              exact K9
      · generalize hR33 : zfold (X1_leastFrom_L33_2_F n m) ((2 ^ n) - lo) lo (nI 0, im, ren, ch) = r9
        obtain ⟨toto, im1o, re1o, ch1o⟩ := r9
        intro _
        refine z_iload dX1_leastFrom_33 rfl rfl ?_
        refine z_iconst (v := nI 1) dX1_leastFrom_35 rfl (by decide) ?_
        refine z_iload_n dX1_leastFrom_36 rfl rfl ?_
        refine z_ishl dX1_leastFrom_37 rfl ?_
        refine z_icmp_ge (tgt := 93) dX1_leastFrom_38 rfl (by decide) (fun c38 => ?_) (fun c38 => ?_)
        · refine z_iload dX1_leastFrom_93 rfl rfl ?_
          exact z_ireturn dX1_leastFrom_95 rfl rfl (Nat.le_refl _) (Nat.le_refl _) (fun _ => rfl) ⟨by simp only [X1_leastFrom_v_2, if_neg c3, hR33, zlet_e], by simp only [X1_leastFrom_c71_2, X1_leastFrom_c72_2, X1_leastFrom_c74_2, if_neg c3, hR33, zlet_e]⟩
        · exact absurd (by rw [shl1N n (by omega)]; exact nI_le (Nat.le_refl _) (by omega)) c38
    · exact absurd (by decide) c8
def X1_leastFrom_L33_1_F (n : Nat) (m : Nat) (mk : Nat) (a9 : (Int32) × (Nat → Int32) × (Nat → Int32) × (Nat → Int32)) : (Int32) × (Nat → Int32) × (Nat → Int32) × (Nat → Int32) := if (bcnt (nI mk)) = (nI 3) then (if (X1_standsBeside_v (nI mk) a9.2.2.2 1) = 0 then (a9.1, a9.2.1, a9.2.2.1, a9.2.2.2) else (a9.1 + (X1_leastFrom_v_2 a9.2.2.1 a9.2.1 (upd a9.2.2.2 1 (nI mk)) (mk + 1) n m), X1_leastFrom_c71_2 a9.2.2.1 a9.2.1 (upd a9.2.2.2 1 (nI mk)) (mk + 1) n m, X1_leastFrom_c72_2 a9.2.2.1 a9.2.1 (upd a9.2.2.2 1 (nI mk)) (mk + 1) n m, X1_leastFrom_c74_2 a9.2.2.1 a9.2.1 (upd a9.2.2.2 1 (nI mk)) (mk + 1) n m)) else (a9.1, a9.2.1, a9.2.2.1, a9.2.2.2)
def X1_leastFrom_v_1 (ren im ch : Nat → Int32) (lo n m : Nat) : Int32 := if (nI m) ≤ (nI 1) then (if (X1_isLeast_v ren im ch n m) = 0 then (nI 0) else (nI 1)) else (zlet (zfold (X1_leastFrom_L33_1_F n m) ((2 ^ n) - lo) lo (nI 0, im, ren, ch)) (fun rr33 => rr33.1))
def X1_leastFrom_c71_1 (ren im ch : Nat → Int32) (lo n m : Nat) : Nat → Int32 := if (nI m) ≤ (nI 1) then (if (X1_isLeast_v ren im ch n m) = 0 then (X1_isLeast_c71 ren im ch n m) else (X1_isLeast_c71 ren im ch n m)) else (zlet (zfold (X1_leastFrom_L33_1_F n m) ((2 ^ n) - lo) lo (nI 0, im, ren, ch)) (fun rr33 => rr33.2.1))
def X1_leastFrom_c72_1 (ren im ch : Nat → Int32) (lo n m : Nat) : Nat → Int32 := if (nI m) ≤ (nI 1) then (if (X1_isLeast_v ren im ch n m) = 0 then (X1_isLeast_c72 ren im ch n m) else (X1_isLeast_c72 ren im ch n m)) else (zlet (zfold (X1_leastFrom_L33_1_F n m) ((2 ^ n) - lo) lo (nI 0, im, ren, ch)) (fun rr33 => rr33.2.2.1))
def X1_leastFrom_c74_1 (ren im ch : Nat → Int32) (lo n m : Nat) : Nat → Int32 := if (nI m) ≤ (nI 1) then (if (X1_isLeast_v ren im ch n m) = 0 then ch else ch) else (zlet (zfold (X1_leastFrom_L33_1_F n m) ((2 ^ n) - lo) lo (nI 0, im, ren, ch)) (fun rr33 => rr33.2.2.2))
set_option maxRecDepth 100000 in
set_option maxHeartbeats 4000000 in
theorem c_X1_leastFrom_1 (G : zG) (ex : Bool) (g : Nat → va_E) (sd : Int32) (ren im ch : Nat → Int32) (lo n m : Nat) (hn2 : 2 ≤ n) (hn : n ≤ 6) (hm : m ≤ 4) (hlo : lo ≤ 2 ^ n) (h67 : g 67 = (oFrm G sd)) (h72 : g 72 = (zI G 7 ren)) (h71 : g 71 = (zI G 12 im)) (h74 : g 74 = (zI G 4 ch)) : zC G yX1_leastFrom wsX1_leastFrom (zrm 6 151) ex [.ref (zB G + 67), .int (nI 1), .int (nI lo), .int (nI n), .int (nI m)] (zN, g) (fun r h => r = some (.int (X1_leastFrom_v_1 ren im ch lo n m)) ∧ h = (zN, zus g [(71, zI G 12 (X1_leastFrom_c71_1 ren im ch lo n m)), (72, zI G 7 (X1_leastFrom_c72_1 ren im ch lo n m)), (74, zI G 4 (X1_leastFrom_c74_1 ren im ch lo n m))])) := by
  refine zC_of mX1_leastFrom (lv := [some (.ref (zB G + 67)), some (.int (nI 1)), some (.int (nI lo)), some (.int (nI n)), some (.int (nI m)), none, none]) rfl rfl (by decide) (by intro v hv; simp at hv; rcases hv with rfl | rfl | rfl | rfl | rfl <;> rfl) (Nat.le_of_ble_eq_true rfl) rfl ?_
  refine z_0 ?_
  refine z_heap (g' := zu (zus g []) 71 (zI G 12 im)) (zu_self (zus g []) 71 _ h71).symm ?_
  refine z_n (L' := [(71, (zI G 12 im))]) rfl ?_
  refine z_heap (g' := zu (zus g [(71, (zI G 12 im))]) 72 (zI G 7 ren)) (zu_self (zus g [(71, (zI G 12 im))]) 72 _ h72).symm ?_
  refine z_n (L' := [(71, (zI G 12 im)), (72, (zI G 7 ren))]) rfl ?_
  refine z_heap (g' := zu (zus g [(71, (zI G 12 im)), (72, (zI G 7 ren))]) 74 (zI G 4 ch)) (zu_self (zus g [(71, (zI G 12 im)), (72, (zI G 7 ren))]) 74 _ h74).symm ?_
  refine z_n (L' := [(71, (zI G 12 im)), (72, (zI G 7 ren)), (74, (zI G 4 ch))]) rfl ?_
  refine z_iload_n dX1_leastFrom_0 rfl rfl ?_
  refine z_iload dX1_leastFrom_1 rfl rfl ?_
  refine z_icmp_ge (tgt := 11) dX1_leastFrom_3 rfl (by decide) (fun c3 => ?_) (fun c3 => ?_)
  · refine z_aload_n dX1_leastFrom_11 rfl rfl ?_
    refine z_iload_n dX1_leastFrom_12 rfl rfl ?_
    refine z_iload dX1_leastFrom_13 rfl rfl ?_
    refine z_callVi (c_X1_isLeast G ex _ sd ren im ch n m (by omega) (by omega) (by omega) h67 rfl rfl rfl) gX1_leastFrom_X1_isLeast rfl dX1_leastFrom_15 rfl rfl rfl okk_X1_isLeast (Nat.le_of_ble_eq_true rfl) h67 rfl ⟨Nat.le_of_ble_eq_true rfl, Nat.le_of_ble_eq_true rfl⟩ ⟨Nat.le_of_ble_eq_true rfl, Nat.le_of_ble_eq_true rfl⟩ (Nat.le_of_ble_eq_true rfl) ?_
    refine z_nn (L' := [(71, (zI G 12 (X1_isLeast_c71 ren im ch n m))), (72, (zI G 7 (X1_isLeast_c72 ren im ch n m))), (74, (zI G 4 ch))]) rfl ?_
    refine z_if_eq (tgt := 25) dX1_leastFrom_18 rfl (by decide) (fun c18 => ?_) (fun c18 => ?_)
    · refine z_iconst (v := nI 0) dX1_leastFrom_25 rfl (by decide) ?_
      exact z_ireturn dX1_leastFrom_26 rfl rfl (Nat.le_refl _) (Nat.le_refl _) (fun _ => rfl) ⟨by simp only [X1_leastFrom_v_1, if_pos c3, if_pos c18], by simp only [X1_leastFrom_c71_1, X1_leastFrom_c72_1, X1_leastFrom_c74_1, if_pos c3, if_pos c18]⟩
    · refine z_iconst (v := nI 1) dX1_leastFrom_21 rfl (by decide) ?_
      refine z_goto (tgt := 26) dX1_leastFrom_22 (by decide) ?_
      exact z_ireturn dX1_leastFrom_26 rfl rfl (Nat.le_refl _) (Nat.le_refl _) (fun _ => rfl) ⟨by simp only [X1_leastFrom_v_1, if_pos c3, if_neg c18], by simp only [X1_leastFrom_c71_1, X1_leastFrom_c72_1, X1_leastFrom_c74_1, if_pos c3, if_neg c18]⟩
  · refine z_iload_n dX1_leastFrom_6 rfl rfl ?_
    refine z_iconst (v := nI 4) dX1_leastFrom_7 rfl (by decide) ?_
    refine z_icmp_lt (tgt := 27) dX1_leastFrom_8 rfl (by decide) (fun c8 => ?_) (fun c8 => ?_)
    · have hp6 : 2 ^ n ≤ 64 := pow6 hn
      refine z_iconst (v := nI 0) dX1_leastFrom_27 rfl (by decide) ?_
      refine z_istore_5 dX1_leastFrom_28 rfl ?_
      refine z_iload_n dX1_leastFrom_30 rfl rfl ?_
      refine z_istore_6 dX1_leastFrom_31 rfl ?_
      refine z_forI (head := fun mk (st9 : (Int32) × (Nat → Int32) × (Nat → Int32) × (Nat → Int32)) => Z G mX1_leastFrom (zrm 6 151) ex _ 33 [some (.ref (zB G + 67)), some (.int (nI 1)), some (.int (nI lo)), some (.int (nI n)), some (.int (nI m)), some (.int st9.1), some (.int (nI mk))] [] (zN, zus g [(71, (zI G 12 st9.2.1)), (72, (zI G 7 st9.2.2.1)), (74, (zI G 4 st9.2.2.2))]) 0 0) (F := (X1_leastFrom_L33_1_F n m)) (n := 2 ^ n) (fun _ _ => True) (fun _ _ _ _ => trivial) ?_ ((2 ^ n) - lo) lo (nI 0, im, ren, ch) (by omega) trivial ?_
      · intro mk a9 hi _ K
        obtain ⟨tot, im1, re1, ch1⟩ := a9
        refine z_iload dX1_leastFrom_33 rfl rfl ?_
        refine z_iconst (v := nI 1) dX1_leastFrom_35 rfl (by decide) ?_
        refine z_iload_n dX1_leastFrom_36 rfl rfl ?_
        refine z_ishl dX1_leastFrom_37 rfl ?_
        refine z_icmp_ge (tgt := 93) dX1_leastFrom_38 rfl (by decide) (fun c38 => ?_) (fun c38 => ?_)
        · exact absurd c38 (by rw [shl1N n (by omega)]; exact nI_ge hi (by omega))
        · refine z_iload dX1_leastFrom_41 rfl rfl ?_
          refine z_callSi (c_bitCount G ex _ (nI mk)) gX1_leastFrom_J6_bitCount_0f7a4 rfl dX1_leastFrom_43 rfl rfl okk_J6_bitCount_0f7a4 ⟨Nat.le_of_ble_eq_true rfl, Nat.le_of_ble_eq_true rfl⟩ ⟨Nat.le_of_ble_eq_true rfl, Nat.le_of_ble_eq_true rfl⟩ (Nat.le_of_ble_eq_true rfl) ?_
          refine z_iconst (v := nI 3) dX1_leastFrom_46 rfl (by decide) ?_
          refine z_icmp_ne (tgt := 87) dX1_leastFrom_47 rfl (by decide) (fun c47 => ?_) (fun c47 => ?_)
          · refine z_iinc_6 (v := nI (mk + 1)) dX1_leastFrom_87 rfl (zinc _) ?_
            refine z_goto (tgt := 33) dX1_leastFrom_90 (by decide) ?_
            have K9 := K
            try simp only [X1_leastFrom_L33_1_F, if_neg c47] at K9
            exact K9
          · refine z_aload_n dX1_leastFrom_50 rfl rfl ?_
            refine z_iload dX1_leastFrom_51 rfl rfl ?_
            refine z_iload_n dX1_leastFrom_53 rfl rfl ?_
            refine z_callVi (c_X1_standsBeside G ex _ sd (nI mk) ch1 1 (by omega) h67 rfl) gX1_leastFrom_X1_standsBeside rfl dX1_leastFrom_54 rfl rfl rfl okk_X1_standsBeside (Nat.le_of_ble_eq_true rfl) h67 rfl ⟨Nat.le_of_ble_eq_true rfl, Nat.le_of_ble_eq_true rfl⟩ ⟨Nat.le_of_ble_eq_true rfl, Nat.le_of_ble_eq_true rfl⟩ (Nat.le_of_ble_eq_true rfl) ?_
            refine z_if_eq (tgt := 87) dX1_leastFrom_57 rfl (by decide) (fun c57 => ?_) (fun c57 => ?_)
            · refine z_iinc_6 (v := nI (mk + 1)) dX1_leastFrom_87 rfl (zinc _) ?_
              refine z_goto (tgt := 33) dX1_leastFrom_90 (by decide) ?_
              have K9 := K
              try simp only [X1_leastFrom_L33_1_F, if_pos c47, if_pos c57] at K9
              exact K9
            · refine z_aload_n dX1_leastFrom_60 rfl rfl ?_
              refine z_get dX1_leastFrom_61 rfl hiX1_leastFrom_X1 7 lkX1_leastFrom_34 (Nat.le_of_ble_eq_true rfl) h67 rfl (by decide) rfl ?_
              refine z_iload_n dX1_leastFrom_64 rfl rfl ?_
              refine z_iload dX1_leastFrom_65 rfl rfl ?_
              refine z_iastN (j := 1) dX1_leastFrom_67 rfl (Nat.le_of_ble_eq_true rfl) rfl (rfl) (by omega) (by decide) ?_
              refine z_n (L' := [(71, (zI G 12 im1)), (72, (zI G 7 re1)), (74, (zI G 4 (upd ch1 1 (nI mk))))]) rfl ?_
              refine z_iload dX1_leastFrom_68 rfl rfl ?_
              refine z_aload_n dX1_leastFrom_70 rfl rfl ?_
              refine z_iload_n dX1_leastFrom_71 rfl rfl ?_
              refine z_iconst (v := nI 1) dX1_leastFrom_72 rfl (by decide) ?_
              refine z_iadd dX1_leastFrom_73 rfl ?_
              refine z_iload dX1_leastFrom_74 rfl rfl ?_
              refine z_iconst (v := nI 1) dX1_leastFrom_76 rfl (by decide) ?_
              refine z_iadd dX1_leastFrom_77 rfl ?_
              refine z_iload_n dX1_leastFrom_78 rfl rfl ?_
              refine z_iload dX1_leastFrom_79 rfl rfl ?_
              rw [show (nI 1) + (nI 1) = nI 2 from rfl]
              rw [show (nI mk) + (nI 1) = nI (mk + 1) from (zq_add rfl rfl)]
              refine z_callVi (c_X1_leastFrom_2 G ex _ sd re1 im1 (upd ch1 1 (nI mk)) (mk + 1) n m (by omega) (by omega) (by omega) (by omega) h67 rfl rfl rfl) gX1_leastFrom_X1_leastFrom rfl dX1_leastFrom_81 rfl rfl rfl okk_X1_leastFrom (Nat.le_of_ble_eq_true rfl) h67 rfl ⟨Nat.le_of_ble_eq_true rfl, Nat.le_of_ble_eq_true rfl⟩ ⟨Nat.le_of_ble_eq_true rfl, Nat.le_of_ble_eq_true rfl⟩ (Nat.le_of_ble_eq_true rfl) ?_
              refine z_nn (L' := [(71, (zI G 12 (X1_leastFrom_c71_2 re1 im1 (upd ch1 1 (nI mk)) (mk + 1) n m))), (72, (zI G 7 (X1_leastFrom_c72_2 re1 im1 (upd ch1 1 (nI mk)) (mk + 1) n m))), (74, (zI G 4 (X1_leastFrom_c74_2 re1 im1 (upd ch1 1 (nI mk)) (mk + 1) n m)))]) rfl ?_
              refine z_iadd dX1_leastFrom_84 rfl ?_
              refine z_istore_5 dX1_leastFrom_85 rfl ?_
              refine z_iinc_6 (v := nI (mk + 1)) dX1_leastFrom_87 rfl (zinc _) ?_
              refine z_goto (tgt := 33) dX1_leastFrom_90 (by decide) ?_
              have K9 := K
              try simp only [X1_leastFrom_L33_1_F, if_pos c47, if_neg c57] at K9
              exact K9
      · generalize hR33 : zfold (X1_leastFrom_L33_1_F n m) ((2 ^ n) - lo) lo (nI 0, im, ren, ch) = r9
        obtain ⟨toto, im1o, re1o, ch1o⟩ := r9
        intro _
        refine z_iload dX1_leastFrom_33 rfl rfl ?_
        refine z_iconst (v := nI 1) dX1_leastFrom_35 rfl (by decide) ?_
        refine z_iload_n dX1_leastFrom_36 rfl rfl ?_
        refine z_ishl dX1_leastFrom_37 rfl ?_
        refine z_icmp_ge (tgt := 93) dX1_leastFrom_38 rfl (by decide) (fun c38 => ?_) (fun c38 => ?_)
        · refine z_iload dX1_leastFrom_93 rfl rfl ?_
          exact z_ireturn dX1_leastFrom_95 rfl rfl (Nat.le_refl _) (Nat.le_refl _) (fun _ => rfl) ⟨by simp only [X1_leastFrom_v_1, if_neg c3, hR33, zlet_e], by simp only [X1_leastFrom_c71_1, X1_leastFrom_c72_1, X1_leastFrom_c74_1, if_neg c3, hR33, zlet_e]⟩
        · exact absurd (by rw [shl1N n (by omega)]; exact nI_le (Nat.le_refl _) (by omega)) c38
    · exact absurd (by decide) c8
def X1_leastFrom_L33_0_F (n : Nat) (m : Nat) (mk : Nat) (a9 : (Int32) × (Nat → Int32) × (Nat → Int32) × (Nat → Int32)) : (Int32) × (Nat → Int32) × (Nat → Int32) × (Nat → Int32) := if (bcnt (nI mk)) = (nI 3) then (if (X1_standsBeside_v (nI mk) a9.2.2.2 0) = 0 then (a9.1, a9.2.1, a9.2.2.1, a9.2.2.2) else (a9.1 + (X1_leastFrom_v_1 a9.2.2.1 a9.2.1 (upd a9.2.2.2 0 (nI mk)) (mk + 1) n m), X1_leastFrom_c71_1 a9.2.2.1 a9.2.1 (upd a9.2.2.2 0 (nI mk)) (mk + 1) n m, X1_leastFrom_c72_1 a9.2.2.1 a9.2.1 (upd a9.2.2.2 0 (nI mk)) (mk + 1) n m, X1_leastFrom_c74_1 a9.2.2.1 a9.2.1 (upd a9.2.2.2 0 (nI mk)) (mk + 1) n m)) else (a9.1, a9.2.1, a9.2.2.1, a9.2.2.2)
def X1_leastFrom_v_0 (ren im ch : Nat → Int32) (lo n m : Nat) : Int32 := if (nI m) ≤ (nI 0) then (if (X1_isLeast_v ren im ch n m) = 0 then (nI 0) else (nI 1)) else (zlet (zfold (X1_leastFrom_L33_0_F n m) ((2 ^ n) - lo) lo (nI 0, im, ren, ch)) (fun rr33 => rr33.1))
def X1_leastFrom_c71_0 (ren im ch : Nat → Int32) (lo n m : Nat) : Nat → Int32 := if (nI m) ≤ (nI 0) then (if (X1_isLeast_v ren im ch n m) = 0 then (X1_isLeast_c71 ren im ch n m) else (X1_isLeast_c71 ren im ch n m)) else (zlet (zfold (X1_leastFrom_L33_0_F n m) ((2 ^ n) - lo) lo (nI 0, im, ren, ch)) (fun rr33 => rr33.2.1))
def X1_leastFrom_c72_0 (ren im ch : Nat → Int32) (lo n m : Nat) : Nat → Int32 := if (nI m) ≤ (nI 0) then (if (X1_isLeast_v ren im ch n m) = 0 then (X1_isLeast_c72 ren im ch n m) else (X1_isLeast_c72 ren im ch n m)) else (zlet (zfold (X1_leastFrom_L33_0_F n m) ((2 ^ n) - lo) lo (nI 0, im, ren, ch)) (fun rr33 => rr33.2.2.1))
def X1_leastFrom_c74_0 (ren im ch : Nat → Int32) (lo n m : Nat) : Nat → Int32 := if (nI m) ≤ (nI 0) then (if (X1_isLeast_v ren im ch n m) = 0 then ch else ch) else (zlet (zfold (X1_leastFrom_L33_0_F n m) ((2 ^ n) - lo) lo (nI 0, im, ren, ch)) (fun rr33 => rr33.2.2.2))
set_option maxRecDepth 100000 in
set_option maxHeartbeats 4000000 in
theorem c_X1_leastFrom_0 (G : zG) (ex : Bool) (g : Nat → va_E) (sd : Int32) (ren im ch : Nat → Int32) (lo n m : Nat) (hn2 : 2 ≤ n) (hn : n ≤ 6) (hm : m ≤ 4) (hlo : lo ≤ 2 ^ n) (h67 : g 67 = (oFrm G sd)) (h72 : g 72 = (zI G 7 ren)) (h71 : g 71 = (zI G 12 im)) (h74 : g 74 = (zI G 4 ch)) : zC G yX1_leastFrom wsX1_leastFrom (zrm 7 177) ex [.ref (zB G + 67), .int (nI 0), .int (nI lo), .int (nI n), .int (nI m)] (zN, g) (fun r h => r = some (.int (X1_leastFrom_v_0 ren im ch lo n m)) ∧ h = (zN, zus g [(71, zI G 12 (X1_leastFrom_c71_0 ren im ch lo n m)), (72, zI G 7 (X1_leastFrom_c72_0 ren im ch lo n m)), (74, zI G 4 (X1_leastFrom_c74_0 ren im ch lo n m))])) := by
  refine zC_of mX1_leastFrom (lv := [some (.ref (zB G + 67)), some (.int (nI 0)), some (.int (nI lo)), some (.int (nI n)), some (.int (nI m)), none, none]) rfl rfl (by decide) (by intro v hv; simp at hv; rcases hv with rfl | rfl | rfl | rfl | rfl <;> rfl) (Nat.le_of_ble_eq_true rfl) rfl ?_
  refine z_0 ?_
  refine z_heap (g' := zu (zus g []) 71 (zI G 12 im)) (zu_self (zus g []) 71 _ h71).symm ?_
  refine z_n (L' := [(71, (zI G 12 im))]) rfl ?_
  refine z_heap (g' := zu (zus g [(71, (zI G 12 im))]) 72 (zI G 7 ren)) (zu_self (zus g [(71, (zI G 12 im))]) 72 _ h72).symm ?_
  refine z_n (L' := [(71, (zI G 12 im)), (72, (zI G 7 ren))]) rfl ?_
  refine z_heap (g' := zu (zus g [(71, (zI G 12 im)), (72, (zI G 7 ren))]) 74 (zI G 4 ch)) (zu_self (zus g [(71, (zI G 12 im)), (72, (zI G 7 ren))]) 74 _ h74).symm ?_
  refine z_n (L' := [(71, (zI G 12 im)), (72, (zI G 7 ren)), (74, (zI G 4 ch))]) rfl ?_
  refine z_iload_n dX1_leastFrom_0 rfl rfl ?_
  refine z_iload dX1_leastFrom_1 rfl rfl ?_
  refine z_icmp_ge (tgt := 11) dX1_leastFrom_3 rfl (by decide) (fun c3 => ?_) (fun c3 => ?_)
  · refine z_aload_n dX1_leastFrom_11 rfl rfl ?_
    refine z_iload_n dX1_leastFrom_12 rfl rfl ?_
    refine z_iload dX1_leastFrom_13 rfl rfl ?_
    refine z_callVi (c_X1_isLeast G ex _ sd ren im ch n m (by omega) (by omega) (by omega) h67 rfl rfl rfl) gX1_leastFrom_X1_isLeast rfl dX1_leastFrom_15 rfl rfl rfl okk_X1_isLeast (Nat.le_of_ble_eq_true rfl) h67 rfl ⟨Nat.le_of_ble_eq_true rfl, Nat.le_of_ble_eq_true rfl⟩ ⟨Nat.le_of_ble_eq_true rfl, Nat.le_of_ble_eq_true rfl⟩ (Nat.le_of_ble_eq_true rfl) ?_
    refine z_nn (L' := [(71, (zI G 12 (X1_isLeast_c71 ren im ch n m))), (72, (zI G 7 (X1_isLeast_c72 ren im ch n m))), (74, (zI G 4 ch))]) rfl ?_
    refine z_if_eq (tgt := 25) dX1_leastFrom_18 rfl (by decide) (fun c18 => ?_) (fun c18 => ?_)
    · refine z_iconst (v := nI 0) dX1_leastFrom_25 rfl (by decide) ?_
      exact z_ireturn dX1_leastFrom_26 rfl rfl (Nat.le_refl _) (Nat.le_refl _) (fun _ => rfl) ⟨by simp only [X1_leastFrom_v_0, if_pos c3, if_pos c18], by simp only [X1_leastFrom_c71_0, X1_leastFrom_c72_0, X1_leastFrom_c74_0, if_pos c3, if_pos c18]⟩
    · refine z_iconst (v := nI 1) dX1_leastFrom_21 rfl (by decide) ?_
      refine z_goto (tgt := 26) dX1_leastFrom_22 (by decide) ?_
      exact z_ireturn dX1_leastFrom_26 rfl rfl (Nat.le_refl _) (Nat.le_refl _) (fun _ => rfl) ⟨by simp only [X1_leastFrom_v_0, if_pos c3, if_neg c18], by simp only [X1_leastFrom_c71_0, X1_leastFrom_c72_0, X1_leastFrom_c74_0, if_pos c3, if_neg c18]⟩
  · refine z_iload_n dX1_leastFrom_6 rfl rfl ?_
    refine z_iconst (v := nI 4) dX1_leastFrom_7 rfl (by decide) ?_
    refine z_icmp_lt (tgt := 27) dX1_leastFrom_8 rfl (by decide) (fun c8 => ?_) (fun c8 => ?_)
    · have hp6 : 2 ^ n ≤ 64 := pow6 hn
      refine z_iconst (v := nI 0) dX1_leastFrom_27 rfl (by decide) ?_
      refine z_istore_5 dX1_leastFrom_28 rfl ?_
      refine z_iload_n dX1_leastFrom_30 rfl rfl ?_
      refine z_istore_6 dX1_leastFrom_31 rfl ?_
      refine z_forI (head := fun mk (st9 : (Int32) × (Nat → Int32) × (Nat → Int32) × (Nat → Int32)) => Z G mX1_leastFrom (zrm 7 177) ex _ 33 [some (.ref (zB G + 67)), some (.int (nI 0)), some (.int (nI lo)), some (.int (nI n)), some (.int (nI m)), some (.int st9.1), some (.int (nI mk))] [] (zN, zus g [(71, (zI G 12 st9.2.1)), (72, (zI G 7 st9.2.2.1)), (74, (zI G 4 st9.2.2.2))]) 0 0) (F := (X1_leastFrom_L33_0_F n m)) (n := 2 ^ n) (fun _ _ => True) (fun _ _ _ _ => trivial) ?_ ((2 ^ n) - lo) lo (nI 0, im, ren, ch) (by omega) trivial ?_
      · intro mk a9 hi _ K
        obtain ⟨tot, im1, re1, ch1⟩ := a9
        refine z_iload dX1_leastFrom_33 rfl rfl ?_
        refine z_iconst (v := nI 1) dX1_leastFrom_35 rfl (by decide) ?_
        refine z_iload_n dX1_leastFrom_36 rfl rfl ?_
        refine z_ishl dX1_leastFrom_37 rfl ?_
        refine z_icmp_ge (tgt := 93) dX1_leastFrom_38 rfl (by decide) (fun c38 => ?_) (fun c38 => ?_)
        · exact absurd c38 (by rw [shl1N n (by omega)]; exact nI_ge hi (by omega))
        · refine z_iload dX1_leastFrom_41 rfl rfl ?_
          refine z_callSi (c_bitCount G ex _ (nI mk)) gX1_leastFrom_J6_bitCount_0f7a4 rfl dX1_leastFrom_43 rfl rfl okk_J6_bitCount_0f7a4 ⟨Nat.le_of_ble_eq_true rfl, Nat.le_of_ble_eq_true rfl⟩ ⟨Nat.le_of_ble_eq_true rfl, Nat.le_of_ble_eq_true rfl⟩ (Nat.le_of_ble_eq_true rfl) ?_
          refine z_iconst (v := nI 3) dX1_leastFrom_46 rfl (by decide) ?_
          refine z_icmp_ne (tgt := 87) dX1_leastFrom_47 rfl (by decide) (fun c47 => ?_) (fun c47 => ?_)
          · refine z_iinc_6 (v := nI (mk + 1)) dX1_leastFrom_87 rfl (zinc _) ?_
            refine z_goto (tgt := 33) dX1_leastFrom_90 (by decide) ?_
            have K9 := K
            try simp only [X1_leastFrom_L33_0_F, if_neg c47] at K9
            exact K9
          · refine z_aload_n dX1_leastFrom_50 rfl rfl ?_
            refine z_iload dX1_leastFrom_51 rfl rfl ?_
            refine z_iload_n dX1_leastFrom_53 rfl rfl ?_
            refine z_callVi (c_X1_standsBeside G ex _ sd (nI mk) ch1 0 (by omega) h67 rfl) gX1_leastFrom_X1_standsBeside rfl dX1_leastFrom_54 rfl rfl rfl okk_X1_standsBeside (Nat.le_of_ble_eq_true rfl) h67 rfl ⟨Nat.le_of_ble_eq_true rfl, Nat.le_of_ble_eq_true rfl⟩ ⟨Nat.le_of_ble_eq_true rfl, Nat.le_of_ble_eq_true rfl⟩ (Nat.le_of_ble_eq_true rfl) ?_
            refine z_if_eq (tgt := 87) dX1_leastFrom_57 rfl (by decide) (fun c57 => ?_) (fun c57 => ?_)
            · refine z_iinc_6 (v := nI (mk + 1)) dX1_leastFrom_87 rfl (zinc _) ?_
              refine z_goto (tgt := 33) dX1_leastFrom_90 (by decide) ?_
              have K9 := K
              try simp only [X1_leastFrom_L33_0_F, if_pos c47, if_pos c57] at K9
              exact K9
            · refine z_aload_n dX1_leastFrom_60 rfl rfl ?_
              refine z_get dX1_leastFrom_61 rfl hiX1_leastFrom_X1 7 lkX1_leastFrom_34 (Nat.le_of_ble_eq_true rfl) h67 rfl (by decide) rfl ?_
              refine z_iload_n dX1_leastFrom_64 rfl rfl ?_
              refine z_iload dX1_leastFrom_65 rfl rfl ?_
              refine z_iastN (j := 0) dX1_leastFrom_67 rfl (Nat.le_of_ble_eq_true rfl) rfl (rfl) (by omega) (by decide) ?_
              refine z_n (L' := [(71, (zI G 12 im1)), (72, (zI G 7 re1)), (74, (zI G 4 (upd ch1 0 (nI mk))))]) rfl ?_
              refine z_iload dX1_leastFrom_68 rfl rfl ?_
              refine z_aload_n dX1_leastFrom_70 rfl rfl ?_
              refine z_iload_n dX1_leastFrom_71 rfl rfl ?_
              refine z_iconst (v := nI 1) dX1_leastFrom_72 rfl (by decide) ?_
              refine z_iadd dX1_leastFrom_73 rfl ?_
              refine z_iload dX1_leastFrom_74 rfl rfl ?_
              refine z_iconst (v := nI 1) dX1_leastFrom_76 rfl (by decide) ?_
              refine z_iadd dX1_leastFrom_77 rfl ?_
              refine z_iload_n dX1_leastFrom_78 rfl rfl ?_
              refine z_iload dX1_leastFrom_79 rfl rfl ?_
              rw [show (nI 0) + (nI 1) = nI 1 from rfl]
              rw [show (nI mk) + (nI 1) = nI (mk + 1) from (zq_add rfl rfl)]
              refine z_callVi (c_X1_leastFrom_1 G ex _ sd re1 im1 (upd ch1 0 (nI mk)) (mk + 1) n m (by omega) (by omega) (by omega) (by omega) h67 rfl rfl rfl) gX1_leastFrom_X1_leastFrom rfl dX1_leastFrom_81 rfl rfl rfl okk_X1_leastFrom (Nat.le_of_ble_eq_true rfl) h67 rfl ⟨Nat.le_of_ble_eq_true rfl, Nat.le_of_ble_eq_true rfl⟩ ⟨Nat.le_of_ble_eq_true rfl, Nat.le_of_ble_eq_true rfl⟩ (Nat.le_of_ble_eq_true rfl) ?_
              refine z_nn (L' := [(71, (zI G 12 (X1_leastFrom_c71_1 re1 im1 (upd ch1 0 (nI mk)) (mk + 1) n m))), (72, (zI G 7 (X1_leastFrom_c72_1 re1 im1 (upd ch1 0 (nI mk)) (mk + 1) n m))), (74, (zI G 4 (X1_leastFrom_c74_1 re1 im1 (upd ch1 0 (nI mk)) (mk + 1) n m)))]) rfl ?_
              refine z_iadd dX1_leastFrom_84 rfl ?_
              refine z_istore_5 dX1_leastFrom_85 rfl ?_
              refine z_iinc_6 (v := nI (mk + 1)) dX1_leastFrom_87 rfl (zinc _) ?_
              refine z_goto (tgt := 33) dX1_leastFrom_90 (by decide) ?_
              have K9 := K
              try simp only [X1_leastFrom_L33_0_F, if_pos c47, if_neg c57] at K9
              exact K9
      · generalize hR33 : zfold (X1_leastFrom_L33_0_F n m) ((2 ^ n) - lo) lo (nI 0, im, ren, ch) = r9
        obtain ⟨toto, im1o, re1o, ch1o⟩ := r9
        intro _
        refine z_iload dX1_leastFrom_33 rfl rfl ?_
        refine z_iconst (v := nI 1) dX1_leastFrom_35 rfl (by decide) ?_
        refine z_iload_n dX1_leastFrom_36 rfl rfl ?_
        refine z_ishl dX1_leastFrom_37 rfl ?_
        refine z_icmp_ge (tgt := 93) dX1_leastFrom_38 rfl (by decide) (fun c38 => ?_) (fun c38 => ?_)
        · refine z_iload dX1_leastFrom_93 rfl rfl ?_
          exact z_ireturn dX1_leastFrom_95 rfl rfl (Nat.le_refl _) (Nat.le_refl _) (fun _ => rfl) ⟨by simp only [X1_leastFrom_v_0, if_neg c3, hR33, zlet_e], by simp only [X1_leastFrom_c71_0, X1_leastFrom_c72_0, X1_leastFrom_c74_0, if_neg c3, hR33, zlet_e]⟩
        · exact absurd (by rw [shl1N n (by omega)]; exact nI_le (Nat.le_refl _) (by omega)) c38
    · exact absurd (by decide) c8
abbrev mX1_kindsOf : zM := (cX1_kindsOf, 4, (some .int), RX1, wsX1_kindsOf, "kindsOf")
theorem hiX1_kindsOf_X1 : ∀ w ∈ wsX10, w ∈ wsX1_kindsOf := fun w h => List.mem_cons_of_mem _ (List.mem_append_right _ h)
theorem lkX1_kindsOf_37 : Cond.fieldLink RX1 37 "ConfigSearch$Forms" "counted" "[I" ∈ wsX1_kindsOf := by decide +kernel
def X1_kindsOf_v (ren im ch cnt : Nat → Int32) (n m : Nat) : Int32 := if (cnt ((n * 5) + m)) = (-1) then ((upd cnt ((n * 5) + m) (X1_leastFrom_v_0 ren im ch 0 n m)) ((n * 5) + m)) else (cnt ((n * 5) + m))
def X1_kindsOf_c71 (ren im ch cnt : Nat → Int32) (n m : Nat) : Nat → Int32 := if (cnt ((n * 5) + m)) = (-1) then (X1_leastFrom_c71_0 ren im ch 0 n m) else im
def X1_kindsOf_c72 (ren im ch cnt : Nat → Int32) (n m : Nat) : Nat → Int32 := if (cnt ((n * 5) + m)) = (-1) then (X1_leastFrom_c72_0 ren im ch 0 n m) else ren
def X1_kindsOf_c74 (ren im ch cnt : Nat → Int32) (n m : Nat) : Nat → Int32 := if (cnt ((n * 5) + m)) = (-1) then (X1_leastFrom_c74_0 ren im ch 0 n m) else ch
def X1_kindsOf_c75 (ren im ch cnt : Nat → Int32) (n m : Nat) : Nat → Int32 := if (cnt ((n * 5) + m)) = (-1) then (upd cnt ((n * 5) + m) (X1_leastFrom_v_0 ren im ch 0 n m)) else cnt
set_option maxRecDepth 100000 in
set_option maxHeartbeats 4000000 in
theorem c_X1_kindsOf (G : zG) (ex : Bool) (g : Nat → va_E) (sd : Int32) (ren im ch cnt : Nat → Int32) (n m : Nat) (hn2 : 2 ≤ n) (hn : n ≤ 6) (hm : m ≤ 4) (h67 : g 67 = (oFrm G sd)) (h72 : g 72 = (zI G 7 ren)) (h71 : g 71 = (zI G 12 im)) (h74 : g 74 = (zI G 4 ch)) (h75 : g 75 = (zI G 35 cnt)) : zC G yX1_kindsOf wsX1_kindsOf (zrm 8 203) ex [.ref (zB G + 67), .int (nI n), .int (nI m)] (zN, g) (fun r h => r = some (.int (X1_kindsOf_v ren im ch cnt n m)) ∧ h = (zN, zus g [(71, zI G 12 (X1_kindsOf_c71 ren im ch cnt n m)), (72, zI G 7 (X1_kindsOf_c72 ren im ch cnt n m)), (74, zI G 4 (X1_kindsOf_c74 ren im ch cnt n m)), (75, zI G 35 (X1_kindsOf_c75 ren im ch cnt n m))])) := by
  refine zC_of mX1_kindsOf (lv := [some (.ref (zB G + 67)), some (.int (nI n)), some (.int (nI m)), none]) rfl rfl (by decide) (by intro v hv; simp at hv; rcases hv with rfl | rfl | rfl <;> rfl) (Nat.le_of_ble_eq_true rfl) rfl ?_
  refine z_0 ?_
  refine z_heap (g' := zu (zus g []) 71 (zI G 12 im)) (zu_self (zus g []) 71 _ h71).symm ?_
  refine z_n (L' := [(71, (zI G 12 im))]) rfl ?_
  refine z_heap (g' := zu (zus g [(71, (zI G 12 im))]) 72 (zI G 7 ren)) (zu_self (zus g [(71, (zI G 12 im))]) 72 _ h72).symm ?_
  refine z_n (L' := [(71, (zI G 12 im)), (72, (zI G 7 ren))]) rfl ?_
  refine z_heap (g' := zu (zus g [(71, (zI G 12 im)), (72, (zI G 7 ren))]) 74 (zI G 4 ch)) (zu_self (zus g [(71, (zI G 12 im)), (72, (zI G 7 ren))]) 74 _ h74).symm ?_
  refine z_n (L' := [(71, (zI G 12 im)), (72, (zI G 7 ren)), (74, (zI G 4 ch))]) rfl ?_
  refine z_heap (g' := zu (zus g [(71, (zI G 12 im)), (72, (zI G 7 ren)), (74, (zI G 4 ch))]) 75 (zI G 35 cnt)) (zu_self (zus g [(71, (zI G 12 im)), (72, (zI G 7 ren)), (74, (zI G 4 ch))]) 75 _ h75).symm ?_
  refine z_n (L' := [(71, (zI G 12 im)), (72, (zI G 7 ren)), (74, (zI G 4 ch)), (75, (zI G 35 cnt))]) rfl ?_
  refine z_iload_n dX1_kindsOf_0 rfl rfl ?_
  refine z_iconst (v := nI 5) dX1_kindsOf_1 rfl (by decide) ?_
  refine z_imul dX1_kindsOf_2 rfl ?_
  refine z_iload_n dX1_kindsOf_3 rfl rfl ?_
  refine z_iadd dX1_kindsOf_4 rfl ?_
  refine z_top (show ((nI n) * (nI 5)) + (nI m) = nI ((n * 5) + m) from (zq_add (zq_mul rfl rfl) rfl)) ?_
  refine z_istore_3 dX1_kindsOf_5 rfl ?_
  refine z_aload_n dX1_kindsOf_6 rfl rfl ?_
  refine z_get dX1_kindsOf_7 rfl hiX1_kindsOf_X1 8 lkX1_kindsOf_37 (Nat.le_of_ble_eq_true rfl) h67 rfl (by decide) rfl ?_
  refine z_iload_n dX1_kindsOf_10 rfl rfl ?_
  refine z_ialdN (j := (n * 5) + m) dX1_kindsOf_11 rfl (Nat.le_of_ble_eq_true rfl) rfl (rfl) (by omega) (by decide) ?_
  refine z_iconst (v := (-1)) dX1_kindsOf_12 rfl (by decide) ?_
  refine z_icmp_ne (tgt := 30) dX1_kindsOf_13 rfl (by decide) (fun c13 => ?_) (fun c13 => ?_)
  · refine z_aload_n dX1_kindsOf_30 rfl rfl ?_
    refine z_get dX1_kindsOf_31 rfl hiX1_kindsOf_X1 8 lkX1_kindsOf_37 (Nat.le_of_ble_eq_true rfl) h67 rfl (by decide) rfl ?_
    refine z_iload_n dX1_kindsOf_34 rfl rfl ?_
    refine z_ialdN (j := (n * 5) + m) dX1_kindsOf_35 rfl (Nat.le_of_ble_eq_true rfl) rfl (rfl) (by omega) (by decide) ?_
    exact z_ireturn dX1_kindsOf_36 rfl rfl (Nat.le_refl _) (Nat.le_refl _) (fun _ => rfl) ⟨by simp only [X1_kindsOf_v, if_neg c13], by simp only [X1_kindsOf_c71, X1_kindsOf_c72, X1_kindsOf_c74, X1_kindsOf_c75, if_neg c13]⟩
  · refine z_aload_n dX1_kindsOf_16 rfl rfl ?_
    refine z_get dX1_kindsOf_17 rfl hiX1_kindsOf_X1 8 lkX1_kindsOf_37 (Nat.le_of_ble_eq_true rfl) h67 rfl (by decide) rfl ?_
    refine z_iload_n dX1_kindsOf_20 rfl rfl ?_
    refine z_aload_n dX1_kindsOf_21 rfl rfl ?_
    refine z_iconst (v := nI 0) dX1_kindsOf_22 rfl (by decide) ?_
    refine z_iconst (v := nI 0) dX1_kindsOf_23 rfl (by decide) ?_
    refine z_iload_n dX1_kindsOf_24 rfl rfl ?_
    refine z_iload_n dX1_kindsOf_25 rfl rfl ?_
    refine z_callVi (c_X1_leastFrom_0 G ex _ sd ren im ch 0 n m (by omega) (by omega) (by omega) (Nat.zero_le _) h67 rfl rfl rfl) gX1_kindsOf_X1_leastFrom rfl dX1_kindsOf_26 rfl rfl rfl okk_X1_leastFrom (Nat.le_of_ble_eq_true rfl) h67 rfl ⟨Nat.le_of_ble_eq_true rfl, Nat.le_of_ble_eq_true rfl⟩ ⟨Nat.le_of_ble_eq_true rfl, Nat.le_of_ble_eq_true rfl⟩ (Nat.le_of_ble_eq_true rfl) ?_
    refine z_nn (L' := [(71, (zI G 12 (X1_leastFrom_c71_0 ren im ch 0 n m))), (72, (zI G 7 (X1_leastFrom_c72_0 ren im ch 0 n m))), (74, (zI G 4 (X1_leastFrom_c74_0 ren im ch 0 n m))), (75, (zI G 35 cnt))]) rfl ?_
    refine z_iastN (j := (n * 5) + m) dX1_kindsOf_29 rfl (Nat.le_of_ble_eq_true rfl) rfl (rfl) (by omega) (by decide) ?_
    refine z_n (L' := [(71, (zI G 12 (X1_leastFrom_c71_0 ren im ch 0 n m))), (72, (zI G 7 (X1_leastFrom_c72_0 ren im ch 0 n m))), (74, (zI G 4 (X1_leastFrom_c74_0 ren im ch 0 n m))), (75, (zI G 35 (upd cnt ((n * 5) + m) (X1_leastFrom_v_0 ren im ch 0 n m))))]) rfl ?_
    refine z_aload_n dX1_kindsOf_30 rfl rfl ?_
    refine z_get dX1_kindsOf_31 rfl hiX1_kindsOf_X1 8 lkX1_kindsOf_37 (Nat.le_of_ble_eq_true rfl) h67 rfl (by decide) rfl ?_
    refine z_iload_n dX1_kindsOf_34 rfl rfl ?_
    refine z_ialdN (j := (n * 5) + m) dX1_kindsOf_35 rfl (Nat.le_of_ble_eq_true rfl) rfl (rfl) (by omega) (by decide) ?_
    exact z_ireturn dX1_kindsOf_36 rfl rfl (Nat.le_refl _) (Nat.le_refl _) (fun _ => rfl) ⟨by simp only [X1_kindsOf_v, if_pos c13], by simp only [X1_kindsOf_c71, X1_kindsOf_c72, X1_kindsOf_c74, X1_kindsOf_c75, if_pos c13]⟩
theorem order_in {ren mv : Nat → Int32} {pts : Nat} : vp_in (X1_orderOfRenaming_v ren mv pts) 13 := by
  unfold X1_orderOfRenaming_v
  simp only [zlet]
  refine zpick_J9 (fun z => vp_in z 13) (fun b a' h => ?_) (fun a' h => vp_in_nI (n := 12) (by decide) (by decide))
  exact (zfoldB_J9 (n := 12) (fun b => vp_in b.1 13) (fun i a b hi hB => by
    unfold X1_orderOfRenaming_L22_B at hB
    simp only [zlet] at hB
    split at hB
    · cases hB
    · cases hB
      exact vp_in_nI (by omega) (by decide)) 11 1 _ (by decide)) b a' h
theorem exch_in {f : Nat → Int32} {i j : Nat} (hi : i < 7) (hj : j < 7) (h : ∀ k, k < 7 → vp_in (f k) 7) : ∀ k, k < 7 → vp_in (X1_exchange_c72 f i j k) 7 := fun k hk => by
  unfold X1_exchange_c72
  simp only [upd]
  repeat' split
  all_goals first | exact h _ hi | exact h _ hj | exact h _ hk
theorem next_in {f : Nat → Int32} {pts : Nat} (hp2 : 2 ≤ pts) (hp : pts ≤ 7) (h : ∀ k, k < 7 → vp_in (f k) 7) : ∀ k, k < 7 → vp_in (X1_nextRenaming_c72 f pts k) 7 := by
  unfold X1_nextRenaming_c72
  simp only [zlet]
  split
  · rename_i c
    have hic := zm1_ge c
    generalize (zfoldX (X1_nextRenaming_L4_B f pts) (X1_nextRenaming_L4_F f pts) (pts - 1) 0 ()).1 = ic at hic ⊢
    refine zfold_I (n := (ic + 1) / 2) (fun (_ : Nat) (a : Nat → Int32) => ∀ k, k < 7 → vp_in (a k) 7) (fun q a hq ha => ?_) _ _ _ (by omega) ?_
    · unfold X1_nextRenaming_L82_F
      exact exch_in (by omega) (by omega) ha
    · exact exch_in (by omega) (by omega) h
  · exact h
theorem start_in {f : Nat → Int32} : ∀ k, k < 7 → X1_startRenaming_c72 f k = nI k := by
  intro k hk
  rcases (show k = 0 ∨ k = 1 ∨ k = 2 ∨ k = 3 ∨ k = 4 ∨ k = 5 ∨ k = 6 by omega) with rfl | rfl | rfl | rfl | rfl | rfl | rfl <;> rfl
abbrev mX1_study : zM := (cX1_study, 5, none, RX1, wsX1_study, "study")
theorem hiX1_study_X1 : ∀ w ∈ wsX10, w ∈ wsX1_study := fun w h => List.mem_cons_of_mem _ (List.mem_append_left _ (List.mem_append_right _ h))
theorem lkX1_study_18 : Cond.fieldLink RX1 18 "ConfigSearch$Forms" "studied" "Z" ∈ wsX1_study := by decide +kernel
theorem hiX1_study_X4 : ∀ w ∈ wsX40, w ∈ wsX1_study := fun w h => List.mem_cons_of_mem _ (List.mem_append_right _ h)
theorem lkX1_study_46 : Cond.fieldLink RX1 46 "ConfigSearch$Text" "lines" "I" ∈ wsX1_study := by decide +kernel
theorem lkX1_study_15 : Cond.fieldLink RX1 15 "ConfigSearch$Forms" "keeping" "[I" ∈ wsX1_study := by decide +kernel
theorem lkX1_study_52 : Cond.fieldLink RX1 52 "ConfigSearch$Text" "mask" "[I" ∈ wsX1_study := by decide +kernel
theorem lkX1_study_22 : Cond.fieldLink RX1 22 "ConfigSearch$Forms" "own" "[I" ∈ wsX1_study := by decide +kernel
theorem meX1_study_ac1_55 : Cond.methodLink RX1 55 arraycopyName ∈ wsX1_study := by decide +kernel
theorem meX1_study_ac2 : Cond.native arraycopyName ∈ wsX1_study := by decide +kernel
theorem meX1_study_ac3 : Cond.static arraycopyName ∈ wsX1_study := by decide +kernel
theorem meX1_study_ac4 : Cond.initialized "java/lang/System" ∈ wsX1_study := by decide +kernel
theorem lkX1_study_9 : Cond.fieldLink RX1 9 "ConfigSearch$Forms" "least" "[I" ∈ wsX1_study := by decide +kernel
theorem lkX1_study_67 : Cond.fieldLink RX1 67 "ConfigSearch$Text" "points" "I" ∈ wsX1_study := by decide +kernel
theorem lkX1_study_25 : Cond.fieldLink RX1 25 "ConfigSearch$Forms" "image" "[I" ∈ wsX1_study := by decide +kernel
theorem okk_X1_orderOfRenaming : zOk yX1_orderOfRenaming 1 := by unfold zOk; decide +kernel
def X1_study_L77_F (pts : Nat) (lns : Nat) (msk : Nat → Int32) (own : Nat → Int32) (r : Nat) (a9 : (Nat → Int32) × (Nat → Int32) × (Nat → Int32) × (Nat → Int32) × (Nat → Int32)) : (Nat → Int32) × (Nat → Int32) × (Nat → Int32) × (Nat → Int32) × (Nat → Int32) := if 0 ≤ (X1_compareRows_v lns (X1_rename_c71_70 a9.2.2.2.1 a9.2.2.1 (srtF (va_cpy msk own 0 0 lns) lns) lns) a9.1) then (if (X1_compareRows_v lns (X1_rename_c71_70 a9.2.2.2.1 a9.2.2.1 (srtF (va_cpy msk own 0 0 lns) lns) lns) (srtF (va_cpy msk own 0 0 lns) lns)) = 0 then (a9.1, upd (upd a9.2.1 0 ((a9.2.1 0) + (nI 1))) (X1_orderOfRenaming_v a9.2.2.2.1 a9.2.2.2.2 pts).toNatClampNeg (((upd a9.2.1 0 ((a9.2.1 0) + (nI 1))) (X1_orderOfRenaming_v a9.2.2.2.1 a9.2.2.2.2 pts).toNatClampNeg) + (nI 1)), X1_rename_c71_70 a9.2.2.2.1 a9.2.2.1 (srtF (va_cpy msk own 0 0 lns) lns) lns, X1_nextRenaming_c72 a9.2.2.2.1 pts, X1_orderOfRenaming_c73 a9.2.2.2.1 a9.2.2.2.2 pts) else (a9.1, a9.2.1, X1_rename_c71_70 a9.2.2.2.1 a9.2.2.1 (srtF (va_cpy msk own 0 0 lns) lns) lns, X1_nextRenaming_c72 a9.2.2.2.1 pts, a9.2.2.2.2)) else (if (X1_compareRows_v lns (X1_rename_c71_70 a9.2.2.2.1 a9.2.2.1 (srtF (va_cpy msk own 0 0 lns) lns) lns) (srtF (va_cpy msk own 0 0 lns) lns)) = 0 then (va_cpy (X1_rename_c71_70 a9.2.2.2.1 a9.2.2.1 (srtF (va_cpy msk own 0 0 lns) lns) lns) a9.1 0 0 lns, upd (upd a9.2.1 0 ((a9.2.1 0) + (nI 1))) (X1_orderOfRenaming_v a9.2.2.2.1 a9.2.2.2.2 pts).toNatClampNeg (((upd a9.2.1 0 ((a9.2.1 0) + (nI 1))) (X1_orderOfRenaming_v a9.2.2.2.1 a9.2.2.2.2 pts).toNatClampNeg) + (nI 1)), X1_rename_c71_70 a9.2.2.2.1 a9.2.2.1 (srtF (va_cpy msk own 0 0 lns) lns) lns, X1_nextRenaming_c72 a9.2.2.2.1 pts, X1_orderOfRenaming_c73 a9.2.2.2.1 a9.2.2.2.2 pts) else (va_cpy (X1_rename_c71_70 a9.2.2.2.1 a9.2.2.1 (srtF (va_cpy msk own 0 0 lns) lns) lns) a9.1 0 0 lns, a9.2.1, X1_rename_c71_70 a9.2.2.2.1 a9.2.2.1 (srtF (va_cpy msk own 0 0 lns) lns) lns, X1_nextRenaming_c72 a9.2.2.2.1 pts, a9.2.2.2.2))
def X1_study_p67_0 (sd : Int32) : Int32 := if sd = 0 then (nI 1) else sd
def X1_study_c68 (sd : Int32) (pts lns : Nat) (msk lea kee own im ren mv : Nat → Int32) : Nat → Int32 := if sd = 0 then ((zfold (X1_study_L77_F pts lns msk own) (X1_factorial_n pts) 0 (va_cpy (srtF (va_cpy msk own 0 0 lns) lns) lea 0 0 lns, fillF 13 (nI 0) kee, im, X1_startRenaming_c72 ren, mv)).1) else lea
def X1_study_c69 (sd : Int32) (pts lns : Nat) (msk lea kee own im ren mv : Nat → Int32) : Nat → Int32 := if sd = 0 then ((zfold (X1_study_L77_F pts lns msk own) (X1_factorial_n pts) 0 (va_cpy (srtF (va_cpy msk own 0 0 lns) lns) lea 0 0 lns, fillF 13 (nI 0) kee, im, X1_startRenaming_c72 ren, mv)).2.1) else kee
def X1_study_c70 (sd : Int32) (lns : Nat) (msk own : Nat → Int32) : Nat → Int32 := if sd = 0 then (srtF (va_cpy msk own 0 0 lns) lns) else own
def X1_study_c71 (sd : Int32) (pts lns : Nat) (msk lea kee own im ren mv : Nat → Int32) : Nat → Int32 := if sd = 0 then ((zfold (X1_study_L77_F pts lns msk own) (X1_factorial_n pts) 0 (va_cpy (srtF (va_cpy msk own 0 0 lns) lns) lea 0 0 lns, fillF 13 (nI 0) kee, im, X1_startRenaming_c72 ren, mv)).2.2.1) else im
def X1_study_c72 (sd : Int32) (pts lns : Nat) (msk lea kee own im ren mv : Nat → Int32) : Nat → Int32 := if sd = 0 then ((zfold (X1_study_L77_F pts lns msk own) (X1_factorial_n pts) 0 (va_cpy (srtF (va_cpy msk own 0 0 lns) lns) lea 0 0 lns, fillF 13 (nI 0) kee, im, X1_startRenaming_c72 ren, mv)).2.2.2.1) else ren
def X1_study_c73 (sd : Int32) (pts lns : Nat) (msk lea kee own im ren mv : Nat → Int32) : Nat → Int32 := if sd = 0 then ((zfold (X1_study_L77_F pts lns msk own) (X1_factorial_n pts) 0 (va_cpy (srtF (va_cpy msk own 0 0 lns) lns) lea 0 0 lns, fillF 13 (nI 0) kee, im, X1_startRenaming_c72 ren, mv)).2.2.2.2) else mv
set_option maxRecDepth 100000 in
set_option maxHeartbeats 4000000 in
theorem c_X1_study_2 (G : zG) (ex : Bool) (g : Nat → va_E) (sd : Int32) (pts lns : Nat) (ltr inw : Int32) (msk lea kee own im ren mv : Nat → Int32) (hp2 : 2 ≤ pts) (hp : pts ≤ 7) (hl : lns ≤ 12) (h67 : g 67 = (oFrm G sd)) (h2 : g 2 = (oTxt G 2 (nI pts) (nI lns) ltr inw)) (h18 : g 18 = (zI G 12 msk)) (h68 : g 68 = (zI G 12 lea)) (h69 : g 69 = (zI G 13 kee)) (h70 : g 70 = (zI G 12 own)) (h71 : g 71 = (zI G 12 im)) (h72 : g 72 = (zI G 7 ren)) (h73 : g 73 = (zI G 7 mv)) : zC G yX1_study wsX1_study (zrm 2 64) ex [.ref (zB G + 67), .ref (zB G + 2)] (zN, g) (fun r h => r = none ∧ h = (zN, zus g [(67, (oFrm G (X1_study_p67_0 sd))), (68, zI G 12 (X1_study_c68 sd pts lns msk lea kee own im ren mv)), (69, zI G 13 (X1_study_c69 sd pts lns msk lea kee own im ren mv)), (70, zI G 12 (X1_study_c70 sd lns msk own)), (71, zI G 12 (X1_study_c71 sd pts lns msk lea kee own im ren mv)), (72, zI G 7 (X1_study_c72 sd pts lns msk lea kee own im ren mv)), (73, zI G 7 (X1_study_c73 sd pts lns msk lea kee own im ren mv))])) := by
  refine zC_of mX1_study (lv := [some (.ref (zB G + 67)), some (.ref (zB G + 2)), none, none, none]) rfl rfl (by decide) (by intro v hv; simp at hv; rcases hv with rfl | rfl <;> rfl) (Nat.le_of_ble_eq_true rfl) rfl ?_
  refine z_0 ?_
  refine z_heap (g' := zu (zus g []) 67 (oFrm G sd)) (zu_self (zus g []) 67 _ h67).symm ?_
  refine z_n (L' := [(67, (oFrm G sd))]) rfl ?_
  refine z_heap (g' := zu (zus g [(67, (oFrm G sd))]) 68 (zI G 12 lea)) (zu_self (zus g [(67, (oFrm G sd))]) 68 _ h68).symm ?_
  refine z_n (L' := [(67, (oFrm G sd)), (68, (zI G 12 lea))]) rfl ?_
  refine z_heap (g' := zu (zus g [(67, (oFrm G sd)), (68, (zI G 12 lea))]) 69 (zI G 13 kee)) (zu_self (zus g [(67, (oFrm G sd)), (68, (zI G 12 lea))]) 69 _ h69).symm ?_
  refine z_n (L' := [(67, (oFrm G sd)), (68, (zI G 12 lea)), (69, (zI G 13 kee))]) rfl ?_
  refine z_heap (g' := zu (zus g [(67, (oFrm G sd)), (68, (zI G 12 lea)), (69, (zI G 13 kee))]) 70 (zI G 12 own)) (zu_self (zus g [(67, (oFrm G sd)), (68, (zI G 12 lea)), (69, (zI G 13 kee))]) 70 _ h70).symm ?_
  refine z_n (L' := [(67, (oFrm G sd)), (68, (zI G 12 lea)), (69, (zI G 13 kee)), (70, (zI G 12 own))]) rfl ?_
  refine z_heap (g' := zu (zus g [(67, (oFrm G sd)), (68, (zI G 12 lea)), (69, (zI G 13 kee)), (70, (zI G 12 own))]) 71 (zI G 12 im)) (zu_self (zus g [(67, (oFrm G sd)), (68, (zI G 12 lea)), (69, (zI G 13 kee)), (70, (zI G 12 own))]) 71 _ h71).symm ?_
  refine z_n (L' := [(67, (oFrm G sd)), (68, (zI G 12 lea)), (69, (zI G 13 kee)), (70, (zI G 12 own)), (71, (zI G 12 im))]) rfl ?_
  refine z_heap (g' := zu (zus g [(67, (oFrm G sd)), (68, (zI G 12 lea)), (69, (zI G 13 kee)), (70, (zI G 12 own)), (71, (zI G 12 im))]) 72 (zI G 7 ren)) (zu_self (zus g [(67, (oFrm G sd)), (68, (zI G 12 lea)), (69, (zI G 13 kee)), (70, (zI G 12 own)), (71, (zI G 12 im))]) 72 _ h72).symm ?_
  refine z_n (L' := [(67, (oFrm G sd)), (68, (zI G 12 lea)), (69, (zI G 13 kee)), (70, (zI G 12 own)), (71, (zI G 12 im)), (72, (zI G 7 ren))]) rfl ?_
  refine z_heap (g' := zu (zus g [(67, (oFrm G sd)), (68, (zI G 12 lea)), (69, (zI G 13 kee)), (70, (zI G 12 own)), (71, (zI G 12 im)), (72, (zI G 7 ren))]) 73 (zI G 7 mv)) (zu_self (zus g [(67, (oFrm G sd)), (68, (zI G 12 lea)), (69, (zI G 13 kee)), (70, (zI G 12 own)), (71, (zI G 12 im)), (72, (zI G 7 ren))]) 73 _ h73).symm ?_
  refine z_n (L' := [(67, (oFrm G sd)), (68, (zI G 12 lea)), (69, (zI G 13 kee)), (70, (zI G 12 own)), (71, (zI G 12 im)), (72, (zI G 7 ren)), (73, (zI G 7 mv))]) rfl ?_
  refine z_aload_n dX1_study_0 rfl rfl ?_
  refine z_get dX1_study_1 rfl hiX1_study_X1 2 lkX1_study_18 (Nat.le_of_ble_eq_true rfl) rfl rfl (by decide) rfl ?_
  refine z_if_eq (tgt := 8) dX1_study_4 rfl (by decide) (fun c4 => ?_) (fun c4 => ?_)
  · refine z_aload_n dX1_study_8 rfl rfl ?_
    refine z_iconst (v := nI 1) dX1_study_9 rfl (by decide) ?_
    refine z_putN (e9 := (oFrm G (nI 1))) tyX1 tyX1_ok nmX1 dX1_study_10 rfl hiX1_study_X1 2 lkX1_study_18 rfl (by decide +kernel) (Nat.le_of_ble_eq_true rfl) rfl rfl (by decide) (Nat.le_of_ble_eq_true rfl) rfl rfl rfl ?_
    refine z_n (L' := [(67, (oFrm G (nI 1))), (68, (zI G 12 lea)), (69, (zI G 13 kee)), (70, (zI G 12 own)), (71, (zI G 12 im)), (72, (zI G 7 ren)), (73, (zI G 7 mv))]) rfl ?_
    refine z_aload_n dX1_study_13 rfl rfl ?_
    refine z_get dX1_study_14 rfl hiX1_study_X4 1 lkX1_study_46 (Nat.le_of_ble_eq_true rfl) h2 rfl (by decide) rfl ?_
    refine z_istore_2 dX1_study_17 rfl ?_
    refine z_aload_n dX1_study_18 rfl rfl ?_
    refine z_get dX1_study_19 rfl hiX1_study_X1 1 lkX1_study_15 (Nat.le_of_ble_eq_true rfl) rfl rfl (by decide) rfl ?_
    refine z_iconst (v := nI 0) dX1_study_22 rfl (by decide) ?_
    refine z_callSv (c_fill_69 G ex _ kee (nI 0) rfl) gX1_study_J7_fill_53178 rfl dX1_study_23 rfl rfl okk_J7_fill_53178 ⟨Nat.le_of_ble_eq_true rfl, Nat.le_of_ble_eq_true rfl⟩ ⟨Nat.le_of_ble_eq_true rfl, Nat.le_of_ble_eq_true rfl⟩ (Nat.le_of_ble_eq_true rfl) ?_
    refine z_nn (L' := [(67, (oFrm G (nI 1))), (68, (zI G 12 lea)), (69, (zI G 13 (fillF 13 (nI 0) kee))), (70, (zI G 12 own)), (71, (zI G 12 im)), (72, (zI G 7 ren)), (73, (zI G 7 mv))]) rfl ?_
    refine z_aload_n dX1_study_26 rfl rfl ?_
    refine z_get dX1_study_27 rfl hiX1_study_X4 6 lkX1_study_52 (Nat.le_of_ble_eq_true rfl) h2 rfl (by decide) rfl ?_
    refine z_iconst (v := nI 0) dX1_study_30 rfl (by decide) ?_
    refine z_aload_n dX1_study_31 rfl rfl ?_
    refine z_get dX1_study_32 rfl hiX1_study_X1 3 lkX1_study_22 (Nat.le_of_ble_eq_true rfl) rfl rfl (by decide) rfl ?_
    refine z_iconst (v := nI 0) dX1_study_35 rfl (by decide) ?_
    refine z_iload_n dX1_study_36 rfl rfl ?_
    refine z_copyN (sp9 := 0) (dp9 := 0) (n9 := lns) dX1_study_37 rfl meX1_study_ac1_55 meX1_study_ac2 meX1_study_ac3 meX1_study_ac4 (Nat.le_of_ble_eq_true rfl) h18 (Nat.le_of_ble_eq_true rfl) rfl rfl rfl rfl (by omega) (by omega) (by decide) (by decide) ⟨Nat.le_of_ble_eq_true rfl, Nat.le_of_ble_eq_true rfl⟩ ?_
    refine z_n (L' := [(67, (oFrm G (nI 1))), (68, (zI G 12 lea)), (69, (zI G 13 (fillF 13 (nI 0) kee))), (70, (zI G 12 (va_cpy msk own 0 0 lns))), (71, (zI G 12 im)), (72, (zI G 7 ren)), (73, (zI G 7 mv))]) rfl ?_
    refine z_aload_n dX1_study_40 rfl rfl ?_
    refine z_get dX1_study_41 rfl hiX1_study_X1 3 lkX1_study_22 (Nat.le_of_ble_eq_true rfl) rfl rfl (by decide) rfl ?_
    refine z_iload_n dX1_study_44 rfl rfl ?_
    refine z_callSv (c_X1_sort_70 G ex _ (va_cpy msk own 0 0 lns) lns (by omega) rfl) gX1_study_X1_sort rfl dX1_study_45 rfl rfl okk_X1_sort ⟨Nat.le_of_ble_eq_true rfl, Nat.le_of_ble_eq_true rfl⟩ ⟨Nat.le_of_ble_eq_true rfl, Nat.le_of_ble_eq_true rfl⟩ (Nat.le_of_ble_eq_true rfl) ?_
    refine z_nn (L' := [(67, (oFrm G (nI 1))), (68, (zI G 12 lea)), (69, (zI G 13 (fillF 13 (nI 0) kee))), (70, (zI G 12 (srtF (va_cpy msk own 0 0 lns) lns))), (71, (zI G 12 im)), (72, (zI G 7 ren)), (73, (zI G 7 mv))]) rfl ?_
    refine z_aload_n dX1_study_48 rfl rfl ?_
    refine z_get dX1_study_49 rfl hiX1_study_X1 3 lkX1_study_22 (Nat.le_of_ble_eq_true rfl) rfl rfl (by decide) rfl ?_
    refine z_iconst (v := nI 0) dX1_study_52 rfl (by decide) ?_
    refine z_aload_n dX1_study_53 rfl rfl ?_
    refine z_get dX1_study_54 rfl hiX1_study_X1 0 lkX1_study_9 (Nat.le_of_ble_eq_true rfl) rfl rfl (by decide) rfl ?_
    refine z_iconst (v := nI 0) dX1_study_57 rfl (by decide) ?_
    refine z_iload_n dX1_study_58 rfl rfl ?_
    refine z_copyN (sp9 := 0) (dp9 := 0) (n9 := lns) dX1_study_59 rfl meX1_study_ac1_55 meX1_study_ac2 meX1_study_ac3 meX1_study_ac4 (Nat.le_of_ble_eq_true rfl) rfl (Nat.le_of_ble_eq_true rfl) rfl rfl rfl rfl (by omega) (by omega) (by decide) (by decide) ⟨Nat.le_of_ble_eq_true rfl, Nat.le_of_ble_eq_true rfl⟩ ?_
    refine z_n (L' := [(67, (oFrm G (nI 1))), (68, (zI G 12 (va_cpy (srtF (va_cpy msk own 0 0 lns) lns) lea 0 0 lns))), (69, (zI G 13 (fillF 13 (nI 0) kee))), (70, (zI G 12 (srtF (va_cpy msk own 0 0 lns) lns))), (71, (zI G 12 im)), (72, (zI G 7 ren)), (73, (zI G 7 mv))]) rfl ?_
    refine z_aload_n dX1_study_62 rfl rfl ?_
    refine z_callVv (c_X1_startRenaming G ex _ (nI 1) ren rfl rfl) gX1_study_X1_startRenaming rfl dX1_study_63 rfl rfl rfl okk_X1_startRenaming (Nat.le_of_ble_eq_true rfl) rfl rfl ⟨Nat.le_of_ble_eq_true rfl, Nat.le_of_ble_eq_true rfl⟩ ⟨Nat.le_of_ble_eq_true rfl, Nat.le_of_ble_eq_true rfl⟩ (Nat.le_of_ble_eq_true rfl) ?_
    refine z_nn (L' := [(67, (oFrm G (nI 1))), (68, (zI G 12 (va_cpy (srtF (va_cpy msk own 0 0 lns) lns) lea 0 0 lns))), (69, (zI G 13 (fillF 13 (nI 0) kee))), (70, (zI G 12 (srtF (va_cpy msk own 0 0 lns) lns))), (71, (zI G 12 im)), (72, (zI G 7 (X1_startRenaming_c72 ren))), (73, (zI G 7 mv))]) rfl ?_
    refine z_aload_n dX1_study_66 rfl rfl ?_
    refine z_get dX1_study_67 rfl hiX1_study_X4 0 lkX1_study_67 (Nat.le_of_ble_eq_true rfl) h2 rfl (by decide) rfl ?_
    refine z_callSi (c_X1_factorial G ex _ pts (by omega) (by omega)) gX1_study_X1_factorial rfl dX1_study_70 rfl rfl okk_X1_factorial ⟨Nat.le_of_ble_eq_true rfl, Nat.le_of_ble_eq_true rfl⟩ ⟨Nat.le_of_ble_eq_true rfl, Nat.le_of_ble_eq_true rfl⟩ (Nat.le_of_ble_eq_true rfl) ?_
    refine z_istore_3 dX1_study_73 rfl ?_
    have hfac : X1_factorial_n pts ≤ 5040 := fac_le pts (by omega)
    refine z_iconst (v := nI 0) dX1_study_74 rfl (by decide) ?_
    refine z_istore_4 dX1_study_75 rfl ?_
    refine z_forI (head := fun r (st9 : (Nat → Int32) × (Nat → Int32) × (Nat → Int32) × (Nat → Int32) × (Nat → Int32)) => Z G mX1_study (zrm 2 64) ex _ 77 [some (.ref (zB G + 67)), some (.ref (zB G + 2)), some (.int (nI lns)), some (.int (nI (X1_factorial_n pts))), some (.int (nI r))] [] (zN, zus g [(67, (oFrm G (nI 1))), (68, (zI G 12 st9.1)), (69, (zI G 13 st9.2.1)), (70, (zI G 12 (srtF (va_cpy msk own 0 0 lns) lns))), (71, (zI G 12 st9.2.2.1)), (72, (zI G 7 st9.2.2.2.1)), (73, (zI G 7 st9.2.2.2.2))]) 0 0) (F := (X1_study_L77_F pts lns msk own)) (n := X1_factorial_n pts) (fun _ a => ∀ k, k < 7 → vp_in (a.2.2.2.1 k) 7) (fun i a hi h => by
          unfold X1_study_L77_F
          repeat' split
          all_goals exact next_in hp2 hp h) ?_ (X1_factorial_n pts) 0 (va_cpy (srtF (va_cpy msk own 0 0 lns) lns) lea 0 0 lns, fillF 13 (nI 0) kee, im, X1_startRenaming_c72 ren, mv) (by omega) (fun k hk => by show vp_in (X1_startRenaming_c72 ren k) 7; rw [start_in k hk]; exact vp_in_nI hk (by decide)) ?_
    · intro r a9 hi hI K
      obtain ⟨le1, ke1, im1, re1, mv1⟩ := a9
      have hre : ∀ k, k < 7 → vp_in (re1 k) 7 := hI
      refine z_iload dX1_study_77 rfl rfl ?_
      refine z_iload_n dX1_study_79 rfl rfl ?_
      refine z_icmp_ge (tgt := 177) dX1_study_80 rfl (by decide) (fun c80 => ?_) (fun c80 => ?_)
      · exact absurd c80 (nI_ge hi (by omega))
      · refine z_aload_n dX1_study_83 rfl rfl ?_
        refine z_aload_n dX1_study_84 rfl rfl ?_
        refine z_get dX1_study_85 rfl hiX1_study_X1 3 lkX1_study_22 (Nat.le_of_ble_eq_true rfl) rfl rfl (by decide) rfl ?_
        refine z_iload_n dX1_study_88 rfl rfl ?_
        refine z_callVv (c_X1_rename_70 G ex _ (nI 1) re1 im1 (srtF (va_cpy msk own 0 0 lns) lns) lns (by omega) rfl rfl rfl rfl) gX1_study_X1_rename rfl dX1_study_89 rfl rfl rfl okk_X1_rename (Nat.le_of_ble_eq_true rfl) rfl rfl ⟨Nat.le_of_ble_eq_true rfl, Nat.le_of_ble_eq_true rfl⟩ ⟨Nat.le_of_ble_eq_true rfl, Nat.le_of_ble_eq_true rfl⟩ (Nat.le_of_ble_eq_true rfl) ?_
        refine z_nn (L' := [(67, (oFrm G (nI 1))), (68, (zI G 12 le1)), (69, (zI G 13 ke1)), (70, (zI G 12 (srtF (va_cpy msk own 0 0 lns) lns))), (71, (zI G 12 (X1_rename_c71_70 re1 im1 (srtF (va_cpy msk own 0 0 lns) lns) lns))), (72, (zI G 7 re1)), (73, (zI G 7 mv1))]) rfl ?_
        refine z_aload_n dX1_study_92 rfl rfl ?_
        refine z_get dX1_study_93 rfl hiX1_study_X1 4 lkX1_study_25 (Nat.le_of_ble_eq_true rfl) rfl rfl (by decide) rfl ?_
        refine z_aload_n dX1_study_96 rfl rfl ?_
        refine z_get dX1_study_97 rfl hiX1_study_X1 0 lkX1_study_9 (Nat.le_of_ble_eq_true rfl) rfl rfl (by decide) rfl ?_
        refine z_iload_n dX1_study_100 rfl rfl ?_
        refine z_callSi (c_X1_compareRows G ex _ 71 68 12 12 lns (X1_rename_c71_70 re1 im1 (srtF (va_cpy msk own 0 0 lns) lns) lns) le1 (Nat.le_of_ble_eq_true rfl) (Nat.le_of_ble_eq_true rfl) (by omega) (by omega) (by omega) (by omega) rfl rfl) gX1_study_X1_compareRows rfl dX1_study_101 rfl rfl okk_X1_compareRows ⟨Nat.le_of_ble_eq_true rfl, Nat.le_of_ble_eq_true rfl⟩ ⟨Nat.le_of_ble_eq_true rfl, Nat.le_of_ble_eq_true rfl⟩ (Nat.le_of_ble_eq_true rfl) ?_
        refine z_if_ge (tgt := 121) dX1_study_104 rfl (by decide) (fun c104 => ?_) (fun c104 => ?_)
        · refine z_aload_n dX1_study_121 rfl rfl ?_
          refine z_get dX1_study_122 rfl hiX1_study_X1 4 lkX1_study_25 (Nat.le_of_ble_eq_true rfl) rfl rfl (by decide) rfl ?_
          refine z_aload_n dX1_study_125 rfl rfl ?_
          refine z_get dX1_study_126 rfl hiX1_study_X1 3 lkX1_study_22 (Nat.le_of_ble_eq_true rfl) rfl rfl (by decide) rfl ?_
          refine z_iload_n dX1_study_129 rfl rfl ?_
          refine z_callSi (c_X1_compareRows G ex _ 71 70 12 12 lns (X1_rename_c71_70 re1 im1 (srtF (va_cpy msk own 0 0 lns) lns) lns) (srtF (va_cpy msk own 0 0 lns) lns) (Nat.le_of_ble_eq_true rfl) (Nat.le_of_ble_eq_true rfl) (by omega) (by omega) (by omega) (by omega) rfl rfl) gX1_study_X1_compareRows rfl dX1_study_130 rfl rfl okk_X1_compareRows ⟨Nat.le_of_ble_eq_true rfl, Nat.le_of_ble_eq_true rfl⟩ ⟨Nat.le_of_ble_eq_true rfl, Nat.le_of_ble_eq_true rfl⟩ (Nat.le_of_ble_eq_true rfl) ?_
          refine z_if_ne (tgt := 163) dX1_study_133 rfl (by decide) (fun c133 => ?_) (fun c133 => ?_)
          · refine z_aload_n dX1_study_163 rfl rfl ?_
            refine z_aload_n dX1_study_164 rfl rfl ?_
            refine z_get dX1_study_165 rfl hiX1_study_X4 0 lkX1_study_67 (Nat.le_of_ble_eq_true rfl) h2 rfl (by decide) rfl ?_
            refine z_callVv (c_X1_nextRenaming G ex _ (nI 1) re1 pts (by omega) (by omega) rfl rfl) gX1_study_X1_nextRenaming rfl dX1_study_168 rfl rfl rfl okk_X1_nextRenaming (Nat.le_of_ble_eq_true rfl) rfl rfl ⟨Nat.le_of_ble_eq_true rfl, Nat.le_of_ble_eq_true rfl⟩ ⟨Nat.le_of_ble_eq_true rfl, Nat.le_of_ble_eq_true rfl⟩ (Nat.le_of_ble_eq_true rfl) ?_
            refine z_nn (L' := [(67, (oFrm G (nI 1))), (68, (zI G 12 le1)), (69, (zI G 13 ke1)), (70, (zI G 12 (srtF (va_cpy msk own 0 0 lns) lns))), (71, (zI G 12 (X1_rename_c71_70 re1 im1 (srtF (va_cpy msk own 0 0 lns) lns) lns))), (72, (zI G 7 (X1_nextRenaming_c72 re1 pts))), (73, (zI G 7 mv1))]) rfl ?_
            refine z_iinc_4 (v := nI (r + 1)) dX1_study_171 rfl (zinc _) ?_
            refine z_goto (tgt := 77) dX1_study_174 (by decide) ?_
            have K9 := K
            try simp only [X1_study_L77_F, if_pos c104, if_neg c133] at K9
            exact K9
          · refine z_aload_n dX1_study_136 rfl rfl ?_
            refine z_get dX1_study_137 rfl hiX1_study_X1 1 lkX1_study_15 (Nat.le_of_ble_eq_true rfl) rfl rfl (by decide) rfl ?_
            refine z_iconst (v := nI 0) dX1_study_140 rfl (by decide) ?_
            refine z_dup2 dX1_study_141 rfl rfl rfl ?_
            refine z_ialdN (j := 0) dX1_study_142 rfl (Nat.le_of_ble_eq_true rfl) rfl (rfl) (by omega) (by decide) ?_
            refine z_iconst (v := nI 1) dX1_study_143 rfl (by decide) ?_
            refine z_iadd dX1_study_144 rfl ?_
            refine z_iastN (j := 0) dX1_study_145 rfl (Nat.le_of_ble_eq_true rfl) rfl (rfl) (by omega) (by decide) ?_
            refine z_n (L' := [(67, (oFrm G (nI 1))), (68, (zI G 12 le1)), (69, (zI G 13 (upd ke1 0 ((ke1 0) + (nI 1))))), (70, (zI G 12 (srtF (va_cpy msk own 0 0 lns) lns))), (71, (zI G 12 (X1_rename_c71_70 re1 im1 (srtF (va_cpy msk own 0 0 lns) lns) lns))), (72, (zI G 7 re1)), (73, (zI G 7 mv1))]) rfl ?_
            refine z_aload_n dX1_study_146 rfl rfl ?_
            refine z_get dX1_study_147 rfl hiX1_study_X1 1 lkX1_study_15 (Nat.le_of_ble_eq_true rfl) rfl rfl (by decide) rfl ?_
            refine z_aload_n dX1_study_150 rfl rfl ?_
            refine z_aload_n dX1_study_151 rfl rfl ?_
            refine z_get dX1_study_152 rfl hiX1_study_X4 0 lkX1_study_67 (Nat.le_of_ble_eq_true rfl) h2 rfl (by decide) rfl ?_
            refine z_callVi (c_X1_orderOfRenaming G ex _ (nI 1) re1 mv1 pts (by omega) hre rfl rfl rfl) gX1_study_X1_orderOfRenaming rfl dX1_study_155 rfl rfl rfl okk_X1_orderOfRenaming (Nat.le_of_ble_eq_true rfl) rfl rfl ⟨Nat.le_of_ble_eq_true rfl, Nat.le_of_ble_eq_true rfl⟩ ⟨Nat.le_of_ble_eq_true rfl, Nat.le_of_ble_eq_true rfl⟩ (Nat.le_of_ble_eq_true rfl) ?_
            refine z_nn (L' := [(67, (oFrm G (nI 1))), (68, (zI G 12 le1)), (69, (zI G 13 (upd ke1 0 ((ke1 0) + (nI 1))))), (70, (zI G 12 (srtF (va_cpy msk own 0 0 lns) lns))), (71, (zI G 12 (X1_rename_c71_70 re1 im1 (srtF (va_cpy msk own 0 0 lns) lns) lns))), (72, (zI G 7 re1)), (73, (zI G 7 (X1_orderOfRenaming_c73 re1 mv1 pts)))]) rfl ?_
            refine z_dup2 dX1_study_158 rfl rfl rfl ?_
            refine z_iald dX1_study_159 rfl (Nat.le_of_ble_eq_true rfl) rfl order_in ?_
            refine z_iconst (v := nI 1) dX1_study_160 rfl (by decide) ?_
            refine z_iadd dX1_study_161 rfl ?_
            refine z_iast dX1_study_162 rfl (Nat.le_of_ble_eq_true rfl) rfl order_in ?_
            refine z_n (L' := [(67, (oFrm G (nI 1))), (68, (zI G 12 le1)), (69, (zI G 13 (upd (upd ke1 0 ((ke1 0) + (nI 1))) (X1_orderOfRenaming_v re1 mv1 pts).toNatClampNeg (((upd ke1 0 ((ke1 0) + (nI 1))) (X1_orderOfRenaming_v re1 mv1 pts).toNatClampNeg) + (nI 1))))), (70, (zI G 12 (srtF (va_cpy msk own 0 0 lns) lns))), (71, (zI G 12 (X1_rename_c71_70 re1 im1 (srtF (va_cpy msk own 0 0 lns) lns) lns))), (72, (zI G 7 re1)), (73, (zI G 7 (X1_orderOfRenaming_c73 re1 mv1 pts)))]) rfl ?_
            refine z_aload_n dX1_study_163 rfl rfl ?_
            refine z_aload_n dX1_study_164 rfl rfl ?_
            refine z_get dX1_study_165 rfl hiX1_study_X4 0 lkX1_study_67 (Nat.le_of_ble_eq_true rfl) h2 rfl (by decide) rfl ?_
            refine z_callVv (c_X1_nextRenaming G ex _ (nI 1) re1 pts (by omega) (by omega) rfl rfl) gX1_study_X1_nextRenaming rfl dX1_study_168 rfl rfl rfl okk_X1_nextRenaming (Nat.le_of_ble_eq_true rfl) rfl rfl ⟨Nat.le_of_ble_eq_true rfl, Nat.le_of_ble_eq_true rfl⟩ ⟨Nat.le_of_ble_eq_true rfl, Nat.le_of_ble_eq_true rfl⟩ (Nat.le_of_ble_eq_true rfl) ?_
            refine z_nn (L' := [(67, (oFrm G (nI 1))), (68, (zI G 12 le1)), (69, (zI G 13 (upd (upd ke1 0 ((ke1 0) + (nI 1))) (X1_orderOfRenaming_v re1 mv1 pts).toNatClampNeg (((upd ke1 0 ((ke1 0) + (nI 1))) (X1_orderOfRenaming_v re1 mv1 pts).toNatClampNeg) + (nI 1))))), (70, (zI G 12 (srtF (va_cpy msk own 0 0 lns) lns))), (71, (zI G 12 (X1_rename_c71_70 re1 im1 (srtF (va_cpy msk own 0 0 lns) lns) lns))), (72, (zI G 7 (X1_nextRenaming_c72 re1 pts))), (73, (zI G 7 (X1_orderOfRenaming_c73 re1 mv1 pts)))]) rfl ?_
            refine z_iinc_4 (v := nI (r + 1)) dX1_study_171 rfl (zinc _) ?_
            refine z_goto (tgt := 77) dX1_study_174 (by decide) ?_
            have K9 := K
            try simp only [X1_study_L77_F, if_pos c104, if_pos c133] at K9
            exact K9
        · refine z_aload_n dX1_study_107 rfl rfl ?_
          refine z_get dX1_study_108 rfl hiX1_study_X1 4 lkX1_study_25 (Nat.le_of_ble_eq_true rfl) rfl rfl (by decide) rfl ?_
          refine z_iconst (v := nI 0) dX1_study_111 rfl (by decide) ?_
          refine z_aload_n dX1_study_112 rfl rfl ?_
          refine z_get dX1_study_113 rfl hiX1_study_X1 0 lkX1_study_9 (Nat.le_of_ble_eq_true rfl) rfl rfl (by decide) rfl ?_
          refine z_iconst (v := nI 0) dX1_study_116 rfl (by decide) ?_
          refine z_iload_n dX1_study_117 rfl rfl ?_
          refine z_copyN (sp9 := 0) (dp9 := 0) (n9 := lns) dX1_study_118 rfl meX1_study_ac1_55 meX1_study_ac2 meX1_study_ac3 meX1_study_ac4 (Nat.le_of_ble_eq_true rfl) rfl (Nat.le_of_ble_eq_true rfl) rfl rfl rfl rfl (by omega) (by omega) (by decide) (by decide) ⟨Nat.le_of_ble_eq_true rfl, Nat.le_of_ble_eq_true rfl⟩ ?_
          refine z_n (L' := [(67, (oFrm G (nI 1))), (68, (zI G 12 (va_cpy (X1_rename_c71_70 re1 im1 (srtF (va_cpy msk own 0 0 lns) lns) lns) le1 0 0 lns))), (69, (zI G 13 ke1)), (70, (zI G 12 (srtF (va_cpy msk own 0 0 lns) lns))), (71, (zI G 12 (X1_rename_c71_70 re1 im1 (srtF (va_cpy msk own 0 0 lns) lns) lns))), (72, (zI G 7 re1)), (73, (zI G 7 mv1))]) rfl ?_
          refine z_aload_n dX1_study_121 rfl rfl ?_
          refine z_get dX1_study_122 rfl hiX1_study_X1 4 lkX1_study_25 (Nat.le_of_ble_eq_true rfl) rfl rfl (by decide) rfl ?_
          refine z_aload_n dX1_study_125 rfl rfl ?_
          refine z_get dX1_study_126 rfl hiX1_study_X1 3 lkX1_study_22 (Nat.le_of_ble_eq_true rfl) rfl rfl (by decide) rfl ?_
          refine z_iload_n dX1_study_129 rfl rfl ?_
          refine z_callSi (c_X1_compareRows G ex _ 71 70 12 12 lns (X1_rename_c71_70 re1 im1 (srtF (va_cpy msk own 0 0 lns) lns) lns) (srtF (va_cpy msk own 0 0 lns) lns) (Nat.le_of_ble_eq_true rfl) (Nat.le_of_ble_eq_true rfl) (by omega) (by omega) (by omega) (by omega) rfl rfl) gX1_study_X1_compareRows rfl dX1_study_130 rfl rfl okk_X1_compareRows ⟨Nat.le_of_ble_eq_true rfl, Nat.le_of_ble_eq_true rfl⟩ ⟨Nat.le_of_ble_eq_true rfl, Nat.le_of_ble_eq_true rfl⟩ (Nat.le_of_ble_eq_true rfl) ?_
          refine z_if_ne (tgt := 163) dX1_study_133 rfl (by decide) (fun c133 => ?_) (fun c133 => ?_)
          · refine z_aload_n dX1_study_163 rfl rfl ?_
            refine z_aload_n dX1_study_164 rfl rfl ?_
            refine z_get dX1_study_165 rfl hiX1_study_X4 0 lkX1_study_67 (Nat.le_of_ble_eq_true rfl) h2 rfl (by decide) rfl ?_
            refine z_callVv (c_X1_nextRenaming G ex _ (nI 1) re1 pts (by omega) (by omega) rfl rfl) gX1_study_X1_nextRenaming rfl dX1_study_168 rfl rfl rfl okk_X1_nextRenaming (Nat.le_of_ble_eq_true rfl) rfl rfl ⟨Nat.le_of_ble_eq_true rfl, Nat.le_of_ble_eq_true rfl⟩ ⟨Nat.le_of_ble_eq_true rfl, Nat.le_of_ble_eq_true rfl⟩ (Nat.le_of_ble_eq_true rfl) ?_
            refine z_nn (L' := [(67, (oFrm G (nI 1))), (68, (zI G 12 (va_cpy (X1_rename_c71_70 re1 im1 (srtF (va_cpy msk own 0 0 lns) lns) lns) le1 0 0 lns))), (69, (zI G 13 ke1)), (70, (zI G 12 (srtF (va_cpy msk own 0 0 lns) lns))), (71, (zI G 12 (X1_rename_c71_70 re1 im1 (srtF (va_cpy msk own 0 0 lns) lns) lns))), (72, (zI G 7 (X1_nextRenaming_c72 re1 pts))), (73, (zI G 7 mv1))]) rfl ?_
            refine z_iinc_4 (v := nI (r + 1)) dX1_study_171 rfl (zinc _) ?_
            refine z_goto (tgt := 77) dX1_study_174 (by decide) ?_
            have K9 := K
            try simp only [X1_study_L77_F, if_neg c104, if_neg c133] at K9
            exact K9
          · refine z_aload_n dX1_study_136 rfl rfl ?_
            refine z_get dX1_study_137 rfl hiX1_study_X1 1 lkX1_study_15 (Nat.le_of_ble_eq_true rfl) rfl rfl (by decide) rfl ?_
            refine z_iconst (v := nI 0) dX1_study_140 rfl (by decide) ?_
            refine z_dup2 dX1_study_141 rfl rfl rfl ?_
            refine z_ialdN (j := 0) dX1_study_142 rfl (Nat.le_of_ble_eq_true rfl) rfl (rfl) (by omega) (by decide) ?_
            refine z_iconst (v := nI 1) dX1_study_143 rfl (by decide) ?_
            refine z_iadd dX1_study_144 rfl ?_
            refine z_iastN (j := 0) dX1_study_145 rfl (Nat.le_of_ble_eq_true rfl) rfl (rfl) (by omega) (by decide) ?_
            refine z_n (L' := [(67, (oFrm G (nI 1))), (68, (zI G 12 (va_cpy (X1_rename_c71_70 re1 im1 (srtF (va_cpy msk own 0 0 lns) lns) lns) le1 0 0 lns))), (69, (zI G 13 (upd ke1 0 ((ke1 0) + (nI 1))))), (70, (zI G 12 (srtF (va_cpy msk own 0 0 lns) lns))), (71, (zI G 12 (X1_rename_c71_70 re1 im1 (srtF (va_cpy msk own 0 0 lns) lns) lns))), (72, (zI G 7 re1)), (73, (zI G 7 mv1))]) rfl ?_
            refine z_aload_n dX1_study_146 rfl rfl ?_
            refine z_get dX1_study_147 rfl hiX1_study_X1 1 lkX1_study_15 (Nat.le_of_ble_eq_true rfl) rfl rfl (by decide) rfl ?_
            refine z_aload_n dX1_study_150 rfl rfl ?_
            refine z_aload_n dX1_study_151 rfl rfl ?_
            refine z_get dX1_study_152 rfl hiX1_study_X4 0 lkX1_study_67 (Nat.le_of_ble_eq_true rfl) h2 rfl (by decide) rfl ?_
            refine z_callVi (c_X1_orderOfRenaming G ex _ (nI 1) re1 mv1 pts (by omega) hre rfl rfl rfl) gX1_study_X1_orderOfRenaming rfl dX1_study_155 rfl rfl rfl okk_X1_orderOfRenaming (Nat.le_of_ble_eq_true rfl) rfl rfl ⟨Nat.le_of_ble_eq_true rfl, Nat.le_of_ble_eq_true rfl⟩ ⟨Nat.le_of_ble_eq_true rfl, Nat.le_of_ble_eq_true rfl⟩ (Nat.le_of_ble_eq_true rfl) ?_
            refine z_nn (L' := [(67, (oFrm G (nI 1))), (68, (zI G 12 (va_cpy (X1_rename_c71_70 re1 im1 (srtF (va_cpy msk own 0 0 lns) lns) lns) le1 0 0 lns))), (69, (zI G 13 (upd ke1 0 ((ke1 0) + (nI 1))))), (70, (zI G 12 (srtF (va_cpy msk own 0 0 lns) lns))), (71, (zI G 12 (X1_rename_c71_70 re1 im1 (srtF (va_cpy msk own 0 0 lns) lns) lns))), (72, (zI G 7 re1)), (73, (zI G 7 (X1_orderOfRenaming_c73 re1 mv1 pts)))]) rfl ?_
            refine z_dup2 dX1_study_158 rfl rfl rfl ?_
            refine z_iald dX1_study_159 rfl (Nat.le_of_ble_eq_true rfl) rfl order_in ?_
            refine z_iconst (v := nI 1) dX1_study_160 rfl (by decide) ?_
            refine z_iadd dX1_study_161 rfl ?_
            refine z_iast dX1_study_162 rfl (Nat.le_of_ble_eq_true rfl) rfl order_in ?_
            refine z_n (L' := [(67, (oFrm G (nI 1))), (68, (zI G 12 (va_cpy (X1_rename_c71_70 re1 im1 (srtF (va_cpy msk own 0 0 lns) lns) lns) le1 0 0 lns))), (69, (zI G 13 (upd (upd ke1 0 ((ke1 0) + (nI 1))) (X1_orderOfRenaming_v re1 mv1 pts).toNatClampNeg (((upd ke1 0 ((ke1 0) + (nI 1))) (X1_orderOfRenaming_v re1 mv1 pts).toNatClampNeg) + (nI 1))))), (70, (zI G 12 (srtF (va_cpy msk own 0 0 lns) lns))), (71, (zI G 12 (X1_rename_c71_70 re1 im1 (srtF (va_cpy msk own 0 0 lns) lns) lns))), (72, (zI G 7 re1)), (73, (zI G 7 (X1_orderOfRenaming_c73 re1 mv1 pts)))]) rfl ?_
            refine z_aload_n dX1_study_163 rfl rfl ?_
            refine z_aload_n dX1_study_164 rfl rfl ?_
            refine z_get dX1_study_165 rfl hiX1_study_X4 0 lkX1_study_67 (Nat.le_of_ble_eq_true rfl) h2 rfl (by decide) rfl ?_
            refine z_callVv (c_X1_nextRenaming G ex _ (nI 1) re1 pts (by omega) (by omega) rfl rfl) gX1_study_X1_nextRenaming rfl dX1_study_168 rfl rfl rfl okk_X1_nextRenaming (Nat.le_of_ble_eq_true rfl) rfl rfl ⟨Nat.le_of_ble_eq_true rfl, Nat.le_of_ble_eq_true rfl⟩ ⟨Nat.le_of_ble_eq_true rfl, Nat.le_of_ble_eq_true rfl⟩ (Nat.le_of_ble_eq_true rfl) ?_
            refine z_nn (L' := [(67, (oFrm G (nI 1))), (68, (zI G 12 (va_cpy (X1_rename_c71_70 re1 im1 (srtF (va_cpy msk own 0 0 lns) lns) lns) le1 0 0 lns))), (69, (zI G 13 (upd (upd ke1 0 ((ke1 0) + (nI 1))) (X1_orderOfRenaming_v re1 mv1 pts).toNatClampNeg (((upd ke1 0 ((ke1 0) + (nI 1))) (X1_orderOfRenaming_v re1 mv1 pts).toNatClampNeg) + (nI 1))))), (70, (zI G 12 (srtF (va_cpy msk own 0 0 lns) lns))), (71, (zI G 12 (X1_rename_c71_70 re1 im1 (srtF (va_cpy msk own 0 0 lns) lns) lns))), (72, (zI G 7 (X1_nextRenaming_c72 re1 pts))), (73, (zI G 7 (X1_orderOfRenaming_c73 re1 mv1 pts)))]) rfl ?_
            refine z_iinc_4 (v := nI (r + 1)) dX1_study_171 rfl (zinc _) ?_
            refine z_goto (tgt := 77) dX1_study_174 (by decide) ?_
            have K9 := K
            try simp only [X1_study_L77_F, if_neg c104, if_pos c133] at K9
            exact K9
    · intro hI
      refine z_iload dX1_study_77 rfl rfl ?_
      refine z_iload_n dX1_study_79 rfl rfl ?_
      refine z_icmp_ge (tgt := 177) dX1_study_80 rfl (by decide) (fun c80 => ?_) (fun c80 => ?_)
      · exact z_return dX1_study_177 rfl (Nat.le_refl _) (Nat.le_refl _) (fun _ => rfl) ⟨rfl, by simp only [X1_study_p67_0, X1_study_c68, X1_study_c69, X1_study_c70, X1_study_c71, X1_study_c72, X1_study_c73, if_pos c4]⟩
      · exact absurd (nI_le (Nat.le_refl _) (by omega)) c80
  · exact z_return dX1_study_7 rfl (Nat.le_refl _) (Nat.le_refl _) (fun _ => rfl) ⟨rfl, by simp only [X1_study_p67_0, X1_study_c68, X1_study_c69, X1_study_c70, X1_study_c71, X1_study_c72, X1_study_c73, if_neg c4]⟩
set_option maxRecDepth 100000 in
set_option maxHeartbeats 4000000 in
theorem c_X1_study_19 (G : zG) (ex : Bool) (g : Nat → va_E) (sd : Int32) (pts lns : Nat) (ltr inw : Int32) (msk lea kee own im ren mv : Nat → Int32) (hp2 : 2 ≤ pts) (hp : pts ≤ 7) (hl : lns ≤ 12) (h67 : g 67 = (oFrm G sd)) (h19 : g 19 = (oTxt G 19 (nI pts) (nI lns) ltr inw)) (h35 : g 35 = (zI G 12 msk)) (h68 : g 68 = (zI G 12 lea)) (h69 : g 69 = (zI G 13 kee)) (h70 : g 70 = (zI G 12 own)) (h71 : g 71 = (zI G 12 im)) (h72 : g 72 = (zI G 7 ren)) (h73 : g 73 = (zI G 7 mv)) : zC G yX1_study wsX1_study (zrm 2 64) ex [.ref (zB G + 67), .ref (zB G + 19)] (zN, g) (fun r h => r = none ∧ h = (zN, zus g [(67, (oFrm G (X1_study_p67_0 sd))), (68, zI G 12 (X1_study_c68 sd pts lns msk lea kee own im ren mv)), (69, zI G 13 (X1_study_c69 sd pts lns msk lea kee own im ren mv)), (70, zI G 12 (X1_study_c70 sd lns msk own)), (71, zI G 12 (X1_study_c71 sd pts lns msk lea kee own im ren mv)), (72, zI G 7 (X1_study_c72 sd pts lns msk lea kee own im ren mv)), (73, zI G 7 (X1_study_c73 sd pts lns msk lea kee own im ren mv))])) := by
  refine zC_of mX1_study (lv := [some (.ref (zB G + 67)), some (.ref (zB G + 19)), none, none, none]) rfl rfl (by decide) (by intro v hv; simp at hv; rcases hv with rfl | rfl <;> rfl) (Nat.le_of_ble_eq_true rfl) rfl ?_
  refine z_0 ?_
  refine z_heap (g' := zu (zus g []) 67 (oFrm G sd)) (zu_self (zus g []) 67 _ h67).symm ?_
  refine z_n (L' := [(67, (oFrm G sd))]) rfl ?_
  refine z_heap (g' := zu (zus g [(67, (oFrm G sd))]) 68 (zI G 12 lea)) (zu_self (zus g [(67, (oFrm G sd))]) 68 _ h68).symm ?_
  refine z_n (L' := [(67, (oFrm G sd)), (68, (zI G 12 lea))]) rfl ?_
  refine z_heap (g' := zu (zus g [(67, (oFrm G sd)), (68, (zI G 12 lea))]) 69 (zI G 13 kee)) (zu_self (zus g [(67, (oFrm G sd)), (68, (zI G 12 lea))]) 69 _ h69).symm ?_
  refine z_n (L' := [(67, (oFrm G sd)), (68, (zI G 12 lea)), (69, (zI G 13 kee))]) rfl ?_
  refine z_heap (g' := zu (zus g [(67, (oFrm G sd)), (68, (zI G 12 lea)), (69, (zI G 13 kee))]) 70 (zI G 12 own)) (zu_self (zus g [(67, (oFrm G sd)), (68, (zI G 12 lea)), (69, (zI G 13 kee))]) 70 _ h70).symm ?_
  refine z_n (L' := [(67, (oFrm G sd)), (68, (zI G 12 lea)), (69, (zI G 13 kee)), (70, (zI G 12 own))]) rfl ?_
  refine z_heap (g' := zu (zus g [(67, (oFrm G sd)), (68, (zI G 12 lea)), (69, (zI G 13 kee)), (70, (zI G 12 own))]) 71 (zI G 12 im)) (zu_self (zus g [(67, (oFrm G sd)), (68, (zI G 12 lea)), (69, (zI G 13 kee)), (70, (zI G 12 own))]) 71 _ h71).symm ?_
  refine z_n (L' := [(67, (oFrm G sd)), (68, (zI G 12 lea)), (69, (zI G 13 kee)), (70, (zI G 12 own)), (71, (zI G 12 im))]) rfl ?_
  refine z_heap (g' := zu (zus g [(67, (oFrm G sd)), (68, (zI G 12 lea)), (69, (zI G 13 kee)), (70, (zI G 12 own)), (71, (zI G 12 im))]) 72 (zI G 7 ren)) (zu_self (zus g [(67, (oFrm G sd)), (68, (zI G 12 lea)), (69, (zI G 13 kee)), (70, (zI G 12 own)), (71, (zI G 12 im))]) 72 _ h72).symm ?_
  refine z_n (L' := [(67, (oFrm G sd)), (68, (zI G 12 lea)), (69, (zI G 13 kee)), (70, (zI G 12 own)), (71, (zI G 12 im)), (72, (zI G 7 ren))]) rfl ?_
  refine z_heap (g' := zu (zus g [(67, (oFrm G sd)), (68, (zI G 12 lea)), (69, (zI G 13 kee)), (70, (zI G 12 own)), (71, (zI G 12 im)), (72, (zI G 7 ren))]) 73 (zI G 7 mv)) (zu_self (zus g [(67, (oFrm G sd)), (68, (zI G 12 lea)), (69, (zI G 13 kee)), (70, (zI G 12 own)), (71, (zI G 12 im)), (72, (zI G 7 ren))]) 73 _ h73).symm ?_
  refine z_n (L' := [(67, (oFrm G sd)), (68, (zI G 12 lea)), (69, (zI G 13 kee)), (70, (zI G 12 own)), (71, (zI G 12 im)), (72, (zI G 7 ren)), (73, (zI G 7 mv))]) rfl ?_
  refine z_aload_n dX1_study_0 rfl rfl ?_
  refine z_get dX1_study_1 rfl hiX1_study_X1 2 lkX1_study_18 (Nat.le_of_ble_eq_true rfl) rfl rfl (by decide) rfl ?_
  refine z_if_eq (tgt := 8) dX1_study_4 rfl (by decide) (fun c4 => ?_) (fun c4 => ?_)
  · refine z_aload_n dX1_study_8 rfl rfl ?_
    refine z_iconst (v := nI 1) dX1_study_9 rfl (by decide) ?_
    refine z_putN (e9 := (oFrm G (nI 1))) tyX1 tyX1_ok nmX1 dX1_study_10 rfl hiX1_study_X1 2 lkX1_study_18 rfl (by decide +kernel) (Nat.le_of_ble_eq_true rfl) rfl rfl (by decide) (Nat.le_of_ble_eq_true rfl) rfl rfl rfl ?_
    refine z_n (L' := [(67, (oFrm G (nI 1))), (68, (zI G 12 lea)), (69, (zI G 13 kee)), (70, (zI G 12 own)), (71, (zI G 12 im)), (72, (zI G 7 ren)), (73, (zI G 7 mv))]) rfl ?_
    refine z_aload_n dX1_study_13 rfl rfl ?_
    refine z_get dX1_study_14 rfl hiX1_study_X4 1 lkX1_study_46 (Nat.le_of_ble_eq_true rfl) h19 rfl (by decide) rfl ?_
    refine z_istore_2 dX1_study_17 rfl ?_
    refine z_aload_n dX1_study_18 rfl rfl ?_
    refine z_get dX1_study_19 rfl hiX1_study_X1 1 lkX1_study_15 (Nat.le_of_ble_eq_true rfl) rfl rfl (by decide) rfl ?_
    refine z_iconst (v := nI 0) dX1_study_22 rfl (by decide) ?_
    refine z_callSv (c_fill_69 G ex _ kee (nI 0) rfl) gX1_study_J7_fill_53178 rfl dX1_study_23 rfl rfl okk_J7_fill_53178 ⟨Nat.le_of_ble_eq_true rfl, Nat.le_of_ble_eq_true rfl⟩ ⟨Nat.le_of_ble_eq_true rfl, Nat.le_of_ble_eq_true rfl⟩ (Nat.le_of_ble_eq_true rfl) ?_
    refine z_nn (L' := [(67, (oFrm G (nI 1))), (68, (zI G 12 lea)), (69, (zI G 13 (fillF 13 (nI 0) kee))), (70, (zI G 12 own)), (71, (zI G 12 im)), (72, (zI G 7 ren)), (73, (zI G 7 mv))]) rfl ?_
    refine z_aload_n dX1_study_26 rfl rfl ?_
    refine z_get dX1_study_27 rfl hiX1_study_X4 6 lkX1_study_52 (Nat.le_of_ble_eq_true rfl) h19 rfl (by decide) rfl ?_
    refine z_iconst (v := nI 0) dX1_study_30 rfl (by decide) ?_
    refine z_aload_n dX1_study_31 rfl rfl ?_
    refine z_get dX1_study_32 rfl hiX1_study_X1 3 lkX1_study_22 (Nat.le_of_ble_eq_true rfl) rfl rfl (by decide) rfl ?_
    refine z_iconst (v := nI 0) dX1_study_35 rfl (by decide) ?_
    refine z_iload_n dX1_study_36 rfl rfl ?_
    refine z_copyN (sp9 := 0) (dp9 := 0) (n9 := lns) dX1_study_37 rfl meX1_study_ac1_55 meX1_study_ac2 meX1_study_ac3 meX1_study_ac4 (Nat.le_of_ble_eq_true rfl) h35 (Nat.le_of_ble_eq_true rfl) rfl rfl rfl rfl (by omega) (by omega) (by decide) (by decide) ⟨Nat.le_of_ble_eq_true rfl, Nat.le_of_ble_eq_true rfl⟩ ?_
    refine z_n (L' := [(67, (oFrm G (nI 1))), (68, (zI G 12 lea)), (69, (zI G 13 (fillF 13 (nI 0) kee))), (70, (zI G 12 (va_cpy msk own 0 0 lns))), (71, (zI G 12 im)), (72, (zI G 7 ren)), (73, (zI G 7 mv))]) rfl ?_
    refine z_aload_n dX1_study_40 rfl rfl ?_
    refine z_get dX1_study_41 rfl hiX1_study_X1 3 lkX1_study_22 (Nat.le_of_ble_eq_true rfl) rfl rfl (by decide) rfl ?_
    refine z_iload_n dX1_study_44 rfl rfl ?_
    refine z_callSv (c_X1_sort_70 G ex _ (va_cpy msk own 0 0 lns) lns (by omega) rfl) gX1_study_X1_sort rfl dX1_study_45 rfl rfl okk_X1_sort ⟨Nat.le_of_ble_eq_true rfl, Nat.le_of_ble_eq_true rfl⟩ ⟨Nat.le_of_ble_eq_true rfl, Nat.le_of_ble_eq_true rfl⟩ (Nat.le_of_ble_eq_true rfl) ?_
    refine z_nn (L' := [(67, (oFrm G (nI 1))), (68, (zI G 12 lea)), (69, (zI G 13 (fillF 13 (nI 0) kee))), (70, (zI G 12 (srtF (va_cpy msk own 0 0 lns) lns))), (71, (zI G 12 im)), (72, (zI G 7 ren)), (73, (zI G 7 mv))]) rfl ?_
    refine z_aload_n dX1_study_48 rfl rfl ?_
    refine z_get dX1_study_49 rfl hiX1_study_X1 3 lkX1_study_22 (Nat.le_of_ble_eq_true rfl) rfl rfl (by decide) rfl ?_
    refine z_iconst (v := nI 0) dX1_study_52 rfl (by decide) ?_
    refine z_aload_n dX1_study_53 rfl rfl ?_
    refine z_get dX1_study_54 rfl hiX1_study_X1 0 lkX1_study_9 (Nat.le_of_ble_eq_true rfl) rfl rfl (by decide) rfl ?_
    refine z_iconst (v := nI 0) dX1_study_57 rfl (by decide) ?_
    refine z_iload_n dX1_study_58 rfl rfl ?_
    refine z_copyN (sp9 := 0) (dp9 := 0) (n9 := lns) dX1_study_59 rfl meX1_study_ac1_55 meX1_study_ac2 meX1_study_ac3 meX1_study_ac4 (Nat.le_of_ble_eq_true rfl) rfl (Nat.le_of_ble_eq_true rfl) rfl rfl rfl rfl (by omega) (by omega) (by decide) (by decide) ⟨Nat.le_of_ble_eq_true rfl, Nat.le_of_ble_eq_true rfl⟩ ?_
    refine z_n (L' := [(67, (oFrm G (nI 1))), (68, (zI G 12 (va_cpy (srtF (va_cpy msk own 0 0 lns) lns) lea 0 0 lns))), (69, (zI G 13 (fillF 13 (nI 0) kee))), (70, (zI G 12 (srtF (va_cpy msk own 0 0 lns) lns))), (71, (zI G 12 im)), (72, (zI G 7 ren)), (73, (zI G 7 mv))]) rfl ?_
    refine z_aload_n dX1_study_62 rfl rfl ?_
    refine z_callVv (c_X1_startRenaming G ex _ (nI 1) ren rfl rfl) gX1_study_X1_startRenaming rfl dX1_study_63 rfl rfl rfl okk_X1_startRenaming (Nat.le_of_ble_eq_true rfl) rfl rfl ⟨Nat.le_of_ble_eq_true rfl, Nat.le_of_ble_eq_true rfl⟩ ⟨Nat.le_of_ble_eq_true rfl, Nat.le_of_ble_eq_true rfl⟩ (Nat.le_of_ble_eq_true rfl) ?_
    refine z_nn (L' := [(67, (oFrm G (nI 1))), (68, (zI G 12 (va_cpy (srtF (va_cpy msk own 0 0 lns) lns) lea 0 0 lns))), (69, (zI G 13 (fillF 13 (nI 0) kee))), (70, (zI G 12 (srtF (va_cpy msk own 0 0 lns) lns))), (71, (zI G 12 im)), (72, (zI G 7 (X1_startRenaming_c72 ren))), (73, (zI G 7 mv))]) rfl ?_
    refine z_aload_n dX1_study_66 rfl rfl ?_
    refine z_get dX1_study_67 rfl hiX1_study_X4 0 lkX1_study_67 (Nat.le_of_ble_eq_true rfl) h19 rfl (by decide) rfl ?_
    refine z_callSi (c_X1_factorial G ex _ pts (by omega) (by omega)) gX1_study_X1_factorial rfl dX1_study_70 rfl rfl okk_X1_factorial ⟨Nat.le_of_ble_eq_true rfl, Nat.le_of_ble_eq_true rfl⟩ ⟨Nat.le_of_ble_eq_true rfl, Nat.le_of_ble_eq_true rfl⟩ (Nat.le_of_ble_eq_true rfl) ?_
    refine z_istore_3 dX1_study_73 rfl ?_
    have hfac : X1_factorial_n pts ≤ 5040 := fac_le pts (by omega)
    refine z_iconst (v := nI 0) dX1_study_74 rfl (by decide) ?_
    refine z_istore_4 dX1_study_75 rfl ?_
    refine z_forI (head := fun r (st9 : (Nat → Int32) × (Nat → Int32) × (Nat → Int32) × (Nat → Int32) × (Nat → Int32)) => Z G mX1_study (zrm 2 64) ex _ 77 [some (.ref (zB G + 67)), some (.ref (zB G + 19)), some (.int (nI lns)), some (.int (nI (X1_factorial_n pts))), some (.int (nI r))] [] (zN, zus g [(67, (oFrm G (nI 1))), (68, (zI G 12 st9.1)), (69, (zI G 13 st9.2.1)), (70, (zI G 12 (srtF (va_cpy msk own 0 0 lns) lns))), (71, (zI G 12 st9.2.2.1)), (72, (zI G 7 st9.2.2.2.1)), (73, (zI G 7 st9.2.2.2.2))]) 0 0) (F := (X1_study_L77_F pts lns msk own)) (n := X1_factorial_n pts) (fun _ a => ∀ k, k < 7 → vp_in (a.2.2.2.1 k) 7) (fun i a hi h => by
          unfold X1_study_L77_F
          repeat' split
          all_goals exact next_in hp2 hp h) ?_ (X1_factorial_n pts) 0 (va_cpy (srtF (va_cpy msk own 0 0 lns) lns) lea 0 0 lns, fillF 13 (nI 0) kee, im, X1_startRenaming_c72 ren, mv) (by omega) (fun k hk => by show vp_in (X1_startRenaming_c72 ren k) 7; rw [start_in k hk]; exact vp_in_nI hk (by decide)) ?_
    · intro r a9 hi hI K
      obtain ⟨le1, ke1, im1, re1, mv1⟩ := a9
      have hre : ∀ k, k < 7 → vp_in (re1 k) 7 := hI
      refine z_iload dX1_study_77 rfl rfl ?_
      refine z_iload_n dX1_study_79 rfl rfl ?_
      refine z_icmp_ge (tgt := 177) dX1_study_80 rfl (by decide) (fun c80 => ?_) (fun c80 => ?_)
      · exact absurd c80 (nI_ge hi (by omega))
      · refine z_aload_n dX1_study_83 rfl rfl ?_
        refine z_aload_n dX1_study_84 rfl rfl ?_
        refine z_get dX1_study_85 rfl hiX1_study_X1 3 lkX1_study_22 (Nat.le_of_ble_eq_true rfl) rfl rfl (by decide) rfl ?_
        refine z_iload_n dX1_study_88 rfl rfl ?_
        refine z_callVv (c_X1_rename_70 G ex _ (nI 1) re1 im1 (srtF (va_cpy msk own 0 0 lns) lns) lns (by omega) rfl rfl rfl rfl) gX1_study_X1_rename rfl dX1_study_89 rfl rfl rfl okk_X1_rename (Nat.le_of_ble_eq_true rfl) rfl rfl ⟨Nat.le_of_ble_eq_true rfl, Nat.le_of_ble_eq_true rfl⟩ ⟨Nat.le_of_ble_eq_true rfl, Nat.le_of_ble_eq_true rfl⟩ (Nat.le_of_ble_eq_true rfl) ?_
        refine z_nn (L' := [(67, (oFrm G (nI 1))), (68, (zI G 12 le1)), (69, (zI G 13 ke1)), (70, (zI G 12 (srtF (va_cpy msk own 0 0 lns) lns))), (71, (zI G 12 (X1_rename_c71_70 re1 im1 (srtF (va_cpy msk own 0 0 lns) lns) lns))), (72, (zI G 7 re1)), (73, (zI G 7 mv1))]) rfl ?_
        refine z_aload_n dX1_study_92 rfl rfl ?_
        refine z_get dX1_study_93 rfl hiX1_study_X1 4 lkX1_study_25 (Nat.le_of_ble_eq_true rfl) rfl rfl (by decide) rfl ?_
        refine z_aload_n dX1_study_96 rfl rfl ?_
        refine z_get dX1_study_97 rfl hiX1_study_X1 0 lkX1_study_9 (Nat.le_of_ble_eq_true rfl) rfl rfl (by decide) rfl ?_
        refine z_iload_n dX1_study_100 rfl rfl ?_
        refine z_callSi (c_X1_compareRows G ex _ 71 68 12 12 lns (X1_rename_c71_70 re1 im1 (srtF (va_cpy msk own 0 0 lns) lns) lns) le1 (Nat.le_of_ble_eq_true rfl) (Nat.le_of_ble_eq_true rfl) (by omega) (by omega) (by omega) (by omega) rfl rfl) gX1_study_X1_compareRows rfl dX1_study_101 rfl rfl okk_X1_compareRows ⟨Nat.le_of_ble_eq_true rfl, Nat.le_of_ble_eq_true rfl⟩ ⟨Nat.le_of_ble_eq_true rfl, Nat.le_of_ble_eq_true rfl⟩ (Nat.le_of_ble_eq_true rfl) ?_
        refine z_if_ge (tgt := 121) dX1_study_104 rfl (by decide) (fun c104 => ?_) (fun c104 => ?_)
        · refine z_aload_n dX1_study_121 rfl rfl ?_
          refine z_get dX1_study_122 rfl hiX1_study_X1 4 lkX1_study_25 (Nat.le_of_ble_eq_true rfl) rfl rfl (by decide) rfl ?_
          refine z_aload_n dX1_study_125 rfl rfl ?_
          refine z_get dX1_study_126 rfl hiX1_study_X1 3 lkX1_study_22 (Nat.le_of_ble_eq_true rfl) rfl rfl (by decide) rfl ?_
          refine z_iload_n dX1_study_129 rfl rfl ?_
          refine z_callSi (c_X1_compareRows G ex _ 71 70 12 12 lns (X1_rename_c71_70 re1 im1 (srtF (va_cpy msk own 0 0 lns) lns) lns) (srtF (va_cpy msk own 0 0 lns) lns) (Nat.le_of_ble_eq_true rfl) (Nat.le_of_ble_eq_true rfl) (by omega) (by omega) (by omega) (by omega) rfl rfl) gX1_study_X1_compareRows rfl dX1_study_130 rfl rfl okk_X1_compareRows ⟨Nat.le_of_ble_eq_true rfl, Nat.le_of_ble_eq_true rfl⟩ ⟨Nat.le_of_ble_eq_true rfl, Nat.le_of_ble_eq_true rfl⟩ (Nat.le_of_ble_eq_true rfl) ?_
          refine z_if_ne (tgt := 163) dX1_study_133 rfl (by decide) (fun c133 => ?_) (fun c133 => ?_)
          · refine z_aload_n dX1_study_163 rfl rfl ?_
            refine z_aload_n dX1_study_164 rfl rfl ?_
            refine z_get dX1_study_165 rfl hiX1_study_X4 0 lkX1_study_67 (Nat.le_of_ble_eq_true rfl) h19 rfl (by decide) rfl ?_
            refine z_callVv (c_X1_nextRenaming G ex _ (nI 1) re1 pts (by omega) (by omega) rfl rfl) gX1_study_X1_nextRenaming rfl dX1_study_168 rfl rfl rfl okk_X1_nextRenaming (Nat.le_of_ble_eq_true rfl) rfl rfl ⟨Nat.le_of_ble_eq_true rfl, Nat.le_of_ble_eq_true rfl⟩ ⟨Nat.le_of_ble_eq_true rfl, Nat.le_of_ble_eq_true rfl⟩ (Nat.le_of_ble_eq_true rfl) ?_
            refine z_nn (L' := [(67, (oFrm G (nI 1))), (68, (zI G 12 le1)), (69, (zI G 13 ke1)), (70, (zI G 12 (srtF (va_cpy msk own 0 0 lns) lns))), (71, (zI G 12 (X1_rename_c71_70 re1 im1 (srtF (va_cpy msk own 0 0 lns) lns) lns))), (72, (zI G 7 (X1_nextRenaming_c72 re1 pts))), (73, (zI G 7 mv1))]) rfl ?_
            refine z_iinc_4 (v := nI (r + 1)) dX1_study_171 rfl (zinc _) ?_
            refine z_goto (tgt := 77) dX1_study_174 (by decide) ?_
            have K9 := K
            try simp only [X1_study_L77_F, if_pos c104, if_neg c133] at K9
            exact K9
          · refine z_aload_n dX1_study_136 rfl rfl ?_
            refine z_get dX1_study_137 rfl hiX1_study_X1 1 lkX1_study_15 (Nat.le_of_ble_eq_true rfl) rfl rfl (by decide) rfl ?_
            refine z_iconst (v := nI 0) dX1_study_140 rfl (by decide) ?_
            refine z_dup2 dX1_study_141 rfl rfl rfl ?_
            refine z_ialdN (j := 0) dX1_study_142 rfl (Nat.le_of_ble_eq_true rfl) rfl (rfl) (by omega) (by decide) ?_
            refine z_iconst (v := nI 1) dX1_study_143 rfl (by decide) ?_
            refine z_iadd dX1_study_144 rfl ?_
            refine z_iastN (j := 0) dX1_study_145 rfl (Nat.le_of_ble_eq_true rfl) rfl (rfl) (by omega) (by decide) ?_
            refine z_n (L' := [(67, (oFrm G (nI 1))), (68, (zI G 12 le1)), (69, (zI G 13 (upd ke1 0 ((ke1 0) + (nI 1))))), (70, (zI G 12 (srtF (va_cpy msk own 0 0 lns) lns))), (71, (zI G 12 (X1_rename_c71_70 re1 im1 (srtF (va_cpy msk own 0 0 lns) lns) lns))), (72, (zI G 7 re1)), (73, (zI G 7 mv1))]) rfl ?_
            refine z_aload_n dX1_study_146 rfl rfl ?_
            refine z_get dX1_study_147 rfl hiX1_study_X1 1 lkX1_study_15 (Nat.le_of_ble_eq_true rfl) rfl rfl (by decide) rfl ?_
            refine z_aload_n dX1_study_150 rfl rfl ?_
            refine z_aload_n dX1_study_151 rfl rfl ?_
            refine z_get dX1_study_152 rfl hiX1_study_X4 0 lkX1_study_67 (Nat.le_of_ble_eq_true rfl) h19 rfl (by decide) rfl ?_
            refine z_callVi (c_X1_orderOfRenaming G ex _ (nI 1) re1 mv1 pts (by omega) hre rfl rfl rfl) gX1_study_X1_orderOfRenaming rfl dX1_study_155 rfl rfl rfl okk_X1_orderOfRenaming (Nat.le_of_ble_eq_true rfl) rfl rfl ⟨Nat.le_of_ble_eq_true rfl, Nat.le_of_ble_eq_true rfl⟩ ⟨Nat.le_of_ble_eq_true rfl, Nat.le_of_ble_eq_true rfl⟩ (Nat.le_of_ble_eq_true rfl) ?_
            refine z_nn (L' := [(67, (oFrm G (nI 1))), (68, (zI G 12 le1)), (69, (zI G 13 (upd ke1 0 ((ke1 0) + (nI 1))))), (70, (zI G 12 (srtF (va_cpy msk own 0 0 lns) lns))), (71, (zI G 12 (X1_rename_c71_70 re1 im1 (srtF (va_cpy msk own 0 0 lns) lns) lns))), (72, (zI G 7 re1)), (73, (zI G 7 (X1_orderOfRenaming_c73 re1 mv1 pts)))]) rfl ?_
            refine z_dup2 dX1_study_158 rfl rfl rfl ?_
            refine z_iald dX1_study_159 rfl (Nat.le_of_ble_eq_true rfl) rfl order_in ?_
            refine z_iconst (v := nI 1) dX1_study_160 rfl (by decide) ?_
            refine z_iadd dX1_study_161 rfl ?_
            refine z_iast dX1_study_162 rfl (Nat.le_of_ble_eq_true rfl) rfl order_in ?_
            refine z_n (L' := [(67, (oFrm G (nI 1))), (68, (zI G 12 le1)), (69, (zI G 13 (upd (upd ke1 0 ((ke1 0) + (nI 1))) (X1_orderOfRenaming_v re1 mv1 pts).toNatClampNeg (((upd ke1 0 ((ke1 0) + (nI 1))) (X1_orderOfRenaming_v re1 mv1 pts).toNatClampNeg) + (nI 1))))), (70, (zI G 12 (srtF (va_cpy msk own 0 0 lns) lns))), (71, (zI G 12 (X1_rename_c71_70 re1 im1 (srtF (va_cpy msk own 0 0 lns) lns) lns))), (72, (zI G 7 re1)), (73, (zI G 7 (X1_orderOfRenaming_c73 re1 mv1 pts)))]) rfl ?_
            refine z_aload_n dX1_study_163 rfl rfl ?_
            refine z_aload_n dX1_study_164 rfl rfl ?_
            refine z_get dX1_study_165 rfl hiX1_study_X4 0 lkX1_study_67 (Nat.le_of_ble_eq_true rfl) h19 rfl (by decide) rfl ?_
            refine z_callVv (c_X1_nextRenaming G ex _ (nI 1) re1 pts (by omega) (by omega) rfl rfl) gX1_study_X1_nextRenaming rfl dX1_study_168 rfl rfl rfl okk_X1_nextRenaming (Nat.le_of_ble_eq_true rfl) rfl rfl ⟨Nat.le_of_ble_eq_true rfl, Nat.le_of_ble_eq_true rfl⟩ ⟨Nat.le_of_ble_eq_true rfl, Nat.le_of_ble_eq_true rfl⟩ (Nat.le_of_ble_eq_true rfl) ?_
            refine z_nn (L' := [(67, (oFrm G (nI 1))), (68, (zI G 12 le1)), (69, (zI G 13 (upd (upd ke1 0 ((ke1 0) + (nI 1))) (X1_orderOfRenaming_v re1 mv1 pts).toNatClampNeg (((upd ke1 0 ((ke1 0) + (nI 1))) (X1_orderOfRenaming_v re1 mv1 pts).toNatClampNeg) + (nI 1))))), (70, (zI G 12 (srtF (va_cpy msk own 0 0 lns) lns))), (71, (zI G 12 (X1_rename_c71_70 re1 im1 (srtF (va_cpy msk own 0 0 lns) lns) lns))), (72, (zI G 7 (X1_nextRenaming_c72 re1 pts))), (73, (zI G 7 (X1_orderOfRenaming_c73 re1 mv1 pts)))]) rfl ?_
            refine z_iinc_4 (v := nI (r + 1)) dX1_study_171 rfl (zinc _) ?_
            refine z_goto (tgt := 77) dX1_study_174 (by decide) ?_
            have K9 := K
            try simp only [X1_study_L77_F, if_pos c104, if_pos c133] at K9
            exact K9
        · refine z_aload_n dX1_study_107 rfl rfl ?_
          refine z_get dX1_study_108 rfl hiX1_study_X1 4 lkX1_study_25 (Nat.le_of_ble_eq_true rfl) rfl rfl (by decide) rfl ?_
          refine z_iconst (v := nI 0) dX1_study_111 rfl (by decide) ?_
          refine z_aload_n dX1_study_112 rfl rfl ?_
          refine z_get dX1_study_113 rfl hiX1_study_X1 0 lkX1_study_9 (Nat.le_of_ble_eq_true rfl) rfl rfl (by decide) rfl ?_
          refine z_iconst (v := nI 0) dX1_study_116 rfl (by decide) ?_
          refine z_iload_n dX1_study_117 rfl rfl ?_
          refine z_copyN (sp9 := 0) (dp9 := 0) (n9 := lns) dX1_study_118 rfl meX1_study_ac1_55 meX1_study_ac2 meX1_study_ac3 meX1_study_ac4 (Nat.le_of_ble_eq_true rfl) rfl (Nat.le_of_ble_eq_true rfl) rfl rfl rfl rfl (by omega) (by omega) (by decide) (by decide) ⟨Nat.le_of_ble_eq_true rfl, Nat.le_of_ble_eq_true rfl⟩ ?_
          refine z_n (L' := [(67, (oFrm G (nI 1))), (68, (zI G 12 (va_cpy (X1_rename_c71_70 re1 im1 (srtF (va_cpy msk own 0 0 lns) lns) lns) le1 0 0 lns))), (69, (zI G 13 ke1)), (70, (zI G 12 (srtF (va_cpy msk own 0 0 lns) lns))), (71, (zI G 12 (X1_rename_c71_70 re1 im1 (srtF (va_cpy msk own 0 0 lns) lns) lns))), (72, (zI G 7 re1)), (73, (zI G 7 mv1))]) rfl ?_
          refine z_aload_n dX1_study_121 rfl rfl ?_
          refine z_get dX1_study_122 rfl hiX1_study_X1 4 lkX1_study_25 (Nat.le_of_ble_eq_true rfl) rfl rfl (by decide) rfl ?_
          refine z_aload_n dX1_study_125 rfl rfl ?_
          refine z_get dX1_study_126 rfl hiX1_study_X1 3 lkX1_study_22 (Nat.le_of_ble_eq_true rfl) rfl rfl (by decide) rfl ?_
          refine z_iload_n dX1_study_129 rfl rfl ?_
          refine z_callSi (c_X1_compareRows G ex _ 71 70 12 12 lns (X1_rename_c71_70 re1 im1 (srtF (va_cpy msk own 0 0 lns) lns) lns) (srtF (va_cpy msk own 0 0 lns) lns) (Nat.le_of_ble_eq_true rfl) (Nat.le_of_ble_eq_true rfl) (by omega) (by omega) (by omega) (by omega) rfl rfl) gX1_study_X1_compareRows rfl dX1_study_130 rfl rfl okk_X1_compareRows ⟨Nat.le_of_ble_eq_true rfl, Nat.le_of_ble_eq_true rfl⟩ ⟨Nat.le_of_ble_eq_true rfl, Nat.le_of_ble_eq_true rfl⟩ (Nat.le_of_ble_eq_true rfl) ?_
          refine z_if_ne (tgt := 163) dX1_study_133 rfl (by decide) (fun c133 => ?_) (fun c133 => ?_)
          · refine z_aload_n dX1_study_163 rfl rfl ?_
            refine z_aload_n dX1_study_164 rfl rfl ?_
            refine z_get dX1_study_165 rfl hiX1_study_X4 0 lkX1_study_67 (Nat.le_of_ble_eq_true rfl) h19 rfl (by decide) rfl ?_
            refine z_callVv (c_X1_nextRenaming G ex _ (nI 1) re1 pts (by omega) (by omega) rfl rfl) gX1_study_X1_nextRenaming rfl dX1_study_168 rfl rfl rfl okk_X1_nextRenaming (Nat.le_of_ble_eq_true rfl) rfl rfl ⟨Nat.le_of_ble_eq_true rfl, Nat.le_of_ble_eq_true rfl⟩ ⟨Nat.le_of_ble_eq_true rfl, Nat.le_of_ble_eq_true rfl⟩ (Nat.le_of_ble_eq_true rfl) ?_
            refine z_nn (L' := [(67, (oFrm G (nI 1))), (68, (zI G 12 (va_cpy (X1_rename_c71_70 re1 im1 (srtF (va_cpy msk own 0 0 lns) lns) lns) le1 0 0 lns))), (69, (zI G 13 ke1)), (70, (zI G 12 (srtF (va_cpy msk own 0 0 lns) lns))), (71, (zI G 12 (X1_rename_c71_70 re1 im1 (srtF (va_cpy msk own 0 0 lns) lns) lns))), (72, (zI G 7 (X1_nextRenaming_c72 re1 pts))), (73, (zI G 7 mv1))]) rfl ?_
            refine z_iinc_4 (v := nI (r + 1)) dX1_study_171 rfl (zinc _) ?_
            refine z_goto (tgt := 77) dX1_study_174 (by decide) ?_
            have K9 := K
            try simp only [X1_study_L77_F, if_neg c104, if_neg c133] at K9
            exact K9
          · refine z_aload_n dX1_study_136 rfl rfl ?_
            refine z_get dX1_study_137 rfl hiX1_study_X1 1 lkX1_study_15 (Nat.le_of_ble_eq_true rfl) rfl rfl (by decide) rfl ?_
            refine z_iconst (v := nI 0) dX1_study_140 rfl (by decide) ?_
            refine z_dup2 dX1_study_141 rfl rfl rfl ?_
            refine z_ialdN (j := 0) dX1_study_142 rfl (Nat.le_of_ble_eq_true rfl) rfl (rfl) (by omega) (by decide) ?_
            refine z_iconst (v := nI 1) dX1_study_143 rfl (by decide) ?_
            refine z_iadd dX1_study_144 rfl ?_
            refine z_iastN (j := 0) dX1_study_145 rfl (Nat.le_of_ble_eq_true rfl) rfl (rfl) (by omega) (by decide) ?_
            refine z_n (L' := [(67, (oFrm G (nI 1))), (68, (zI G 12 (va_cpy (X1_rename_c71_70 re1 im1 (srtF (va_cpy msk own 0 0 lns) lns) lns) le1 0 0 lns))), (69, (zI G 13 (upd ke1 0 ((ke1 0) + (nI 1))))), (70, (zI G 12 (srtF (va_cpy msk own 0 0 lns) lns))), (71, (zI G 12 (X1_rename_c71_70 re1 im1 (srtF (va_cpy msk own 0 0 lns) lns) lns))), (72, (zI G 7 re1)), (73, (zI G 7 mv1))]) rfl ?_
            refine z_aload_n dX1_study_146 rfl rfl ?_
            refine z_get dX1_study_147 rfl hiX1_study_X1 1 lkX1_study_15 (Nat.le_of_ble_eq_true rfl) rfl rfl (by decide) rfl ?_
            refine z_aload_n dX1_study_150 rfl rfl ?_
            refine z_aload_n dX1_study_151 rfl rfl ?_
            refine z_get dX1_study_152 rfl hiX1_study_X4 0 lkX1_study_67 (Nat.le_of_ble_eq_true rfl) h19 rfl (by decide) rfl ?_
            refine z_callVi (c_X1_orderOfRenaming G ex _ (nI 1) re1 mv1 pts (by omega) hre rfl rfl rfl) gX1_study_X1_orderOfRenaming rfl dX1_study_155 rfl rfl rfl okk_X1_orderOfRenaming (Nat.le_of_ble_eq_true rfl) rfl rfl ⟨Nat.le_of_ble_eq_true rfl, Nat.le_of_ble_eq_true rfl⟩ ⟨Nat.le_of_ble_eq_true rfl, Nat.le_of_ble_eq_true rfl⟩ (Nat.le_of_ble_eq_true rfl) ?_
            refine z_nn (L' := [(67, (oFrm G (nI 1))), (68, (zI G 12 (va_cpy (X1_rename_c71_70 re1 im1 (srtF (va_cpy msk own 0 0 lns) lns) lns) le1 0 0 lns))), (69, (zI G 13 (upd ke1 0 ((ke1 0) + (nI 1))))), (70, (zI G 12 (srtF (va_cpy msk own 0 0 lns) lns))), (71, (zI G 12 (X1_rename_c71_70 re1 im1 (srtF (va_cpy msk own 0 0 lns) lns) lns))), (72, (zI G 7 re1)), (73, (zI G 7 (X1_orderOfRenaming_c73 re1 mv1 pts)))]) rfl ?_
            refine z_dup2 dX1_study_158 rfl rfl rfl ?_
            refine z_iald dX1_study_159 rfl (Nat.le_of_ble_eq_true rfl) rfl order_in ?_
            refine z_iconst (v := nI 1) dX1_study_160 rfl (by decide) ?_
            refine z_iadd dX1_study_161 rfl ?_
            refine z_iast dX1_study_162 rfl (Nat.le_of_ble_eq_true rfl) rfl order_in ?_
            refine z_n (L' := [(67, (oFrm G (nI 1))), (68, (zI G 12 (va_cpy (X1_rename_c71_70 re1 im1 (srtF (va_cpy msk own 0 0 lns) lns) lns) le1 0 0 lns))), (69, (zI G 13 (upd (upd ke1 0 ((ke1 0) + (nI 1))) (X1_orderOfRenaming_v re1 mv1 pts).toNatClampNeg (((upd ke1 0 ((ke1 0) + (nI 1))) (X1_orderOfRenaming_v re1 mv1 pts).toNatClampNeg) + (nI 1))))), (70, (zI G 12 (srtF (va_cpy msk own 0 0 lns) lns))), (71, (zI G 12 (X1_rename_c71_70 re1 im1 (srtF (va_cpy msk own 0 0 lns) lns) lns))), (72, (zI G 7 re1)), (73, (zI G 7 (X1_orderOfRenaming_c73 re1 mv1 pts)))]) rfl ?_
            refine z_aload_n dX1_study_163 rfl rfl ?_
            refine z_aload_n dX1_study_164 rfl rfl ?_
            refine z_get dX1_study_165 rfl hiX1_study_X4 0 lkX1_study_67 (Nat.le_of_ble_eq_true rfl) h19 rfl (by decide) rfl ?_
            refine z_callVv (c_X1_nextRenaming G ex _ (nI 1) re1 pts (by omega) (by omega) rfl rfl) gX1_study_X1_nextRenaming rfl dX1_study_168 rfl rfl rfl okk_X1_nextRenaming (Nat.le_of_ble_eq_true rfl) rfl rfl ⟨Nat.le_of_ble_eq_true rfl, Nat.le_of_ble_eq_true rfl⟩ ⟨Nat.le_of_ble_eq_true rfl, Nat.le_of_ble_eq_true rfl⟩ (Nat.le_of_ble_eq_true rfl) ?_
            refine z_nn (L' := [(67, (oFrm G (nI 1))), (68, (zI G 12 (va_cpy (X1_rename_c71_70 re1 im1 (srtF (va_cpy msk own 0 0 lns) lns) lns) le1 0 0 lns))), (69, (zI G 13 (upd (upd ke1 0 ((ke1 0) + (nI 1))) (X1_orderOfRenaming_v re1 mv1 pts).toNatClampNeg (((upd ke1 0 ((ke1 0) + (nI 1))) (X1_orderOfRenaming_v re1 mv1 pts).toNatClampNeg) + (nI 1))))), (70, (zI G 12 (srtF (va_cpy msk own 0 0 lns) lns))), (71, (zI G 12 (X1_rename_c71_70 re1 im1 (srtF (va_cpy msk own 0 0 lns) lns) lns))), (72, (zI G 7 (X1_nextRenaming_c72 re1 pts))), (73, (zI G 7 (X1_orderOfRenaming_c73 re1 mv1 pts)))]) rfl ?_
            refine z_iinc_4 (v := nI (r + 1)) dX1_study_171 rfl (zinc _) ?_
            refine z_goto (tgt := 77) dX1_study_174 (by decide) ?_
            have K9 := K
            try simp only [X1_study_L77_F, if_neg c104, if_pos c133] at K9
            exact K9
    · intro hI
      refine z_iload dX1_study_77 rfl rfl ?_
      refine z_iload_n dX1_study_79 rfl rfl ?_
      refine z_icmp_ge (tgt := 177) dX1_study_80 rfl (by decide) (fun c80 => ?_) (fun c80 => ?_)
      · exact z_return dX1_study_177 rfl (Nat.le_refl _) (Nat.le_refl _) (fun _ => rfl) ⟨rfl, by simp only [X1_study_p67_0, X1_study_c68, X1_study_c69, X1_study_c70, X1_study_c71, X1_study_c72, X1_study_c73, if_pos c4]⟩
      · exact absurd (nI_le (Nat.le_refl _) (by omega)) c80
  · exact z_return dX1_study_7 rfl (Nat.le_refl _) (Nat.le_refl _) (fun _ => rfl) ⟨rfl, by simp only [X1_study_p67_0, X1_study_c68, X1_study_c69, X1_study_c70, X1_study_c71, X1_study_c72, X1_study_c73, if_neg c4]⟩
