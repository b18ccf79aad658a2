theorem rfac_s : ∀ m, m < 7 → X7_factorial_n (m + 1) = (m + 1) * X7_factorial_n m := by decide +kernel
theorem rfac_b : ∀ m, m < 8 → 1 ≤ X7_factorial_n m ∧ X7_factorial_n m ≤ 5040 := by decide +kernel
theorem rfac_at {n k lf : Nat} (hn : n ≤ 7) (hk : k < n) (h : lf < X7_factorial_n (n - k)) : lf / X7_factorial_n (n - 1 - k) < n - k := by
  have e := rfac_s (n - 1 - k) (by omega)
  rw [show n - 1 - k + 1 = n - k by omega] at e
  rw [e, Nat.mul_comm] at h
  exact Nat.div_lt_of_lt_mul h
theorem zfne {m : Nat} (h : 1 ≤ m) (hm : m ≤ 5040) : ¬ nI m = 0 := fun q => by
  have e := nI_inj9 (b := 0) (by omega) (by decide) q
  omega
theorem zpos_nle {m : Nat} (h : 1 ≤ m) (hm : m < 2147483648) : ¬ nI m ≤ 0 := Int32.not_le.mpr (nI_lt (a := 0) h hm)
abbrev mX7_layNames : zM := (cX7_layNames, 8, none, RX7, wsX7_layNames, "layNames")
theorem hiX7_layNames_X7 : ∀ w ∈ wsX70, w ∈ wsX7_layNames := fun w h => List.mem_cons_of_mem _ (List.mem_append_right _ h)
theorem lkX7_layNames_95 : Cond.fieldLink RX7 95 "ConfigSearchModel" "free" "[I" ∈ wsX7_layNames := by decide +kernel
theorem okk_X7_factorial : zOk yX7_factorial 1 := by unfold zOk; decide +kernel
theorem lkX7_layNames_89 : Cond.fieldLink RX7 89 "ConfigSearchModel" "name" "[I" ∈ wsX7_layNames := by decide +kernel
def X7_layNames_L5_F (k : Nat) (a9 : (Nat → Int32)) : (Nat → Int32) := upd a9 k (nI k)
def X7_layNames_L77_F (i : Nat) (a9 : (Nat → Int32)) : (Nat → Int32) := upd a9 (i - 1) (a9 i)
def X7_layNames_L29_F (n : Nat) (k : Nat) (a9 : (Nat) × (Nat → Int32) × (Nat → Int32)) : (Nat) × (Nat → Int32) × (Nat → Int32) := (a9.1 % (X7_factorial_n ((n - 1) - k)), upd a9.2.1 k (a9.2.2 (a9.1 / (X7_factorial_n ((n - 1) - k)))), (zfold (X7_layNames_L77_F) ((n - k) - (a9.1 / X7_factorial_n (n - 1 - k) + 1)) (a9.1 / X7_factorial_n (n - 1 - k) + 1) a9.2.2))
def X7_layNames_c102 (nm fr : Nat → Int32) (n no : Nat) : Nat → Int32 := zlet (zfold (X7_layNames_L5_F) n 0 fr) (fun rr5 => (zfold (X7_layNames_L29_F n) n 0 (no, nm, rr5)).2.1)
def X7_layNames_c104 (nm fr : Nat → Int32) (n no : Nat) : Nat → Int32 := zlet (zfold (X7_layNames_L5_F) n 0 fr) (fun rr5 => (zfold (X7_layNames_L29_F n) n 0 (no, nm, rr5)).2.2)
set_option maxRecDepth 100000 in
set_option maxHeartbeats 4000000 in
theorem c_X7_layNames (G : zG) (ex : Bool) (g : Nat → va_E) (code : Int32) (tps pts lns wds brs ors : Nat) (stp hasP fld laid told : Int32) (rws : Nat) (cms : Int32) (cmT : Nat) (cmS isN : Int32) (trs : Nat) (nm fr : Nat → Int32) (n no : Nat) (hn : n ≤ 7) (hno : no < X7_factorial_n n) (h76 : g 76 = (oMod G code (nI tps) (nI pts) (nI lns) (nI wds) (nI brs) (nI ors) stp hasP fld laid told (nI rws) cms (nI cmT) cmS isN (nI trs))) (h102 : g 102 = (zI G 7 nm)) (h104 : g 104 = (zI G 7 fr)) : zC G yX7_layNames wsX7_layNames (zrm 1 22) ex [.ref (zB G + 76), .int (nI n), .int (nI no)] (zN, g) (fun r h => r = none ∧ h = (zN, zus g [(102, zI G 7 (X7_layNames_c102 nm fr n no)), (104, zI G 7 (X7_layNames_c104 nm fr n no))])) := by
  refine zC_of mX7_layNames (lv := [some (.ref (zB G + 76)), some (.int (nI n)), some (.int (nI no)), none, none, none, none, none]) rfl rfl (by decide) (by intro v hv; simp at hv; rcases hv with rfl | rfl | rfl <;> rfl) (Nat.le_of_ble_eq_true rfl) rfl ?_
  refine z_0 ?_
  refine z_heap (g' := zu (zus g []) 102 (zI G 7 nm)) (zu_self (zus g []) 102 _ h102).symm ?_
  refine z_n (L' := [(102, (zI G 7 nm))]) rfl ?_
  refine z_heap (g' := zu (zus g [(102, (zI G 7 nm))]) 104 (zI G 7 fr)) (zu_self (zus g [(102, (zI G 7 nm))]) 104 _ h104).symm ?_
  refine z_n (L' := [(102, (zI G 7 nm)), (104, (zI G 7 fr))]) rfl ?_
  refine z_iload_n dX7_layNames_0 rfl rfl ?_
  refine z_istore_3 dX7_layNames_1 rfl ?_
  refine z_iconst (v := nI 0) dX7_layNames_2 rfl (by decide) ?_
  refine z_istore_4 dX7_layNames_3 rfl ?_
  refine z_forI (head := fun k (st9 : (Nat → Int32)) => Z G mX7_layNames (zrm 1 22) ex _ 5 [some (.ref (zB G + 76)), some (.int (nI n)), some (.int (nI no)), some (.int (nI no)), some (.int (nI k)), none, none, none] [] (zN, zus g [(102, (zI G 7 nm)), (104, (zI G 7 st9))]) 0 0) (F := (X7_layNames_L5_F)) (n := n) (fun _ _ => True) (fun _ _ _ _ => trivial) ?_ n 0 fr (by omega) trivial ?_
  · intro k f1 hi _ K
    refine z_iload dX7_layNames_5 rfl rfl ?_
    refine z_iload_n dX7_layNames_7 rfl rfl ?_
    refine z_icmp_ge (tgt := 26) dX7_layNames_8 rfl (by decide) (fun c8 => ?_) (fun c8 => ?_)
    · exact absurd c8 (nI_ge hi (by omega))
    · refine z_aload_n dX7_layNames_11 rfl rfl ?_
      refine z_get dX7_layNames_12 rfl hiX7_layNames_X7 43 lkX7_layNames_95 (Nat.le_of_ble_eq_true rfl) h76 rfl (by decide) rfl ?_
      refine z_iload dX7_layNames_15 rfl rfl ?_
      refine z_iload dX7_layNames_17 rfl rfl ?_
      refine z_iastN (j := k) dX7_layNames_19 rfl (Nat.le_of_ble_eq_true rfl) rfl (rfl) (by omega) (by decide) ?_
      refine z_n (L' := [(102, (zI G 7 nm)), (104, (zI G 7 (upd f1 k (nI k))))]) rfl ?_
      refine z_iinc_4 (v := nI (k + 1)) dX7_layNames_20 rfl (zinc _) ?_
      refine z_goto (tgt := 5) dX7_layNames_23 (by decide) ?_
      exact K
  · generalize hR5 : zfold (X7_layNames_L5_F) n 0 fr = r9
    obtain ⟨f1o, rfl⟩ : ∃ z, z = r9 := ⟨_, rfl⟩
    intro _
    refine z_iload dX7_layNames_5 rfl rfl ?_
    refine z_iload_n dX7_layNames_7 rfl rfl ?_
    refine z_icmp_ge (tgt := 26) dX7_layNames_8 rfl (by decide) (fun c8 => ?_) (fun c8 => ?_)
    · refine z_iconst (v := nI 0) dX7_layNames_26 rfl (by decide) ?_
      refine z_istore_4 dX7_layNames_27 rfl ?_
      refine z_forI (head := fun k (st9 : (Nat) × (Nat → Int32) × (Nat → Int32)) => ∀ y5 y6 y7 : Option Value, Z G mX7_layNames (zrm 1 22) ex _ 29 [some (.ref (zB G + 76)), some (.int (nI n)), some (.int (nI no)), some (.int (nI st9.1)), some (.int (nI k)), y5, y6, y7] [] (zN, zus g [(102, (zI G 7 st9.2.1)), (104, (zI G 7 st9.2.2))]) 0 0) (F := (X7_layNames_L29_F n)) (n := n) (fun k a => a.1 < X7_factorial_n (n - k)) (fun k a hk h => by
            unfold X7_layNames_L29_F
            show a.1 % X7_factorial_n (n - 1 - k) < X7_factorial_n (n - (k + 1))
            rw [show n - (k + 1) = n - 1 - k by omega]
            exact Nat.mod_lt _ (rfac_b _ (by omega)).1) ?_ n 0 (no, nm, f1o) (by omega) hno ?_ _ _ _
      · intro k a9 hi hI K
        obtain ⟨lf, n1, f2⟩ := a9
        intro y5 y6 y7
        have hk9 : k < n := hi
        have hlf : lf < X7_factorial_n (n - k) := hI
        have hat := rfac_at hn hk9 hlf
        have hfb := rfac_b (n - 1 - k) (by omega)
        have hfb2 := rfac_b (n - k) (by omega)
        have hlf2 : lf < 5040 := by omega
        refine z_iload dX7_layNames_29 rfl rfl ?_
        refine z_iload_n dX7_layNames_31 rfl rfl ?_
        refine z_icmp_ge (tgt := 114) dX7_layNames_32 rfl (by decide) (fun c32 => ?_) (fun c32 => ?_)
        · exact absurd c32 (nI_ge hi (by omega))
        · refine z_iload_n dX7_layNames_35 rfl rfl ?_
          refine z_iconst (v := nI 1) dX7_layNames_36 rfl (by decide) ?_
          refine z_isub dX7_layNames_37 rfl ?_
          refine z_iload dX7_layNames_38 rfl rfl ?_
          refine z_isub dX7_layNames_40 rfl ?_
          rw [show ((nI n) - (nI 1)) - (nI k) = nI ((n - 1) - k) from (zq_sub (zq_sub rfl rfl (by omega)) rfl (by omega))]
          refine z_callSi (c_X7_factorial G ex _ ((n - 1) - k) (by omega)) gX7_layNames_X7_factorial rfl dX7_layNames_41 rfl rfl okk_X7_factorial ⟨Nat.le_of_ble_eq_true rfl, Nat.le_of_ble_eq_true rfl⟩ ⟨Nat.le_of_ble_eq_true rfl, Nat.le_of_ble_eq_true rfl⟩ (Nat.le_of_ble_eq_true rfl) ?_
          refine z_istore_5 dX7_layNames_44 rfl ?_
          refine z_iload_n dX7_layNames_46 rfl rfl ?_
          refine z_iload dX7_layNames_47 rfl rfl ?_
          refine z_idiv dX7_layNames_49 rfl (zfne hfb.1 hfb.2) ?_
          refine z_top (show (nI lf) / (nI (X7_factorial_n ((n - 1) - k))) = nI (lf / (X7_factorial_n ((n - 1) - k))) from (zq_div rfl rfl (by omega) (by omega) (by omega))) ?_
          refine z_istore_6 dX7_layNames_50 rfl ?_
          refine z_iload_n dX7_layNames_52 rfl rfl ?_
          refine z_iload dX7_layNames_53 rfl rfl ?_
          refine z_irem dX7_layNames_55 rfl (zfne hfb.1 hfb.2) ?_
          refine z_top (show (nI lf) - (nI lf) / (nI (X7_factorial_n ((n - 1) - k))) * (nI (X7_factorial_n ((n - 1) - k))) = nI (lf % (X7_factorial_n ((n - 1) - k))) from (zq_rem rfl rfl (by omega) (by omega) (by omega))) ?_
          refine z_istore_3 dX7_layNames_56 rfl ?_
          refine z_aload_n dX7_layNames_57 rfl rfl ?_
          refine z_get dX7_layNames_58 rfl hiX7_layNames_X7 41 lkX7_layNames_89 (Nat.le_of_ble_eq_true rfl) h76 rfl (by decide) rfl ?_
          refine z_iload dX7_layNames_61 rfl rfl ?_
          refine z_aload_n dX7_layNames_63 rfl rfl ?_
          refine z_get dX7_layNames_64 rfl hiX7_layNames_X7 43 lkX7_layNames_95 (Nat.le_of_ble_eq_true rfl) h76 rfl (by decide) rfl ?_
          refine z_iload dX7_layNames_67 rfl rfl ?_
          refine z_ialdN (j := lf / (X7_factorial_n ((n - 1) - k))) dX7_layNames_69 rfl (Nat.le_of_ble_eq_true rfl) rfl (rfl) (by omega) (by decide) ?_
          refine z_iastN (j := k) dX7_layNames_70 rfl (Nat.le_of_ble_eq_true rfl) rfl (rfl) (by omega) (by decide) ?_
          refine z_n (L' := [(102, (zI G 7 (upd n1 k (f2 (lf / (X7_factorial_n ((n - 1) - k))))))), (104, (zI G 7 f2))]) rfl ?_
          refine z_iload dX7_layNames_71 rfl rfl ?_
          refine z_iconst (v := nI 1) dX7_layNames_73 rfl (by decide) ?_
          refine z_iadd dX7_layNames_74 rfl ?_
          refine z_top (show (nI (lf / (X7_factorial_n ((n - 1) - k)))) + (nI 1) = nI ((lf / (X7_factorial_n ((n - 1) - k))) + 1) from (zq_add rfl rfl)) ?_
          refine z_istore_7 dX7_layNames_75 rfl ?_
          refine z_forI (head := fun i (st9 : (Nat → Int32)) => Z G mX7_layNames (zrm 1 22) ex _ 77 [some (.ref (zB G + 76)), some (.int (nI n)), some (.int (nI no)), some (.int (nI (lf % (X7_factorial_n ((n - 1) - k))))), some (.int (nI k)), some (.int (nI (X7_factorial_n ((n - 1) - k)))), some (.int (nI (lf / (X7_factorial_n ((n - 1) - k))))), some (.int (nI i))] [] (zN, zus g [(102, (zI G 7 (upd n1 k (f2 (lf / (X7_factorial_n ((n - 1) - k))))))), (104, (zI G 7 st9))]) 0 0) (F := (X7_layNames_L77_F)) (n := n - k) (fun i _ => 1 ≤ i) (fun _ _ _ _ => Nat.le_add_left 1 _) ?_ ((n - k) - (lf / X7_factorial_n (n - 1 - k) + 1)) (lf / X7_factorial_n (n - 1 - k) + 1) f2 (by omega) (Nat.le_add_left 1 _) ?_
          · intro i f3 hi hI K
            have hi1 : 1 ≤ i := hI
            refine z_iload dX7_layNames_77 rfl rfl ?_
            refine z_iload_n dX7_layNames_79 rfl rfl ?_
            refine z_iload dX7_layNames_80 rfl rfl ?_
            refine z_isub dX7_layNames_82 rfl ?_
            refine z_icmp_ge (tgt := 108) dX7_layNames_83 rfl (by decide) (fun c83 => ?_) (fun c83 => ?_)
            · exact absurd c83 (by rw [pk_sub (by omega)]; exact nI_ge hi (by omega))
            · refine z_aload_n dX7_layNames_86 rfl rfl ?_
              refine z_get dX7_layNames_87 rfl hiX7_layNames_X7 43 lkX7_layNames_95 (Nat.le_of_ble_eq_true rfl) h76 rfl (by decide) rfl ?_
              refine z_iload dX7_layNames_90 rfl rfl ?_
              refine z_iconst (v := nI 1) dX7_layNames_92 rfl (by decide) ?_
              refine z_isub dX7_layNames_93 rfl ?_
              refine z_aload_n dX7_layNames_94 rfl rfl ?_
              refine z_get dX7_layNames_95 rfl hiX7_layNames_X7 43 lkX7_layNames_95 (Nat.le_of_ble_eq_true rfl) h76 rfl (by decide) rfl ?_
              refine z_iload dX7_layNames_98 rfl rfl ?_
              refine z_ialdN (j := i) dX7_layNames_100 rfl (Nat.le_of_ble_eq_true rfl) rfl (rfl) (by omega) (by decide) ?_
              refine z_iastN (j := i - 1) dX7_layNames_101 rfl (Nat.le_of_ble_eq_true rfl) rfl ((zq_sub rfl rfl (by omega))) (by omega) (by decide) ?_
              refine z_n (L' := [(102, (zI G 7 (upd n1 k (f2 (lf / (X7_factorial_n ((n - 1) - k))))))), (104, (zI G 7 (upd f3 (i - 1) (f3 i))))]) rfl ?_
              refine z_iinc_7 (v := nI (i + 1)) dX7_layNames_102 rfl (zinc _) ?_
              refine z_goto (tgt := 77) dX7_layNames_105 (by decide) ?_
              exact K
          · intro hI
            refine z_iload dX7_layNames_77 rfl rfl ?_
            refine z_iload_n dX7_layNames_79 rfl rfl ?_
            refine z_iload dX7_layNames_80 rfl rfl ?_
            refine z_isub dX7_layNames_82 rfl ?_
            refine z_icmp_ge (tgt := 108) dX7_layNames_83 rfl (by decide) (fun c83 => ?_) (fun c83 => ?_)
            · refine z_iinc_4 (v := nI (k + 1)) dX7_layNames_108 rfl (zinc _) ?_
              refine z_goto (tgt := 29) dX7_layNames_111 (by decide) ?_
              exact K _ _ _
            · exact absurd (by rw [pk_sub (by omega)]; exact nI_le (Nat.le_refl _) (by omega)) c83
      · intro hI y5 y6 y7
        refine z_iload dX7_layNames_29 rfl rfl ?_
        refine z_iload_n dX7_layNames_31 rfl rfl ?_
        refine z_icmp_ge (tgt := 114) dX7_layNames_32 rfl (by decide) (fun c32 => ?_) (fun c32 => ?_)
        · exact z_return dX7_layNames_114 rfl (Nat.le_refl _) (Nat.le_refl _) (fun _ => rfl) ⟨rfl, by simp only [X7_layNames_c102, X7_layNames_c104, hR5, zlet_e]⟩
        · exact absurd (nI_le (Nat.le_refl _) (by omega)) c32
    · exact absurd (nI_le (Nat.le_refl _) (by omega)) c8
abbrev mX7_sortForm : zM := (cX7_sortForm, 5, none, RX7, wsX7_sortForm, "sortForm")
theorem hiX7_sortForm_X7 : ∀ w ∈ wsX70, w ∈ wsX7_sortForm := fun w h => List.mem_cons_of_mem _ (List.mem_append_right _ h)
theorem lkX7_sortForm_98 : Cond.fieldLink RX7 98 "ConfigSearchModel" "form" "[I" ∈ wsX7_sortForm := by decide +kernel
def X7_sortForm_L17_F (k : Nat) (f1 : Nat → Int32) (c : Nat) (a9 : (Nat → Int32)) : (Nat → Int32) := if (a9 ((k - c) - 1)) ≤ (f1 k) then a9 else (upd a9 (k - c) (a9 ((k - c) - 1)))
def X7_sortForm_L17_B (k : Nat) (f1 : Nat → Int32) (c : Nat) (a9 : (Nat → Int32)) : Option ((Nat → Int32)) := if (a9 ((k - c) - 1)) ≤ (f1 k) then (some a9) else none
def X7_sortForm_L2_F (k : Nat) (a9 : (Nat → Int32)) : (Nat → Int32) := zlet (zfoldX (X7_sortForm_L17_B k a9) (X7_sortForm_L17_F k a9) k 0 a9) (fun rr17 => upd rr17.2 (k - rr17.1) (a9 k))
def X7_sortForm_c105 (fm : Nat → Int32) (n : Nat) : Nat → Int32 := (zfold (X7_sortForm_L2_F) (max n 1 - 1) 1 fm)
set_option maxRecDepth 100000 in
set_option maxHeartbeats 4000000 in
theorem c_X7_sortForm (G : zG) (ex : Bool) (g : Nat → va_E) (code : Int32) (tps pts lns wds brs ors : Nat) (stp hasP fld laid told : Int32) (rws : Nat) (cms : Int32) (cmT : Nat) (cmS isN : Int32) (trs : Nat) (fm : Nat → Int32) (n : Nat) (hn : n ≤ 12) (h76 : g 76 = (oMod G code (nI tps) (nI pts) (nI lns) (nI wds) (nI brs) (nI ors) stp hasP fld laid told (nI rws) cms (nI cmT) cmS isN (nI trs))) (h105 : g 105 = (zI G 12 fm)) : zC G yX7_sortForm wsX7_sortForm (zrm 0 0) ex [.ref (zB G + 76), .int (nI n)] (zN, g) (fun r h => r = none ∧ h = (zN, zus g [(105, zI G 12 (X7_sortForm_c105 fm n))])) := by
  refine zC_of mX7_sortForm (lv := [some (.ref (zB G + 76)), some (.int (nI n)), none, none, none]) rfl rfl (by decide) (by intro v hv; simp at hv; rcases hv with rfl | rfl <;> rfl) (Nat.le_of_ble_eq_true rfl) rfl ?_
  refine z_0 ?_
  refine z_heap (g' := zu (zus g []) 105 (zI G 12 fm)) (zu_self (zus g []) 105 _ h105).symm ?_
  refine z_n (L' := [(105, (zI G 12 fm))]) rfl ?_
  refine z_iconst (v := nI 1) dX7_sortForm_0 rfl (by decide) ?_
  refine z_istore_2 dX7_sortForm_1 rfl ?_
  refine z_forI (head := fun k (st9 : (Nat → Int32)) => ∀ y3 y4 : Option Value, Z G mX7_sortForm (zrm 0 0) ex _ 2 [some (.ref (zB G + 76)), some (.int (nI n)), some (.int (nI k)), y3, y4] [] (zN, zus g [(105, (zI G 12 st9))]) 0 0) (F := (X7_sortForm_L2_F)) (n := max n 1) (fun k _ => 1 ≤ k) (fun _ _ _ h => Nat.le_succ_of_le h) ?_ (max n 1 - 1) 1 fm (by omega) (Nat.le_refl _) ?_ _ _
  · intro k f1 hi hI K
    intro y3 y4
    have hk1 : 1 ≤ k := hI
    have hk9 : k < n := by omega
    refine z_iload_n dX7_sortForm_2 rfl rfl ?_
    refine z_iload_n dX7_sortForm_3 rfl rfl ?_
    refine z_icmp_ge (tgt := 71) dX7_sortForm_4 rfl (by decide) (fun c4 => ?_) (fun c4 => ?_)
    · exact absurd c4 (nI_ge (by omega) (by omega))
    · refine z_aload_n dX7_sortForm_7 rfl rfl ?_
      refine z_get dX7_sortForm_8 rfl hiX7_sortForm_X7 44 lkX7_sortForm_98 (Nat.le_of_ble_eq_true rfl) h76 rfl (by decide) rfl ?_
      refine z_iload_n dX7_sortForm_11 rfl rfl ?_
      refine z_ialdN (j := k) dX7_sortForm_12 rfl (Nat.le_of_ble_eq_true rfl) rfl (rfl) (by omega) (by decide) ?_
      refine z_istore_3 dX7_sortForm_13 rfl ?_
      refine z_iload_n dX7_sortForm_14 rfl rfl ?_
      refine z_istore_4 dX7_sortForm_15 rfl ?_
      refine z_lv (congrArg (fun z9 : Int32 => ([some (.ref (zB G + 76)), some (.int (nI n)), some (.int (nI k)), some (.int (f1 k)), some (.int z9)] : List (Option Value))) (show (nI k) = (nI (k - 0)) from rfl)) ?_
      refine z_forX (head := fun c (st9 : (Nat → Int32)) => Z G mX7_sortForm (zrm 0 0) ex _ 17 [some (.ref (zB G + 76)), some (.int (nI n)), some (.int (nI k)), some (.int (f1 k)), some (.int (nI (k - c)))] [] (zN, zus g [(105, (zI G 12 st9))]) 0 0) (out := fun c (st9 : (Nat → Int32)) => Z G mX7_sortForm (zrm 0 0) ex (fun r h => r = none ∧ h = (zN, zus g [(105, zI G 12 (X7_sortForm_c105 fm n))])) 57 [some (.ref (zB G + 76)), some (.int (nI n)), some (.int (nI k)), some (.int (f1 k)), some (.int (nI (k - c)))] [] (zN, zus g [(105, (zI G 12 st9))]) 0 0) (B := (X7_sortForm_L17_B k f1)) (F := (X7_sortForm_L17_F k f1)) (n := k) (fun _ _ => True) (fun _ _ => True) (fun _ _ _ _ _ => trivial) (fun _ _ _ _ _ _ => trivial) (fun _ _ => trivial) ?_ ?_ k 0 f1 (by omega) trivial ?_
      · intro c f2 hi _ Ko K
        refine z_iload dX7_sortForm_17 rfl rfl ?_
        refine z_if_le (tgt := 57) dX7_sortForm_19 rfl (by decide) (fun c19 => ?_) (fun c19 => ?_)
        · exact absurd c19 (zpos_nle (by omega) (by omega))
        · refine z_aload_n dX7_sortForm_22 rfl rfl ?_
          refine z_get dX7_sortForm_23 rfl hiX7_sortForm_X7 44 lkX7_sortForm_98 (Nat.le_of_ble_eq_true rfl) h76 rfl (by decide) rfl ?_
          refine z_iload dX7_sortForm_26 rfl rfl ?_
          refine z_iconst (v := nI 1) dX7_sortForm_28 rfl (by decide) ?_
          refine z_isub dX7_sortForm_29 rfl ?_
          refine z_ialdN (j := (k - c) - 1) dX7_sortForm_30 rfl (Nat.le_of_ble_eq_true rfl) rfl ((zq_sub rfl rfl (by omega))) (by omega) (by decide) ?_
          refine z_iload_n dX7_sortForm_31 rfl rfl ?_
          refine z_icmp_le (tgt := 57) dX7_sortForm_32 rfl (by decide) (fun c32 => ?_) (fun c32 => ?_)
          · exact Ko f2 (by simp only [X7_sortForm_L17_B, if_pos c32])
          · refine z_aload_n dX7_sortForm_35 rfl rfl ?_
            refine z_get dX7_sortForm_36 rfl hiX7_sortForm_X7 44 lkX7_sortForm_98 (Nat.le_of_ble_eq_true rfl) h76 rfl (by decide) rfl ?_
            refine z_iload dX7_sortForm_39 rfl rfl ?_
            refine z_aload_n dX7_sortForm_41 rfl rfl ?_
            refine z_get dX7_sortForm_42 rfl hiX7_sortForm_X7 44 lkX7_sortForm_98 (Nat.le_of_ble_eq_true rfl) h76 rfl (by decide) rfl ?_
            refine z_iload dX7_sortForm_45 rfl rfl ?_
            refine z_iconst (v := nI 1) dX7_sortForm_47 rfl (by decide) ?_
            refine z_isub dX7_sortForm_48 rfl ?_
            refine z_ialdN (j := (k - c) - 1) dX7_sortForm_49 rfl (Nat.le_of_ble_eq_true rfl) rfl ((zq_sub rfl rfl (by omega))) (by omega) (by decide) ?_
            refine z_iastN (j := k - c) dX7_sortForm_50 rfl (Nat.le_of_ble_eq_true rfl) rfl (rfl) (by omega) (by decide) ?_
            refine z_n (L' := [(105, (zI G 12 (upd f2 (k - c) (f2 ((k - c) - 1)))))]) rfl ?_
            refine z_iinc_4 (v := nI (k - (c + 1))) dX7_sortForm_51 rfl (zdecN (by omega)) ?_
            refine z_goto (tgt := 17) dX7_sortForm_54 (by decide) ?_
            have K9 := (K (by simp only [X7_sortForm_L17_B, if_neg c32]))
            try simp only [X7_sortForm_L17_F, if_neg c32] at K9
            exact K9
      · intro f2 _ K
        refine z_iload dX7_sortForm_17 rfl rfl ?_
        refine z_if_le (tgt := 57) dX7_sortForm_19 rfl (by decide) (fun c19 => ?_) (fun c19 => ?_)
        · exact K
        · exact absurd (by rw [Nat.sub_self]; decide) c19
      · generalize hR17 : zfoldX (X7_sortForm_L17_B k f1) (X7_sortForm_L17_F k f1) k 0 f1 = r9
        obtain ⟨jc, f2o⟩ := r9
        intro hJ17 hle17
        refine z_aload_n dX7_sortForm_57 rfl rfl ?_
        refine z_get dX7_sortForm_58 rfl hiX7_sortForm_X7 44 lkX7_sortForm_98 (Nat.le_of_ble_eq_true rfl) h76 rfl (by decide) rfl ?_
        refine z_iload dX7_sortForm_61 rfl rfl ?_
        refine z_iload_n dX7_sortForm_63 rfl rfl ?_
        refine z_iastN (j := k - jc) dX7_sortForm_64 rfl (Nat.le_of_ble_eq_true rfl) rfl (rfl) (by omega) (by decide) ?_
        refine z_n (L' := [(105, (zI G 12 (upd f2o (k - jc) (f1 k))))]) rfl ?_
        refine z_iinc_2 (v := nI (k + 1)) dX7_sortForm_65 rfl (zinc _) ?_
        refine z_goto (tgt := 2) dX7_sortForm_68 (by decide) ?_
        have K9 := K
        try simp only [X7_sortForm_L2_F, hR17, zlet_e] at K9
        exact K9 _ _
  · intro hI y3 y4
    refine z_iload_n dX7_sortForm_2 rfl rfl ?_
    refine z_iload_n dX7_sortForm_3 rfl rfl ?_
    refine z_icmp_ge (tgt := 71) dX7_sortForm_4 rfl (by decide) (fun c4 => ?_) (fun c4 => ?_)
    · exact z_return dX7_sortForm_71 rfl (Nat.le_refl _) (Nat.le_refl _) (fun _ => rfl) ⟨rfl, by simp only [X7_sortForm_c105]⟩
    · exact absurd (nI_le (by omega) (by omega)) c4
abbrev mX7_orderOf : zM := (cX7_orderOf, 5, (some .int), RX7, wsX7_orderOf, "orderOf")
theorem hiX7_orderOf_X7 : ∀ w ∈ wsX70, w ∈ wsX7_orderOf := fun w h => List.mem_cons_of_mem _ (List.mem_append_right _ h)
theorem lkX7_orderOf_92 : Cond.fieldLink RX7 92 "ConfigSearchModel" "again" "[I" ∈ wsX7_orderOf := by decide +kernel
theorem lkX7_orderOf_89 : Cond.fieldLink RX7 89 "ConfigSearchModel" "name" "[I" ∈ wsX7_orderOf := by decide +kernel
def X7_orderOf_L2_F (nm : Nat → Int32) (k : Nat) (a9 : (Nat → Int32)) : (Nat → Int32) := upd a9 k (nm k)
def X7_orderOf_L38_F (a2 : Nat → Int32) (k : Nat) (a9 : (Int32)) : (Int32) := if (a2 k) = (nI k) then (a9 &&& (nI 1)) else (a9 &&& (nI 0))
def X7_orderOf_L80_F (nm : Nat → Int32) (k : Nat) (a9 : (Nat → Int32)) : (Nat → Int32) := upd a9 k (nm (a9 k).toNatClampNeg)
def X7_orderOf_L29_F (nm : Nat → Int32) (n : Nat) (t : Nat) (a9 : (Nat → Int32) × (Nat) × (Int32)) : (Nat → Int32) × (Nat) × (Int32) := if a9.2.2 = 0 then (zlet (zfold (X7_orderOf_L38_F a9.1) n 0 (nI 1)) (fun rr38 => if rr38 = 0 then ((zfold (X7_orderOf_L80_F nm) n 0 a9.1), a9.2.1 + 1, rr38) else (a9.1, a9.2.1, rr38))) else (a9.1, a9.2.1, a9.2.2)
def X7_orderOf_L29_B (n : Nat) (t : Nat) (a9 : (Nat → Int32) × (Nat) × (Int32)) : Option ((Int32) × (Nat → Int32)) := if a9.2.2 = 0 then (zlet (zfold (X7_orderOf_L38_F a9.1) n 0 (nI 1)) (fun rr38 => if rr38 = 0 then none else none)) else (some (nI a9.2.1, a9.1))
def X7_orderOf_v (nm ag : Nat → Int32) (n : Nat) : Int32 := zpick (zfoldB (X7_orderOf_L29_B n) (X7_orderOf_L29_F nm n) 14 0 ((zfold (X7_orderOf_L2_F nm) n 0 ag), 1, nI 0)) (fun b => b.1) (fun am29 => nI 0)
def X7_orderOf_c103 (nm ag : Nat → Int32) (n : Nat) : Nat → Int32 := zpick (zfoldB (X7_orderOf_L29_B n) (X7_orderOf_L29_F nm n) 14 0 ((zfold (X7_orderOf_L2_F nm) n 0 ag), 1, nI 0)) (fun b => b.2) (fun am29 => am29.1)
set_option maxRecDepth 100000 in
set_option maxHeartbeats 4000000 in
theorem c_X7_orderOf (G : zG) (ex : Bool) (g : Nat → va_E) (code : Int32) (tps pts lns wds brs ors : Nat) (stp hasP fld laid told : Int32) (rws : Nat) (cms : Int32) (cmT : Nat) (cmS isN : Int32) (trs : Nat) (nm ag : Nat → Int32) (n : Nat) (hn : n ≤ 7) (hnm : ∀ j, j < n → vp_in (nm j) n) (hor : ∃ b a9, zfoldB (X7_orderOf_L29_B n) (X7_orderOf_L29_F nm n) 14 0 (zfold (X7_orderOf_L2_F nm) n 0 ag, 1, nI 0) = (some b, a9)) (h76 : g 76 = (oMod G code (nI tps) (nI pts) (nI lns) (nI wds) (nI brs) (nI ors) stp hasP fld laid told (nI rws) cms (nI cmT) cmS isN (nI trs))) (h102 : g 102 = (zI G 7 nm)) (h103 : g 103 = (zI G 7 ag)) : zC G yX7_orderOf wsX7_orderOf (zrm 0 0) ex [.ref (zB G + 76), .int (nI n)] (zN, g) (fun r h => r = some (.int (X7_orderOf_v nm ag n)) ∧ h = (zN, zus g [(103, zI G 7 (X7_orderOf_c103 nm ag n))])) := by
  refine zC_of mX7_orderOf (lv := [some (.ref (zB G + 76)), some (.int (nI n)), none, none, none]) rfl rfl (by decide) (by intro v hv; simp at hv; rcases hv with rfl | rfl <;> rfl) (Nat.le_of_ble_eq_true rfl) rfl ?_
  refine z_0 ?_
  refine z_heap (g' := zu (zus g []) 103 (zI G 7 ag)) (zu_self (zus g []) 103 _ h103).symm ?_
  refine z_n (L' := [(103, (zI G 7 ag))]) rfl ?_
  refine z_iconst (v := nI 0) dX7_orderOf_0 rfl (by decide) ?_
  refine z_istore_2 dX7_orderOf_1 rfl ?_
  refine z_forI (head := fun k (st9 : (Nat → Int32)) => Z G mX7_orderOf (zrm 0 0) ex _ 2 [some (.ref (zB G + 76)), some (.int (nI n)), some (.int (nI k)), none, none] [] (zN, zus g [(103, (zI G 7 st9))]) 0 0) (F := (X7_orderOf_L2_F nm)) (n := n) (fun k a => ∀ j, j < k → vp_in (a j) n) (fun k a hk h j hj => by
        unfold X7_orderOf_L2_F
        simp only [upd]
        split
        · exact hnm _ hk
        · exact h j (by omega)) ?_ n 0 ag (by omega) (fun j h => absurd h (Nat.not_lt_zero j)) ?_
  · intro k a1 hi hI K
    refine z_iload_n dX7_orderOf_2 rfl rfl ?_
    refine z_iload_n dX7_orderOf_3 rfl rfl ?_
    refine z_icmp_ge (tgt := 25) dX7_orderOf_4 rfl (by decide) (fun c4 => ?_) (fun c4 => ?_)
    · exact absurd c4 (nI_ge hi (by omega))
    · refine z_aload_n dX7_orderOf_7 rfl rfl ?_
      refine z_get dX7_orderOf_8 rfl hiX7_orderOf_X7 42 lkX7_orderOf_92 (Nat.le_of_ble_eq_true rfl) h76 rfl (by decide) rfl ?_
      refine z_iload_n dX7_orderOf_11 rfl rfl ?_
      refine z_aload_n dX7_orderOf_12 rfl rfl ?_
      refine z_get dX7_orderOf_13 rfl hiX7_orderOf_X7 41 lkX7_orderOf_89 (Nat.le_of_ble_eq_true rfl) h76 rfl (by decide) rfl ?_
      refine z_iload_n dX7_orderOf_16 rfl rfl ?_
      refine z_ialdN (j := k) dX7_orderOf_17 rfl (Nat.le_of_ble_eq_true rfl) h102 (rfl) (by omega) (by decide) ?_
      refine z_iastN (j := k) dX7_orderOf_18 rfl (Nat.le_of_ble_eq_true rfl) rfl (rfl) (by omega) (by decide) ?_
      refine z_n (L' := [(103, (zI G 7 (upd a1 k (nm k))))]) rfl ?_
      refine z_iinc_2 (v := nI (k + 1)) dX7_orderOf_19 rfl (zinc _) ?_
      refine z_goto (tgt := 2) dX7_orderOf_22 (by decide) ?_
      exact K
  · intro hI
    have ha1 : ∀ j, j < n → vp_in (zfold (X7_orderOf_L2_F nm) n 0 ag j) n := hI
    refine z_iload_n dX7_orderOf_2 rfl rfl ?_
    refine z_iload_n dX7_orderOf_3 rfl rfl ?_
    refine z_icmp_ge (tgt := 25) dX7_orderOf_4 rfl (by decide) (fun c4 => ?_) (fun c4 => ?_)
    · refine z_iconst (v := nI 1) dX7_orderOf_25 rfl (by decide) ?_
      refine z_istore_2 dX7_orderOf_26 rfl ?_
      refine z_iconst (v := nI 0) dX7_orderOf_27 rfl (by decide) ?_
      refine z_istore_3 dX7_orderOf_28 rfl ?_
      refine z_forB (head := fun t (st9 : (Nat → Int32) × (Nat) × (Int32)) => ∀ y4 : Option Value, Z G mX7_orderOf (zrm 0 0) ex _ 29 [some (.ref (zB G + 76)), some (.int (nI n)), some (.int (nI st9.2.1)), some (.int st9.2.2), y4] [] (zN, zus g [(103, (zI G 7 st9.1))]) 0 0) (out := fun b _ => (some (Value.int b.1) = some (Value.int (X7_orderOf_v nm ag n))) ∧ ((zN, zus g [(103, (zI G 7 b.2))]) : zAH) = (zN, zus g [(103, zI G 7 (X7_orderOf_c103 nm ag n))])) (B := (X7_orderOf_L29_B n)) (F := (X7_orderOf_L29_F nm n)) (n := 14) (fun _ a => ∀ j, j < n → vp_in (a.1 j) n) (fun t a ht h hB => by
            unfold X7_orderOf_L29_F
            simp only [zlet]
            repeat' split
            all_goals first | exact h | (refine zfold_I (n := n) (fun (_ : Nat) (b : Nat → Int32) => ∀ j, j < n → vp_in (b j) n) (fun i b hi hb j hj => ?_) n 0 a.1 (by omega) h; unfold X7_orderOf_L80_F; simp only [upd]; split; exact hnm _ (zvlt (hb _ hi)); exact hb j hj)) ?_ 14 0 ((zfold (X7_orderOf_L2_F nm) n 0 ag), 1, nI 0) (by omega) ha1 ?_ ?_ _
      · intro t a9 hi hI Ko K
        obtain ⟨a2, od, al⟩ := a9
        intro y4
        have ha2 : ∀ j, j < n → vp_in (a2 j) n := hI
        refine z_iload_n dX7_orderOf_29 rfl rfl ?_
        refine z_if_ne (tgt := 114) dX7_orderOf_30 rfl (by decide) (fun c30 => ?_) (fun c30 => ?_)
        · refine z_iload_n dX7_orderOf_114 rfl rfl ?_
          exact z_ireturn dX7_orderOf_115 rfl rfl (Nat.le_refl _) (Nat.le_refl _) (fun _ => rfl) (Ko (nI od, a2) (by simp only [X7_orderOf_L29_B, if_neg c30]))
        · refine z_iconst (v := nI 1) dX7_orderOf_33 rfl (by decide) ?_
          refine z_istore_3 dX7_orderOf_34 rfl ?_
          refine z_iconst (v := nI 0) dX7_orderOf_35 rfl (by decide) ?_
          refine z_istore_4 dX7_orderOf_36 rfl ?_
          refine z_forI (head := fun k (st9 : (Int32)) => Z G mX7_orderOf (zrm 0 0) ex _ 38 [some (.ref (zB G + 76)), some (.int (nI n)), some (.int (nI od)), some (.int st9), some (.int (nI k))] [] (zN, zus g [(103, (zI G 7 a2))]) 0 0) (F := (X7_orderOf_L38_F a2)) (n := n) (fun _ _ => True) (fun _ _ _ _ => trivial) ?_ n 0 (nI 1) (by omega) trivial ?_
          · intro k al1 hi _ K
            refine z_iload dX7_orderOf_38 rfl rfl ?_
            refine z_iload_n dX7_orderOf_40 rfl rfl ?_
            refine z_icmp_ge (tgt := 70) dX7_orderOf_41 rfl (by decide) (fun c41 => ?_) (fun c41 => ?_)
            · exact absurd c41 (nI_ge hi (by omega))
            · refine z_iload_n dX7_orderOf_44 rfl rfl ?_
              refine z_aload_n dX7_orderOf_45 rfl rfl ?_
              refine z_get dX7_orderOf_46 rfl hiX7_orderOf_X7 42 lkX7_orderOf_92 (Nat.le_of_ble_eq_true rfl) h76 rfl (by decide) rfl ?_
              refine z_iload dX7_orderOf_49 rfl rfl ?_
              refine z_ialdN (j := k) dX7_orderOf_51 rfl (Nat.le_of_ble_eq_true rfl) rfl (rfl) (by omega) (by decide) ?_
              refine z_iload dX7_orderOf_52 rfl rfl ?_
              refine z_icmp_ne (tgt := 61) dX7_orderOf_54 rfl (by decide) (fun c54 => ?_) (fun c54 => ?_)
              · refine z_iconst (v := nI 0) dX7_orderOf_61 rfl (by decide) ?_
                refine z_iand dX7_orderOf_62 rfl ?_
                refine z_istore_3 dX7_orderOf_63 rfl ?_
                refine z_iinc_4 (v := nI (k + 1)) dX7_orderOf_64 rfl (zinc _) ?_
                refine z_goto (tgt := 38) dX7_orderOf_67 (by decide) ?_
                have K9 := K
                try simp only [X7_orderOf_L38_F, if_neg c54] at K9
                exact K9
              · refine z_iconst (v := nI 1) dX7_orderOf_57 rfl (by decide) ?_
                refine z_goto (tgt := 62) dX7_orderOf_58 (by decide) ?_
                refine z_iand dX7_orderOf_62 rfl ?_
                refine z_istore_3 dX7_orderOf_63 rfl ?_
                refine z_iinc_4 (v := nI (k + 1)) dX7_orderOf_64 rfl (zinc _) ?_
                refine z_goto (tgt := 38) dX7_orderOf_67 (by decide) ?_
                have K9 := K
                try simp only [X7_orderOf_L38_F, if_pos c54] at K9
                exact K9
          · generalize hR38 : zfold (X7_orderOf_L38_F a2) n 0 (nI 1) = r9
            obtain ⟨al1o, rfl⟩ : ∃ z, z = r9 := ⟨_, rfl⟩
            intro _
            refine z_iload dX7_orderOf_38 rfl rfl ?_
            refine z_iload_n dX7_orderOf_40 rfl rfl ?_
            refine z_icmp_ge (tgt := 70) dX7_orderOf_41 rfl (by decide) (fun c41 => ?_) (fun c41 => ?_)
            · refine z_iload_n dX7_orderOf_70 rfl rfl ?_
              refine z_if_ne (tgt := 29) dX7_orderOf_71 rfl (by decide) (fun c71 => ?_) (fun c71 => ?_)
              · have K9 := (K (by simp only [X7_orderOf_L29_B, if_pos c30, hR38, zlet_e, if_neg c71]))
                try simp only [X7_orderOf_L29_F, if_pos c30, hR38, zlet_e, if_neg c71] at K9
                exact K9 _
              · refine z_iinc_2 (v := nI (od + 1)) dX7_orderOf_74 rfl (zinc _) ?_
                refine z_iconst (v := nI 0) dX7_orderOf_77 rfl (by decide) ?_
                refine z_istore_4 dX7_orderOf_78 rfl ?_
                refine z_forI (head := fun k (st9 : (Nat → Int32)) => Z G mX7_orderOf (zrm 0 0) ex _ 80 [some (.ref (zB G + 76)), some (.int (nI n)), some (.int (nI (od + 1))), some (.int al1o), some (.int (nI k))] [] (zN, zus g [(103, (zI G 7 st9))]) 0 0) (F := (X7_orderOf_L80_F nm)) (n := n) (fun _ a => ∀ j, j < n → vp_in (a j) n) (fun i b hi hb j hj => by
                      unfold X7_orderOf_L80_F
                      simp only [upd]
                      split
                      · exact hnm _ (zvlt (hb _ hi))
                      · exact hb j hj) ?_ n 0 a2 (by omega) ha2 ?_
                · intro k a3 hi hI K
                  refine z_iload dX7_orderOf_80 rfl rfl ?_
                  refine z_iload_n dX7_orderOf_82 rfl rfl ?_
                  refine z_icmp_ge (tgt := 111) dX7_orderOf_83 rfl (by decide) (fun c83 => ?_) (fun c83 => ?_)
                  · exact absurd c83 (nI_ge hi (by omega))
                  · refine z_aload_n dX7_orderOf_86 rfl rfl ?_
                    refine z_get dX7_orderOf_87 rfl hiX7_orderOf_X7 42 lkX7_orderOf_92 (Nat.le_of_ble_eq_true rfl) h76 rfl (by decide) rfl ?_
                    refine z_iload dX7_orderOf_90 rfl rfl ?_
                    refine z_aload_n dX7_orderOf_92 rfl rfl ?_
                    refine z_get dX7_orderOf_93 rfl hiX7_orderOf_X7 41 lkX7_orderOf_89 (Nat.le_of_ble_eq_true rfl) h76 rfl (by decide) rfl ?_
                    refine z_aload_n dX7_orderOf_96 rfl rfl ?_
                    refine z_get dX7_orderOf_97 rfl hiX7_orderOf_X7 42 lkX7_orderOf_92 (Nat.le_of_ble_eq_true rfl) h76 rfl (by decide) rfl ?_
                    refine z_iload dX7_orderOf_100 rfl rfl ?_
                    refine z_ialdN (j := k) dX7_orderOf_102 rfl (Nat.le_of_ble_eq_true rfl) rfl (rfl) (by omega) (by decide) ?_
                    refine z_iald dX7_orderOf_103 rfl (Nat.le_of_ble_eq_true rfl) h102 (vp_mn9 (hI _ hi) hn) ?_
                    refine z_iastN (j := k) dX7_orderOf_104 rfl (Nat.le_of_ble_eq_true rfl) rfl (rfl) (by omega) (by decide) ?_
                    refine z_n (L' := [(103, (zI G 7 (upd a3 k (nm (a3 k).toNatClampNeg))))]) rfl ?_
                    refine z_iinc_4 (v := nI (k + 1)) dX7_orderOf_105 rfl (zinc _) ?_
                    refine z_goto (tgt := 80) dX7_orderOf_108 (by decide) ?_
                    exact K
                · intro hI
                  refine z_iload dX7_orderOf_80 rfl rfl ?_
                  refine z_iload_n dX7_orderOf_82 rfl rfl ?_
                  refine z_icmp_ge (tgt := 111) dX7_orderOf_83 rfl (by decide) (fun c83 => ?_) (fun c83 => ?_)
                  · refine z_goto (tgt := 29) dX7_orderOf_111 (by decide) ?_
                    have K9 := (K (by simp only [X7_orderOf_L29_B, if_pos c30, hR38, zlet_e, if_pos c71]))
                    try simp only [X7_orderOf_L29_F, if_pos c30, hR38, zlet_e, if_pos c71] at K9
                    exact K9 _
                  · exact absurd (nI_le (Nat.le_refl _) (by omega)) c83
            · exact absurd (nI_le (Nat.le_refl _) (by omega)) c41
      · intro b a9 hz29
        exact ⟨by simp only [X7_orderOf_v, hz29, zpick_s], by simp only [X7_orderOf_c103, hz29, zpick_s]⟩
      · intro a9 hz29 hI
        obtain ⟨a2, od, al⟩ := a9
        intro y4
        obtain ⟨b9, a8, e9⟩ := hor
        rw [e9] at hz29
        cases hz29
    · exact absurd (nI_le (Nat.le_refl _) (by omega)) c4
