def ch2 : Nat → Nat
  | 0 => 0
  | m + 1 => m + ch2 m
def ch3 : Nat → Nat
  | 0 => 0
  | m + 1 => ch2 m + ch3 m
theorem ch2s {n b : Nat} (h : b < n) : ch2 (n - b) = (n - (b + 1)) + ch2 (n - (b + 1)) := by
  rw [show n - b = n - (b + 1) + 1 by omega]
  rfl
theorem ch3s {n b : Nat} (h : b < n) : ch3 (n - b) = ch2 (n - (b + 1)) + ch3 (n - (b + 1)) := by
  rw [show n - b = n - (b + 1) + 1 by omega]
  rfl
theorem ch3_20 : ∀ n, n < 7 → ch3 n ≤ 20 := by decide
theorem isApart01 {a b : Int32} : X7_isApart_v a b = nI 0 ∨ X7_isApart_v a b = nI 1 := by
  unfold X7_isApart_v
  split
  · exact Or.inr rfl
  · exact Or.inl rfl
theorem zbnar {x : Int32} (h : x = nI 0 ∨ x = nI 1) : narrow .boolean (.int x) = .int x := zb01 h
abbrev mX7_layTriples : zM := (cX7_layTriples, 5, none, RX7, wsX7_layTriples, "layTriples")
theorem hiX7_layTriples_X7 : ∀ w ∈ wsX70, w ∈ wsX7_layTriples := fun w h => List.mem_cons_of_mem _ (List.mem_append_right _ h)
theorem lkX7_layTriples_303 : Cond.fieldLink RX7 303 "ConfigSearchModel" "triples" "I" ∈ wsX7_layTriples := by decide +kernel
theorem lkX7_layTriples_113 : Cond.fieldLink RX7 113 "ConfigSearchModel" "tripleMask" "[I" ∈ wsX7_layTriples := by decide +kernel
def X7_layTriples_L26_F (a0 : Nat) (b : Nat) (c : Nat) (a9 : (Nat → Int32) × (Nat)) : (Nat → Int32) × (Nat) := (upd a9.1 a9.2 (X7_maskOf_v (nI a0) (nI b) (nI c)), a9.2 + 1)
def X7_layTriples_L16_F (n : Nat) (a0 : Nat) (b : Nat) (a9 : (Nat → Int32) × (Nat)) : (Nat → Int32) × (Nat) := ((zfold (X7_layTriples_L26_F a0 b) (n - (b + 1)) (b + 1) (a9.1, a9.2)).1, (zfold (X7_layTriples_L26_F a0 b) (n - (b + 1)) (b + 1) (a9.1, a9.2)).2)
def X7_layTriples_L7_F (n : Nat) (a0 : Nat) (a9 : (Nat → Int32) × (Nat)) : (Nat → Int32) × (Nat) := ((zfold (X7_layTriples_L16_F n a0) (n - (a0 + 1)) (a0 + 1) (a9.1, a9.2)).1, (zfold (X7_layTriples_L16_F n a0) (n - (a0 + 1)) (a0 + 1) (a9.1, a9.2)).2)
def X7_layTriples_p76_17 (tm : Nat → Int32) (n : Nat) : Nat := (zfold (X7_layTriples_L7_F n) n 0 (tm, 0)).2
def X7_layTriples_c110 (tm : Nat → Int32) (n : Nat) : Nat → Int32 := (zfold (X7_layTriples_L7_F n) n 0 (tm, 0)).1
set_option maxRecDepth 100000 in
set_option maxHeartbeats 4000000 in
theorem c_X7_layTriples (G : zG) (ex : Bool) (g : Nat → va_E) (code : Int32) (tps pts lns wds brs ors : Nat) (stp hasP fld laid told : Int32) (rws : Nat) (cms : Int32) (cmT : Nat) (cmS isN : Int32) (trs : Nat) (tm : Nat → Int32) (n : Nat) (hn : n ≤ 6) (h76 : g 76 = (oMod G code (nI tps) (nI pts) (nI lns) (nI wds) (nI brs) (nI ors) stp hasP fld laid told (nI rws) cms (nI cmT) cmS isN (nI trs))) (h110 : g 110 = (zI G 20 tm)) : zC G yX7_layTriples wsX7_layTriples (zrm 1 22) ex [.ref (zB G + 76), .int (nI n)] (zN, g) (fun r h => r = none ∧ h = (zN, zus g [(76, (oMod G code (nI tps) (nI pts) (nI lns) (nI wds) (nI brs) (nI ors) stp hasP fld laid told (nI rws) cms (nI cmT) cmS isN (nI (X7_layTriples_p76_17 tm n)))), (110, zI G 20 (X7_layTriples_c110 tm n))])) := by
  refine zC_of mX7_layTriples (lv := [some (.ref (zB G + 76)), some (.int (nI n)), none, none, none]) rfl rfl (by decide) (by intro v hv; simp at hv; rcases hv with rfl | rfl <;> rfl) (Nat.le_of_ble_eq_true rfl) rfl ?_
  refine z_0 ?_
  refine z_heap (g' := zu (zus g []) 76 (oMod G code (nI tps) (nI pts) (nI lns) (nI wds) (nI brs) (nI ors) stp hasP fld laid told (nI rws) cms (nI cmT) cmS isN (nI trs))) (zu_self (zus g []) 76 _ h76).symm ?_
  refine z_n (L' := [(76, (oMod G code (nI tps) (nI pts) (nI lns) (nI wds) (nI brs) (nI ors) stp hasP fld laid told (nI rws) cms (nI cmT) cmS isN (nI trs)))]) rfl ?_
  refine z_heap (g' := zu (zus g [(76, (oMod G code (nI tps) (nI pts) (nI lns) (nI wds) (nI brs) (nI ors) stp hasP fld laid told (nI rws) cms (nI cmT) cmS isN (nI trs)))]) 110 (zI G 20 tm)) (zu_self (zus g [(76, (oMod G code (nI tps) (nI pts) (nI lns) (nI wds) (nI brs) (nI ors) stp hasP fld laid told (nI rws) cms (nI cmT) cmS isN (nI trs)))]) 110 _ h110).symm ?_
  refine z_n (L' := [(76, (oMod G code (nI tps) (nI pts) (nI lns) (nI wds) (nI brs) (nI ors) stp hasP fld laid told (nI rws) cms (nI cmT) cmS isN (nI trs))), (110, (zI G 20 tm))]) rfl ?_
  refine z_aload_n dX7_layTriples_0 rfl rfl ?_
  refine z_iconst (v := nI 0) dX7_layTriples_1 rfl (by decide) ?_
  refine z_putN (e9 := (oMod G code (nI tps) (nI pts) (nI lns) (nI wds) (nI brs) (nI ors) stp hasP fld laid told (nI rws) cms (nI cmT) cmS isN (nI 0))) tyX7 tyX7_ok nmX7 dX7_layTriples_2 rfl hiX7_layTriples_X7 50 lkX7_layTriples_303 rfl (by decide +kernel) (Nat.le_of_ble_eq_true rfl) rfl rfl (by decide) (Nat.le_of_ble_eq_true rfl) rfl rfl rfl ?_
  refine z_n (L' := [(76, (oMod G code (nI tps) (nI pts) (nI lns) (nI wds) (nI brs) (nI ors) stp hasP fld laid told (nI rws) cms (nI cmT) cmS isN (nI 0))), (110, (zI G 20 tm))]) rfl ?_
  refine z_iconst (v := nI 0) dX7_layTriples_5 rfl (by decide) ?_
  refine z_istore_2 dX7_layTriples_6 rfl ?_
  refine z_forI (head := fun a0 (st9 : (Nat → Int32) × (Nat)) => ∀ y3 y4 : Option Value, Z G mX7_layTriples (zrm 1 22) ex _ 7 [some (.ref (zB G + 76)), some (.int (nI n)), some (.int (nI a0)), y3, y4] [] (zN, zus g [(76, (oMod G code (nI tps) (nI pts) (nI lns) (nI wds) (nI brs) (nI ors) stp hasP fld laid told (nI rws) cms (nI cmT) cmS isN (nI st9.2))), (110, (zI G 20 st9.1))]) 0 0) (F := (X7_layTriples_L7_F n)) (n := n) (fun a0 a => a.2 + ch3 (n - a0) ≤ 20) (fun a0 a ha h => by
        have e := zfold_I (n := n) (fun (b : Nat) (a : (Nat → Int32) × Nat) => a.2 + ch2 (n - b) + ch3 (n - (a0 + 1)) ≤ 20) (F := X7_layTriples_L16_F n a0) (fun b a hb h => by
              have e := zfold_I (n := n) (fun (c : Nat) (a : (Nat → Int32) × Nat) => a.2 + (n - c) + ch2 (n - (b + 1)) + ch3 (n - (a0 + 1)) ≤ 20) (F := X7_layTriples_L26_F a0 b) (fun c a hc h => by
                      unfold X7_layTriples_L26_F
                      show a.2 + 1 + (n - (c + 1)) + ch2 (n - (b + 1)) + ch3 (n - (a0 + 1)) ≤ 20
                      have h : a.2 + (n - c) + ch2 (n - (b + 1)) + ch3 (n - (a0 + 1)) ≤ 20 := h
                      omega) (n - (b + 1)) (b + 1) a (by omega) (by have h : a.2 + ch2 (n - b) + ch3 (n - (a0 + 1)) ≤ 20 := h; rw [ch2s hb] at h; show a.2 + (n - (b + 1)) + ch2 (n - (b + 1)) + ch3 (n - (a0 + 1)) ≤ 20; omega)
              unfold X7_layTriples_L16_F
              show (zfold (X7_layTriples_L26_F a0 b) (n - (b + 1)) (b + 1) a).2 + ch2 (n - (b + 1)) + ch3 (n - (a0 + 1)) ≤ 20
              omega) (n - (a0 + 1)) (a0 + 1) a (by omega) (by have h : a.2 + ch3 (n - a0) ≤ 20 := h; rw [ch3s ha] at h; show a.2 + ch2 (n - (a0 + 1)) + ch3 (n - (a0 + 1)) ≤ 20; omega)
        unfold X7_layTriples_L7_F
        show (zfold (X7_layTriples_L16_F n a0) (n - (a0 + 1)) (a0 + 1) a).2 + ch3 (n - (a0 + 1)) ≤ 20
        have z : ch2 (n - n) = 0 := by rw [Nat.sub_self]; rfl
        omega) ?_ n 0 (tm, 0) (by omega) (by show 0 + ch3 (n - 0) ≤ 20; have := ch3_20 n (by omega); rw [Nat.sub_zero]; omega) ?_ _ _
  · intro a0 a9 hi hI K
    obtain ⟨t1, q1⟩ := a9
    intro y3 y4
    have ha : a0 < n := hi
    have hI1 : q1 + ch3 (n - a0) ≤ 20 := hI
    refine z_iload_n dX7_layTriples_7 rfl rfl ?_
    refine z_iload_n dX7_layTriples_8 rfl rfl ?_
    refine z_icmp_ge (tgt := 76) dX7_layTriples_9 rfl (by decide) (fun c9 => ?_) (fun c9 => ?_)
    · exact absurd c9 (nI_ge hi (by omega))
    · refine z_iload_n dX7_layTriples_12 rfl rfl ?_
      refine z_iconst (v := nI 1) dX7_layTriples_13 rfl (by decide) ?_
      refine z_iadd dX7_layTriples_14 rfl ?_
      refine z_top (show (nI a0) + (nI 1) = nI (a0 + 1) from (zq_add rfl rfl)) ?_
      refine z_istore_3 dX7_layTriples_15 rfl ?_
      refine z_forI (head := fun b (st9 : (Nat → Int32) × (Nat)) => ∀ y4 : Option Value, Z G mX7_layTriples (zrm 1 22) ex _ 16 [some (.ref (zB G + 76)), some (.int (nI n)), some (.int (nI a0)), some (.int (nI b)), y4] [] (zN, zus g [(76, (oMod G code (nI tps) (nI pts) (nI lns) (nI wds) (nI brs) (nI ors) stp hasP fld laid told (nI rws) cms (nI cmT) cmS isN (nI st9.2))), (110, (zI G 20 st9.1))]) 0 0) (F := (X7_layTriples_L16_F n a0)) (n := n) (fun b a => a.2 + ch2 (n - b) + ch3 (n - (a0 + 1)) ≤ 20) (fun b a hb h => by
            have e := zfold_I (n := n) (fun (c : Nat) (a : (Nat → Int32) × Nat) => a.2 + (n - c) + ch2 (n - (b + 1)) + ch3 (n - (a0 + 1)) ≤ 20) (F := X7_layTriples_L26_F a0 b) (fun c a hc h => by
                    unfold X7_layTriples_L26_F
                    show a.2 + 1 + (n - (c + 1)) + ch2 (n - (b + 1)) + ch3 (n - (a0 + 1)) ≤ 20
                    have h : a.2 + (n - c) + ch2 (n - (b + 1)) + ch3 (n - (a0 + 1)) ≤ 20 := h
                    omega) (n - (b + 1)) (b + 1) a (by omega) (by have h : a.2 + ch2 (n - b) + ch3 (n - (a0 + 1)) ≤ 20 := h; rw [ch2s hb] at h; show a.2 + (n - (b + 1)) + ch2 (n - (b + 1)) + ch3 (n - (a0 + 1)) ≤ 20; omega)
            unfold X7_layTriples_L16_F
            show (zfold (X7_layTriples_L26_F a0 b) (n - (b + 1)) (b + 1) a).2 + ch2 (n - (b + 1)) + ch3 (n - (a0 + 1)) ≤ 20
            omega) ?_ (n - (a0 + 1)) (a0 + 1) (t1, q1) (by omega) (by show q1 + ch2 (n - (a0 + 1)) + ch3 (n - (a0 + 1)) ≤ 20; rw [ch3s ha] at hI1; omega) ?_ _
      · intro b a9 hi hI K
        obtain ⟨t2, q2⟩ := a9
        intro y4
        have hb : b < n := hi
        have hI2 : q2 + ch2 (n - b) + ch3 (n - (a0 + 1)) ≤ 20 := hI
        refine z_iload_n dX7_layTriples_16 rfl rfl ?_
        refine z_iload_n dX7_layTriples_17 rfl rfl ?_
        refine z_icmp_ge (tgt := 70) dX7_layTriples_18 rfl (by decide) (fun c18 => ?_) (fun c18 => ?_)
        · exact absurd c18 (nI_ge hi (by omega))
        · refine z_iload_n dX7_layTriples_21 rfl rfl ?_
          refine z_iconst (v := nI 1) dX7_layTriples_22 rfl (by decide) ?_
          refine z_iadd dX7_layTriples_23 rfl ?_
          refine z_top (show (nI b) + (nI 1) = nI (b + 1) from (zq_add rfl rfl)) ?_
          refine z_istore_4 dX7_layTriples_24 rfl ?_
          refine z_forI (head := fun c (st9 : (Nat → Int32) × (Nat)) => Z G mX7_layTriples (zrm 1 22) ex _ 26 [some (.ref (zB G + 76)), some (.int (nI n)), some (.int (nI a0)), some (.int (nI b)), some (.int (nI c))] [] (zN, zus g [(76, (oMod G code (nI tps) (nI pts) (nI lns) (nI wds) (nI brs) (nI ors) stp hasP fld laid told (nI rws) cms (nI cmT) cmS isN (nI st9.2))), (110, (zI G 20 st9.1))]) 0 0) (F := (X7_layTriples_L26_F a0 b)) (n := n) (fun c a => a.2 + (n - c) + ch2 (n - (b + 1)) + ch3 (n - (a0 + 1)) ≤ 20) (fun c a hc h => by
                unfold X7_layTriples_L26_F
                show a.2 + 1 + (n - (c + 1)) + ch2 (n - (b + 1)) + ch3 (n - (a0 + 1)) ≤ 20
                have h : a.2 + (n - c) + ch2 (n - (b + 1)) + ch3 (n - (a0 + 1)) ≤ 20 := h
                omega) ?_ (n - (b + 1)) (b + 1) (t2, q2) (by omega) (by show q2 + (n - (b + 1)) + ch2 (n - (b + 1)) + ch3 (n - (a0 + 1)) ≤ 20; rw [ch2s hb] at hI2; omega) ?_
          · intro c a9 hi hI K
            obtain ⟨t3, q3⟩ := a9
            have hc : c < n := hi
            have hI3 : q3 + (n - c) + ch2 (n - (b + 1)) + ch3 (n - (a0 + 1)) ≤ 20 := hI
            refine z_iload dX7_layTriples_26 rfl rfl ?_
            refine z_iload_n dX7_layTriples_28 rfl rfl ?_
            refine z_icmp_ge (tgt := 64) dX7_layTriples_29 rfl (by decide) (fun c29 => ?_) (fun c29 => ?_)
            · exact absurd c29 (nI_ge hi (by omega))
            · refine z_aload_n dX7_layTriples_32 rfl rfl ?_
              refine z_get dX7_layTriples_33 rfl hiX7_layTriples_X7 51 lkX7_layTriples_113 (Nat.le_of_ble_eq_true rfl) rfl rfl (by decide) rfl ?_
              refine z_aload_n dX7_layTriples_36 rfl rfl ?_
              refine z_get dX7_layTriples_37 rfl hiX7_layTriples_X7 50 lkX7_layTriples_303 (Nat.le_of_ble_eq_true rfl) rfl rfl (by decide) rfl ?_
              refine z_iload_n dX7_layTriples_40 rfl rfl ?_
              refine z_iload_n dX7_layTriples_41 rfl rfl ?_
              refine z_iload dX7_layTriples_42 rfl rfl ?_
              refine z_callSi (c_X7_maskOf G ex _ (nI a0) (nI b) (nI c)) gX7_layTriples_X7_maskOf rfl dX7_layTriples_44 rfl rfl okk_X7_maskOf ⟨Nat.le_of_ble_eq_true rfl, Nat.le_of_ble_eq_true rfl⟩ ⟨Nat.le_of_ble_eq_true rfl, Nat.le_of_ble_eq_true rfl⟩ (Nat.le_of_ble_eq_true rfl) ?_
              refine z_iastN (j := q3) dX7_layTriples_47 rfl (Nat.le_of_ble_eq_true rfl) rfl (rfl) (by omega) (by decide) ?_
              refine z_n (L' := [(76, (oMod G code (nI tps) (nI pts) (nI lns) (nI wds) (nI brs) (nI ors) stp hasP fld laid told (nI rws) cms (nI cmT) cmS isN (nI q3))), (110, (zI G 20 (upd t3 q3 (X7_maskOf_v (nI a0) (nI b) (nI c)))))]) rfl ?_
              refine z_aload_n dX7_layTriples_48 rfl rfl ?_
              refine z_dup dX7_layTriples_49 rfl rfl ?_
              refine z_get dX7_layTriples_50 rfl hiX7_layTriples_X7 50 lkX7_layTriples_303 (Nat.le_of_ble_eq_true rfl) rfl rfl (by decide) rfl ?_
              refine z_iconst (v := nI 1) dX7_layTriples_53 rfl (by decide) ?_
              refine z_iadd dX7_layTriples_54 rfl ?_
              refine z_top (show (nI q3) + (nI 1) = nI (q3 + 1) from (zq_add rfl rfl)) ?_
              refine z_putN (e9 := (oMod G code (nI tps) (nI pts) (nI lns) (nI wds) (nI brs) (nI ors) stp hasP fld laid told (nI rws) cms (nI cmT) cmS isN (nI (q3 + 1)))) tyX7 tyX7_ok nmX7 dX7_layTriples_55 rfl hiX7_layTriples_X7 50 lkX7_layTriples_303 rfl (by decide +kernel) (Nat.le_of_ble_eq_true rfl) rfl rfl (by decide) (Nat.le_of_ble_eq_true rfl) rfl rfl rfl ?_
              refine z_n (L' := [(76, (oMod G code (nI tps) (nI pts) (nI lns) (nI wds) (nI brs) (nI ors) stp hasP fld laid told (nI rws) cms (nI cmT) cmS isN (nI (q3 + 1)))), (110, (zI G 20 (upd t3 q3 (X7_maskOf_v (nI a0) (nI b) (nI c)))))]) rfl ?_
              refine z_iinc_4 (v := nI (c + 1)) dX7_layTriples_58 rfl (zinc _) ?_
              refine z_goto (tgt := 26) dX7_layTriples_61 (by decide) ?_
              exact K
          · intro hI
            refine z_iload dX7_layTriples_26 rfl rfl ?_
            refine z_iload_n dX7_layTriples_28 rfl rfl ?_
            refine z_icmp_ge (tgt := 64) dX7_layTriples_29 rfl (by decide) (fun c29 => ?_) (fun c29 => ?_)
            · refine z_iinc_3 (v := nI (b + 1)) dX7_layTriples_64 rfl (zinc _) ?_
              refine z_goto (tgt := 16) dX7_layTriples_67 (by decide) ?_
              exact K _
            · exact absurd (nI_le (Nat.le_refl _) (by omega)) c29
      · intro hI y4
        refine z_iload_n dX7_layTriples_16 rfl rfl ?_
        refine z_iload_n dX7_layTriples_17 rfl rfl ?_
        refine z_icmp_ge (tgt := 70) dX7_layTriples_18 rfl (by decide) (fun c18 => ?_) (fun c18 => ?_)
        · refine z_iinc_2 (v := nI (a0 + 1)) dX7_layTriples_70 rfl (zinc _) ?_
          refine z_goto (tgt := 7) dX7_layTriples_73 (by decide) ?_
          exact K _ _
        · exact absurd (nI_le (Nat.le_refl _) (by omega)) c18
  · intro hI y3 y4
    refine z_iload_n dX7_layTriples_7 rfl rfl ?_
    refine z_iload_n dX7_layTriples_8 rfl rfl ?_
    refine z_icmp_ge (tgt := 76) dX7_layTriples_9 rfl (by decide) (fun c9 => ?_) (fun c9 => ?_)
    · exact z_return dX7_layTriples_76 rfl (Nat.le_refl _) (Nat.le_refl _) (fun _ => rfl) ⟨rfl, by simp only [X7_layTriples_p76_17, X7_layTriples_c110]⟩
    · exact absurd (nI_le (Nat.le_refl _) (by omega)) c9
abbrev mX7_isGoodSet : zM := (cX7_isGoodSet, 5, (some .boolean), RX7, wsX7_isGoodSet, "isGoodSet")
theorem hiX7_isGoodSet_X7 : ∀ w ∈ wsX70, w ∈ wsX7_isGoodSet := fun w h => List.mem_cons_of_mem _ (List.mem_append_right _ h)
theorem lkX7_isGoodSet_113 : Cond.fieldLink RX7 113 "ConfigSearchModel" "tripleMask" "[I" ∈ wsX7_isGoodSet := by decide +kernel
theorem lkX7_isGoodSet_116 : Cond.fieldLink RX7 116 "ConfigSearchModel" "chosen" "[I" ∈ wsX7_isGoodSet := by decide +kernel
theorem okk_X7_isApart : zOk yX7_isApart 2 := by unfold zOk; decide +kernel
def X7_isGoodSet_L14_F (tm : Nat → Int32) (ch : Nat → Int32) (i : Nat) (k : Nat) (a9 : (Int32)) : (Int32) := if a9 = 0 then a9 else (X7_isApart_v (tm (ch i).toNatClampNeg) (tm (ch k).toNatClampNeg))
def X7_isGoodSet_L14_B (k : Nat) (a9 : (Int32)) : Option ((Int32)) := if a9 = 0 then (some a9) else none
def X7_isGoodSet_L4_F (tm : Nat → Int32) (ch : Nat → Int32) (m : Nat) (i : Nat) (a9 : (Int32)) : (Int32) := (zfoldX (X7_isGoodSet_L14_B) (X7_isGoodSet_L14_F tm ch i) (m - (i + 1)) (i + 1) a9).2
def X7_isGoodSet_v (tm ch : Nat → Int32) (m : Nat) : Int32 := (zfold (X7_isGoodSet_L4_F tm ch m) m 0 (nI 1))
set_option maxRecDepth 100000 in
set_option maxHeartbeats 4000000 in
theorem c_X7_isGoodSet (G : zG) (ex : Bool) (g : Nat → va_E) (code : Int32) (tps pts lns wds brs ors : Nat) (stp hasP fld laid told : Int32) (rws : Nat) (cms : Int32) (cmT : Nat) (cmS isN : Int32) (trs : Nat) (tm ch : Nat → Int32) (m : Nat) (hm : m ≤ 4) (hch : ∀ j, j < m → vp_in (ch j) 20) (h76 : g 76 = (oMod G code (nI tps) (nI pts) (nI lns) (nI wds) (nI brs) (nI ors) stp hasP fld laid told (nI rws) cms (nI cmT) cmS isN (nI trs))) (h110 : g 110 = (zI G 20 tm)) (h111 : g 111 = (zI G 4 ch)) : zC G yX7_isGoodSet wsX7_isGoodSet (zrm 1 22) ex [.ref (zB G + 76), .int (nI m)] (zN, g) (fun r h => r = some (.int (X7_isGoodSet_v tm ch m)) ∧ h = (zN, g)) := by
  refine zC_of mX7_isGoodSet (lv := [some (.ref (zB G + 76)), some (.int (nI m)), none, none, none]) rfl rfl (by decide) (by intro v hv; simp at hv; rcases hv with rfl | rfl <;> rfl) (Nat.le_of_ble_eq_true rfl) rfl ?_
  refine z_0 ?_
  refine z_iconst (v := nI 1) dX7_isGoodSet_0 rfl (by decide) ?_
  refine z_istore_2 dX7_isGoodSet_1 rfl ?_
  refine z_iconst (v := nI 0) dX7_isGoodSet_2 rfl (by decide) ?_
  refine z_istore_3 dX7_isGoodSet_3 rfl ?_
  refine z_forI (head := fun i (st9 : (Int32)) => ∀ y4 : Option Value, Z G mX7_isGoodSet (zrm 1 22) ex _ 4 [some (.ref (zB G + 76)), some (.int (nI m)), some (.int st9), some (.int (nI i)), y4] [] (zN, zus g []) 0 0) (F := (X7_isGoodSet_L4_F tm ch m)) (n := m) (fun _ a => a = nI 0 ∨ a = nI 1) (fun i a hi h => by
        unfold X7_isGoodSet_L4_F
        refine zfoldX_P (fun a => a = nI 0 ∨ a = nI 1) (fun k a h => ?_) (fun k a b h hB => ?_) _ _ _ h
        · unfold X7_isGoodSet_L14_F
          split
          · exact h
          · exact isApart01
        · unfold X7_isGoodSet_L14_B at hB
          split at hB
          · cases hB; exact h
          · cases hB) ?_ m 0 (nI 1) (by omega) (Or.inr rfl) ?_ _
  · intro i g1 hi hI K
    intro y4
    have hi9 : i < m := hi
    have hg1 : g1 = nI 0 ∨ g1 = nI 1 := hI
    refine z_iload_n dX7_isGoodSet_4 rfl rfl ?_
    refine z_iload_n dX7_isGoodSet_5 rfl rfl ?_
    refine z_icmp_ge (tgt := 63) dX7_isGoodSet_6 rfl (by decide) (fun c6 => ?_) (fun c6 => ?_)
    · exact absurd c6 (nI_ge hi (by omega))
    · refine z_iload_n dX7_isGoodSet_9 rfl rfl ?_
      refine z_iconst (v := nI 1) dX7_isGoodSet_10 rfl (by decide) ?_
      refine z_iadd dX7_isGoodSet_11 rfl ?_
      refine z_top (show (nI i) + (nI 1) = nI (i + 1) from (zq_add rfl rfl)) ?_
      refine z_istore_4 dX7_isGoodSet_12 rfl ?_
      refine z_forX (head := fun k (st9 : (Int32)) => Z G mX7_isGoodSet (zrm 1 22) ex _ 14 [some (.ref (zB G + 76)), some (.int (nI m)), some (.int st9), some (.int (nI i)), some (.int (nI k))] [] (zN, zus g []) 0 0) (out := fun k (st9 : (Int32)) => Z G mX7_isGoodSet (zrm 1 22) ex (fun r h => r = some (.int (X7_isGoodSet_v tm ch m)) ∧ h = (zN, g)) 57 [some (.ref (zB G + 76)), some (.int (nI m)), some (.int st9), some (.int (nI i)), some (.int (nI k))] [] (zN, zus g []) 0 0) (B := (X7_isGoodSet_L14_B)) (F := (X7_isGoodSet_L14_F tm ch i)) (n := m) (fun _ _ => True) (fun _ _ => True) (fun _ _ _ _ _ => trivial) (fun _ _ _ _ _ _ => trivial) (fun _ _ => trivial) ?_ ?_ (m - (i + 1)) (i + 1) g1 (by omega) trivial ?_
      · intro k g2 hi _ Ko K
        have hk9 : k < m := hi
        refine z_iload dX7_isGoodSet_14 rfl rfl ?_
        refine z_iload_n dX7_isGoodSet_16 rfl rfl ?_
        refine z_icmp_ge (tgt := 57) dX7_isGoodSet_17 rfl (by decide) (fun c17 => ?_) (fun c17 => ?_)
        · exact absurd c17 (nI_ge hi (by omega))
        · refine z_iload_n dX7_isGoodSet_20 rfl rfl ?_
          refine z_if_eq (tgt := 57) dX7_isGoodSet_21 rfl (by decide) (fun c21 => ?_) (fun c21 => ?_)
          · exact Ko g2 (by simp only [X7_isGoodSet_L14_B, if_pos c21])
          · refine z_aload_n dX7_isGoodSet_24 rfl rfl ?_
            refine z_get dX7_isGoodSet_25 rfl hiX7_isGoodSet_X7 51 lkX7_isGoodSet_113 (Nat.le_of_ble_eq_true rfl) h76 rfl (by decide) rfl ?_
            refine z_aload_n dX7_isGoodSet_28 rfl rfl ?_
            refine z_get dX7_isGoodSet_29 rfl hiX7_isGoodSet_X7 52 lkX7_isGoodSet_116 (Nat.le_of_ble_eq_true rfl) h76 rfl (by decide) rfl ?_
            refine z_iload_n dX7_isGoodSet_32 rfl rfl ?_
            refine z_ialdN (j := i) dX7_isGoodSet_33 rfl (Nat.le_of_ble_eq_true rfl) h111 (rfl) (by omega) (by decide) ?_
            refine z_iald dX7_isGoodSet_34 rfl (Nat.le_of_ble_eq_true rfl) h110 (hch _ hi9) ?_
            refine z_aload_n dX7_isGoodSet_35 rfl rfl ?_
            refine z_get dX7_isGoodSet_36 rfl hiX7_isGoodSet_X7 51 lkX7_isGoodSet_113 (Nat.le_of_ble_eq_true rfl) h76 rfl (by decide) rfl ?_
            refine z_aload_n dX7_isGoodSet_39 rfl rfl ?_
            refine z_get dX7_isGoodSet_40 rfl hiX7_isGoodSet_X7 52 lkX7_isGoodSet_116 (Nat.le_of_ble_eq_true rfl) h76 rfl (by decide) rfl ?_
            refine z_iload dX7_isGoodSet_43 rfl rfl ?_
            refine z_ialdN (j := k) dX7_isGoodSet_45 rfl (Nat.le_of_ble_eq_true rfl) h111 (rfl) (by omega) (by decide) ?_
            refine z_iald dX7_isGoodSet_46 rfl (Nat.le_of_ble_eq_true rfl) h110 (hch _ hk9) ?_
            refine z_callSi (c_X7_isApart G ex _ (tm (ch i).toNatClampNeg) (tm (ch k).toNatClampNeg)) gX7_isGoodSet_X7_isApart rfl dX7_isGoodSet_47 rfl rfl okk_X7_isApart ⟨Nat.le_of_ble_eq_true rfl, Nat.le_of_ble_eq_true rfl⟩ ⟨Nat.le_of_ble_eq_true rfl, Nat.le_of_ble_eq_true rfl⟩ (Nat.le_of_ble_eq_true rfl) ?_
            refine z_istore_2 dX7_isGoodSet_50 rfl ?_
            refine z_iinc_4 (v := nI (k + 1)) dX7_isGoodSet_51 rfl (zinc _) ?_
            refine z_goto (tgt := 14) dX7_isGoodSet_54 (by decide) ?_
            have K9 := (K (by simp only [X7_isGoodSet_L14_B, if_neg c21]))
            try simp only [X7_isGoodSet_L14_F, if_neg c21] at K9
            exact K9
      · intro g2 _ K
        refine z_iload dX7_isGoodSet_14 rfl rfl ?_
        refine z_iload_n dX7_isGoodSet_16 rfl rfl ?_
        refine z_icmp_ge (tgt := 57) dX7_isGoodSet_17 rfl (by decide) (fun c17 => ?_) (fun c17 => ?_)
        · exact K
        · exact absurd (nI_le (Nat.le_refl _) (by omega)) c17
      · intro hJ14 hle14
        refine z_iinc_3 (v := nI (i + 1)) dX7_isGoodSet_57 rfl (zinc _) ?_
        refine z_goto (tgt := 4) dX7_isGoodSet_60 (by decide) ?_
        exact K _
  · intro hI y4
    have hg9 := hI
    refine z_iload_n dX7_isGoodSet_4 rfl rfl ?_
    refine z_iload_n dX7_isGoodSet_5 rfl rfl ?_
    refine z_icmp_ge (tgt := 63) dX7_isGoodSet_6 rfl (by decide) (fun c6 => ?_) (fun c6 => ?_)
    · refine z_iload_n dX7_isGoodSet_63 rfl rfl ?_
      exact z_ireturn dX7_isGoodSet_64 rfl (zb01 hg9) (Nat.le_refl _) (Nat.le_refl _) (fun _ => rfl) ⟨by simp only [X7_isGoodSet_v], rfl⟩
    · exact absurd (nI_le (Nat.le_refl _) (by omega)) c6
abbrev mX7_isLeastSet : zM := (cX7_isLeastSet, 6, (some .boolean), RX7, wsX7_isLeastSet, "isLeastSet")
theorem hiX7_isLeastSet_X7 : ∀ w ∈ wsX70, w ∈ wsX7_isLeastSet := fun w h => List.mem_cons_of_mem _ (List.mem_append_right _ h)
theorem lkX7_isLeastSet_98 : Cond.fieldLink RX7 98 "ConfigSearchModel" "form" "[I" ∈ wsX7_isLeastSet := by decide +kernel
theorem lkX7_isLeastSet_113 : Cond.fieldLink RX7 113 "ConfigSearchModel" "tripleMask" "[I" ∈ wsX7_isLeastSet := by decide +kernel
theorem lkX7_isLeastSet_116 : Cond.fieldLink RX7 116 "ConfigSearchModel" "chosen" "[I" ∈ wsX7_isLeastSet := by decide +kernel
theorem lkX7_isLeastSet_104 : Cond.fieldLink RX7 104 "ConfigSearchModel" "own" "[I" ∈ wsX7_isLeastSet := by decide +kernel
def X7_isLeastSet_L2_F (tm : Nat → Int32) (ch : Nat → Int32) (k : Nat) (a9 : (Nat → Int32)) : (Nat → Int32) := upd a9 k (tm (ch k).toNatClampNeg)
def X7_isLeastSet_L37_F (m : Nat) (f1o : Nat → Int32) (k : Nat) (a9 : (Nat → Int32)) : (Nat → Int32) := upd a9 k ((X7_sortForm_c105 f1o m) k)
def X7_isLeastSet_L88_F (n : Nat) (o1o : Nat → Int32) (r : Nat) (n1 : Nat → Int32) (fr1 : Nat → Int32) (k : Nat) (a9 : (Nat → Int32)) : (Nat → Int32) := upd a9 k (X7_renamed_v (X7_layNames_c102 n1 fr1 n r) (o1o k) n)
def X7_isLeastSet_L65_F (n : Nat) (m : Nat) (o1o : Nat → Int32) (r : Nat) (a9 : (Int32) × (Nat → Int32) × (Nat → Int32) × (Nat → Int32)) : (Int32) × (Nat → Int32) × (Nat → Int32) × (Nat → Int32) := if a9.1 = 0 then (a9.1, a9.2.1, a9.2.2.1, a9.2.2.2) else (zlet (zfold (X7_isLeastSet_L88_F n o1o r a9.2.2.1 a9.2.2.2) m 0 a9.2.1) (fun rr88 => if (X7_compareForm_v (X7_sortForm_c105 rr88 m) o1o m) < 0 then (nI 0, X7_sortForm_c105 rr88 m, X7_layNames_c102 a9.2.2.1 a9.2.2.2 n r, X7_layNames_c104 a9.2.2.1 a9.2.2.2 n r) else (nI 1, X7_sortForm_c105 rr88 m, X7_layNames_c102 a9.2.2.1 a9.2.2.2 n r, X7_layNames_c104 a9.2.2.1 a9.2.2.2 n r)))
def X7_isLeastSet_L65_B (n : Nat) (m : Nat) (o1o : Nat → Int32) (r : Nat) (a9 : (Int32) × (Nat → Int32) × (Nat → Int32) × (Nat → Int32)) : Option ((Int32) × (Nat → Int32) × (Nat → Int32) × (Nat → Int32)) := if a9.1 = 0 then (some (a9.1, a9.2.1, a9.2.2.1, a9.2.2.2)) else (zlet (zfold (X7_isLeastSet_L88_F n o1o r a9.2.2.1 a9.2.2.2) m 0 a9.2.1) (fun rr88 => if (X7_compareForm_v (X7_sortForm_c105 rr88 m) o1o m) < 0 then none else none))
def X7_isLeastSet_v (tm ch fm ow nm fr : Nat → Int32) (n m : Nat) : Int32 := zlet (zfold (X7_isLeastSet_L2_F tm ch) m 0 fm) (fun rr2 => zlet (zfold (X7_isLeastSet_L37_F m rr2) m 0 ow) (fun rr37 => zlet (zfoldX (X7_isLeastSet_L65_B n m rr37) (X7_isLeastSet_L65_F n m rr37) (X7_factorial_n n) 0 (nI 1, X7_sortForm_c105 rr2 m, nm, fr)) (fun rr65 => rr65.2.1)))
def X7_isLeastSet_c102 (tm ch fm ow nm fr : Nat → Int32) (n m : Nat) : Nat → Int32 := zlet (zfold (X7_isLeastSet_L2_F tm ch) m 0 fm) (fun rr2 => zlet (zfold (X7_isLeastSet_L37_F m rr2) m 0 ow) (fun rr37 => zlet (zfoldX (X7_isLeastSet_L65_B n m rr37) (X7_isLeastSet_L65_F n m rr37) (X7_factorial_n n) 0 (nI 1, X7_sortForm_c105 rr2 m, nm, fr)) (fun rr65 => rr65.2.2.2.1)))
def X7_isLeastSet_c104 (tm ch fm ow nm fr : Nat → Int32) (n m : Nat) : Nat → Int32 := zlet (zfold (X7_isLeastSet_L2_F tm ch) m 0 fm) (fun rr2 => zlet (zfold (X7_isLeastSet_L37_F m rr2) m 0 ow) (fun rr37 => zlet (zfoldX (X7_isLeastSet_L65_B n m rr37) (X7_isLeastSet_L65_F n m rr37) (X7_factorial_n n) 0 (nI 1, X7_sortForm_c105 rr2 m, nm, fr)) (fun rr65 => rr65.2.2.2.2)))
def X7_isLeastSet_c105 (tm ch fm ow nm fr : Nat → Int32) (n m : Nat) : Nat → Int32 := zlet (zfold (X7_isLeastSet_L2_F tm ch) m 0 fm) (fun rr2 => zlet (zfold (X7_isLeastSet_L37_F m rr2) m 0 ow) (fun rr37 => zlet (zfoldX (X7_isLeastSet_L65_B n m rr37) (X7_isLeastSet_L65_F n m rr37) (X7_factorial_n n) 0 (nI 1, X7_sortForm_c105 rr2 m, nm, fr)) (fun rr65 => rr65.2.2.1)))
def X7_isLeastSet_c107 (tm ch fm ow nm fr : Nat → Int32) (n m : Nat) : Nat → Int32 := zlet (zfold (X7_isLeastSet_L2_F tm ch) m 0 fm) (fun rr2 => zlet (zfold (X7_isLeastSet_L37_F m rr2) m 0 ow) (fun rr37 => zlet (zfoldX (X7_isLeastSet_L65_B n m rr37) (X7_isLeastSet_L65_F n m rr37) (X7_factorial_n n) 0 (nI 1, X7_sortForm_c105 rr2 m, nm, fr)) (fun rr65 => rr37)))
set_option maxRecDepth 100000 in
set_option maxHeartbeats 4000000 in
theorem c_X7_isLeastSet (G : zG) (ex : Bool) (g : Nat → va_E) (code : Int32) (tps pts lns wds brs ors : Nat) (stp hasP fld laid told : Int32) (rws : Nat) (cms : Int32) (cmT : Nat) (cmS isN : Int32) (trs : Nat) (tm ch fm ow nm fr : Nat → Int32) (n m : Nat) (hn : n ≤ 7) (hm : m ≤ 4) (hch : ∀ j, j < m → vp_in (ch j) 20) (h76 : g 76 = (oMod G code (nI tps) (nI pts) (nI lns) (nI wds) (nI brs) (nI ors) stp hasP fld laid told (nI rws) cms (nI cmT) cmS isN (nI trs))) (h110 : g 110 = (zI G 20 tm)) (h111 : g 111 = (zI G 4 ch)) (h105 : g 105 = (zI G 12 fm)) (h107 : g 107 = (zI G 12 ow)) (h102 : g 102 = (zI G 7 nm)) (h104 : g 104 = (zI G 7 fr)) : zC G yX7_isLeastSet wsX7_isLeastSet (zrm 2 49) ex [.ref (zB G + 76), .int (nI n), .int (nI m)] (zN, g) (fun r h => r = some (.int (X7_isLeastSet_v tm ch fm ow nm fr n m)) ∧ h = (zN, zus g [(102, zI G 7 (X7_isLeastSet_c102 tm ch fm ow nm fr n m)), (104, zI G 7 (X7_isLeastSet_c104 tm ch fm ow nm fr n m)), (105, zI G 12 (X7_isLeastSet_c105 tm ch fm ow nm fr n m)), (107, zI G 12 (X7_isLeastSet_c107 tm ch fm ow nm fr n m))])) := by
  refine zC_of mX7_isLeastSet (lv := [some (.ref (zB G + 76)), some (.int (nI n)), some (.int (nI m)), none, none, none]) rfl rfl (by decide) (by intro v hv; simp at hv; rcases hv with rfl | rfl | rfl <;> rfl) (Nat.le_of_ble_eq_true rfl) rfl ?_
  refine z_0 ?_
  refine z_heap (g' := zu (zus g []) 102 (zI G 7 nm)) (zu_self (zus g []) 102 _ h102).symm ?_
  refine z_n (L' := [(102, (zI G 7 nm))]) rfl ?_
  refine z_heap (g' := zu (zus g [(102, (zI G 7 nm))]) 104 (zI G 7 fr)) (zu_self (zus g [(102, (zI G 7 nm))]) 104 _ h104).symm ?_
  refine z_n (L' := [(102, (zI G 7 nm)), (104, (zI G 7 fr))]) rfl ?_
  refine z_heap (g' := zu (zus g [(102, (zI G 7 nm)), (104, (zI G 7 fr))]) 105 (zI G 12 fm)) (zu_self (zus g [(102, (zI G 7 nm)), (104, (zI G 7 fr))]) 105 _ h105).symm ?_
  refine z_n (L' := [(102, (zI G 7 nm)), (104, (zI G 7 fr)), (105, (zI G 12 fm))]) rfl ?_
  refine z_heap (g' := zu (zus g [(102, (zI G 7 nm)), (104, (zI G 7 fr)), (105, (zI G 12 fm))]) 107 (zI G 12 ow)) (zu_self (zus g [(102, (zI G 7 nm)), (104, (zI G 7 fr)), (105, (zI G 12 fm))]) 107 _ h107).symm ?_
  refine z_n (L' := [(102, (zI G 7 nm)), (104, (zI G 7 fr)), (105, (zI G 12 fm)), (107, (zI G 12 ow))]) rfl ?_
  refine z_iconst (v := nI 0) dX7_isLeastSet_0 rfl (by decide) ?_
  refine z_istore_3 dX7_isLeastSet_1 rfl ?_
  refine z_forI (head := fun k (st9 : (Nat → Int32)) => Z G mX7_isLeastSet (zrm 2 49) ex _ 2 [some (.ref (zB G + 76)), some (.int (nI n)), some (.int (nI m)), some (.int (nI k)), none, none] [] (zN, zus g [(102, (zI G 7 nm)), (104, (zI G 7 fr)), (105, (zI G 12 st9)), (107, (zI G 12 ow))]) 0 0) (F := (X7_isLeastSet_L2_F tm ch)) (n := m) (fun _ _ => True) (fun _ _ _ _ => trivial) ?_ m 0 fm (by omega) trivial ?_
  · intro k f1 hi _ K
    refine z_iload_n dX7_isLeastSet_2 rfl rfl ?_
    refine z_iload_n dX7_isLeastSet_3 rfl rfl ?_
    refine z_icmp_ge (tgt := 30) dX7_isLeastSet_4 rfl (by decide) (fun c4 => ?_) (fun c4 => ?_)
    · exact absurd c4 (nI_ge hi (by omega))
    · refine z_aload_n dX7_isLeastSet_7 rfl rfl ?_
      refine z_get dX7_isLeastSet_8 rfl hiX7_isLeastSet_X7 44 lkX7_isLeastSet_98 (Nat.le_of_ble_eq_true rfl) h76 rfl (by decide) rfl ?_
      refine z_iload_n dX7_isLeastSet_11 rfl rfl ?_
      refine z_aload_n dX7_isLeastSet_12 rfl rfl ?_
      refine z_get dX7_isLeastSet_13 rfl hiX7_isLeastSet_X7 51 lkX7_isLeastSet_113 (Nat.le_of_ble_eq_true rfl) h76 rfl (by decide) rfl ?_
      refine z_aload_n dX7_isLeastSet_16 rfl rfl ?_
      refine z_get dX7_isLeastSet_17 rfl hiX7_isLeastSet_X7 52 lkX7_isLeastSet_116 (Nat.le_of_ble_eq_true rfl) h76 rfl (by decide) rfl ?_
      refine z_iload_n dX7_isLeastSet_20 rfl rfl ?_
      refine z_ialdN (j := k) dX7_isLeastSet_21 rfl (Nat.le_of_ble_eq_true rfl) h111 (rfl) (by omega) (by decide) ?_
      refine z_iald dX7_isLeastSet_22 rfl (Nat.le_of_ble_eq_true rfl) h110 (hch _ hi) ?_
      refine z_iastN (j := k) dX7_isLeastSet_23 rfl (Nat.le_of_ble_eq_true rfl) rfl (rfl) (by omega) (by decide) ?_
      refine z_n (L' := [(102, (zI G 7 nm)), (104, (zI G 7 fr)), (105, (zI G 12 (upd f1 k (tm (ch k).toNatClampNeg)))), (107, (zI G 12 ow))]) rfl ?_
      refine z_iinc_3 (v := nI (k + 1)) dX7_isLeastSet_24 rfl (zinc _) ?_
      refine z_goto (tgt := 2) dX7_isLeastSet_27 (by decide) ?_
      exact K
  · generalize hR2 : zfold (X7_isLeastSet_L2_F tm ch) m 0 fm = r9
    obtain ⟨f1o, rfl⟩ : ∃ z, z = r9 := ⟨_, rfl⟩
    intro _
    refine z_iload_n dX7_isLeastSet_2 rfl rfl ?_
    refine z_iload_n dX7_isLeastSet_3 rfl rfl ?_
    refine z_icmp_ge (tgt := 30) dX7_isLeastSet_4 rfl (by decide) (fun c4 => ?_) (fun c4 => ?_)
    · refine z_aload_n dX7_isLeastSet_30 rfl rfl ?_
      refine z_iload_n dX7_isLeastSet_31 rfl rfl ?_
      refine z_callVv (c_X7_sortForm G ex _ code tps pts lns wds brs ors stp hasP fld laid told rws cms cmT cmS isN trs f1o m (by omega) h76 rfl) gX7_isLeastSet_X7_sortForm rfl dX7_isLeastSet_32 rfl rfl rfl okk_X7_sortForm (Nat.le_of_ble_eq_true rfl) h76 rfl ⟨Nat.le_of_ble_eq_true rfl, Nat.le_of_ble_eq_true rfl⟩ ⟨Nat.le_of_ble_eq_true rfl, Nat.le_of_ble_eq_true rfl⟩ (Nat.le_of_ble_eq_true rfl) ?_
      refine z_nn (L' := [(102, (zI G 7 nm)), (104, (zI G 7 fr)), (105, (zI G 12 (X7_sortForm_c105 f1o m))), (107, (zI G 12 ow))]) rfl ?_
      refine z_iconst (v := nI 0) dX7_isLeastSet_35 rfl (by decide) ?_
      refine z_istore_3 dX7_isLeastSet_36 rfl ?_
      refine z_forI (head := fun k (st9 : (Nat → Int32)) => Z G mX7_isLeastSet (zrm 2 49) ex _ 37 [some (.ref (zB G + 76)), some (.int (nI n)), some (.int (nI m)), some (.int (nI k)), none, none] [] (zN, zus g [(102, (zI G 7 nm)), (104, (zI G 7 fr)), (105, (zI G 12 (X7_sortForm_c105 f1o m))), (107, (zI G 12 st9))]) 0 0) (F := (X7_isLeastSet_L37_F m f1o)) (n := m) (fun _ _ => True) (fun _ _ _ _ => trivial) ?_ m 0 ow (by omega) trivial ?_
      · intro k o1 hi _ K
        refine z_iload_n dX7_isLeastSet_37 rfl rfl ?_
        refine z_iload_n dX7_isLeastSet_38 rfl rfl ?_
        refine z_icmp_ge (tgt := 60) dX7_isLeastSet_39 rfl (by decide) (fun c39 => ?_) (fun c39 => ?_)
        · exact absurd c39 (nI_ge hi (by omega))
        · refine z_aload_n dX7_isLeastSet_42 rfl rfl ?_
          refine z_get dX7_isLeastSet_43 rfl hiX7_isLeastSet_X7 46 lkX7_isLeastSet_104 (Nat.le_of_ble_eq_true rfl) h76 rfl (by decide) rfl ?_
          refine z_iload_n dX7_isLeastSet_46 rfl rfl ?_
          refine z_aload_n dX7_isLeastSet_47 rfl rfl ?_
          refine z_get dX7_isLeastSet_48 rfl hiX7_isLeastSet_X7 44 lkX7_isLeastSet_98 (Nat.le_of_ble_eq_true rfl) h76 rfl (by decide) rfl ?_
          refine z_iload_n dX7_isLeastSet_51 rfl rfl ?_
          refine z_ialdN (j := k) dX7_isLeastSet_52 rfl (Nat.le_of_ble_eq_true rfl) rfl (rfl) (by omega) (by decide) ?_
          refine z_iastN (j := k) dX7_isLeastSet_53 rfl (Nat.le_of_ble_eq_true rfl) rfl (rfl) (by omega) (by decide) ?_
          refine z_n (L' := [(102, (zI G 7 nm)), (104, (zI G 7 fr)), (105, (zI G 12 (X7_sortForm_c105 f1o m))), (107, (zI G 12 (upd o1 k ((X7_sortForm_c105 f1o m) k))))]) rfl ?_
          refine z_iinc_3 (v := nI (k + 1)) dX7_isLeastSet_54 rfl (zinc _) ?_
          refine z_goto (tgt := 37) dX7_isLeastSet_57 (by decide) ?_
          exact K
      · generalize hR37 : zfold (X7_isLeastSet_L37_F m f1o) m 0 ow = r9
        obtain ⟨o1o, rfl⟩ : ∃ z, z = r9 := ⟨_, rfl⟩
        intro _
        refine z_iload_n dX7_isLeastSet_37 rfl rfl ?_
        refine z_iload_n dX7_isLeastSet_38 rfl rfl ?_
        refine z_icmp_ge (tgt := 60) dX7_isLeastSet_39 rfl (by decide) (fun c39 => ?_) (fun c39 => ?_)
        · have hfac := rfac_b n (by omega)
          refine z_iconst (v := nI 1) dX7_isLeastSet_60 rfl (by decide) ?_
          refine z_istore_3 dX7_isLeastSet_61 rfl ?_
          refine z_iconst (v := nI 0) dX7_isLeastSet_62 rfl (by decide) ?_
          refine z_istore_4 dX7_isLeastSet_63 rfl ?_
          refine z_forX (head := fun r (st9 : (Int32) × (Nat → Int32) × (Nat → Int32) × (Nat → Int32)) => ∀ y5 : Option Value, Z G mX7_isLeastSet (zrm 2 49) ex _ 65 [some (.ref (zB G + 76)), some (.int (nI n)), some (.int (nI m)), some (.int st9.1), some (.int (nI r)), y5] [] (zN, zus g [(102, (zI G 7 st9.2.2.1)), (104, (zI G 7 st9.2.2.2)), (105, (zI G 12 st9.2.1)), (107, (zI G 12 o1o))]) 0 0) (out := fun r (st9 : (Int32) × (Nat → Int32) × (Nat → Int32) × (Nat → Int32)) => ∀ y5 : Option Value, Z G mX7_isLeastSet (zrm 2 49) ex (fun r h => r = some (.int (X7_isLeastSet_v tm ch fm ow nm fr n m)) ∧ h = (zN, zus g [(102, zI G 7 (X7_isLeastSet_c102 tm ch fm ow nm fr n m)), (104, zI G 7 (X7_isLeastSet_c104 tm ch fm ow nm fr n m)), (105, zI G 12 (X7_isLeastSet_c105 tm ch fm ow nm fr n m)), (107, zI G 12 (X7_isLeastSet_c107 tm ch fm ow nm fr n m))])) 148 [some (.ref (zB G + 76)), some (.int (nI n)), some (.int (nI m)), some (.int st9.1), some (.int (nI r)), y5] [] (zN, zus g [(102, (zI G 7 st9.2.2.1)), (104, (zI G 7 st9.2.2.2)), (105, (zI G 12 st9.2.1)), (107, (zI G 12 o1o))]) 0 0) (B := (X7_isLeastSet_L65_B n m o1o)) (F := (X7_isLeastSet_L65_F n m o1o)) (n := X7_factorial_n n) (fun _ a => a.1 = nI 0 ∨ a.1 = nI 1) (fun _ a => a.1 = nI 0 ∨ a.1 = nI 1) (fun i a hi h _ => by
                unfold X7_isLeastSet_L65_F
                simp only [zlet]
                repeat' split
                all_goals first | exact h | exact Or.inl rfl | exact Or.inr rfl) (fun i a b hi h hB => by
                unfold X7_isLeastSet_L65_B at hB
                simp only [zlet] at hB
                repeat' split at hB
                all_goals (cases hB <;> exact h)) (fun _ h => h) ?_ ?_ (X7_factorial_n n) 0 (nI 1, X7_sortForm_c105 f1o m, nm, fr) (by omega) (Or.inr rfl) ?_ _
          · intro r a9 hi hI Ko K
            obtain ⟨is1, f2, n1, fr1⟩ := a9
            intro y5
            have hr9 : r < X7_factorial_n n := hi
            refine z_iload dX7_isLeastSet_65 rfl rfl ?_
            refine z_iload_n dX7_isLeastSet_67 rfl rfl ?_
            refine z_callSi (c_X7_factorial G ex _ n (by omega)) gX7_isLeastSet_X7_factorial rfl dX7_isLeastSet_68 rfl rfl okk_X7_factorial ⟨Nat.le_of_ble_eq_true rfl, Nat.le_of_ble_eq_true rfl⟩ ⟨Nat.le_of_ble_eq_true rfl, Nat.le_of_ble_eq_true rfl⟩ (Nat.le_of_ble_eq_true rfl) ?_
            refine z_icmp_ge (tgt := 148) dX7_isLeastSet_71 rfl (by decide) (fun c71 => ?_) (fun c71 => ?_)
            · exact absurd c71 (nI_ge hi (by omega))
            · refine z_iload_n dX7_isLeastSet_74 rfl rfl ?_
              refine z_if_eq (tgt := 148) dX7_isLeastSet_75 rfl (by decide) (fun c75 => ?_) (fun c75 => ?_)
              · exact Ko (is1, f2, n1, fr1) (by simp only [X7_isLeastSet_L65_B, if_pos c75]) _
              · refine z_aload_n dX7_isLeastSet_78 rfl rfl ?_
                refine z_iload_n dX7_isLeastSet_79 rfl rfl ?_
                refine z_iload dX7_isLeastSet_80 rfl rfl ?_
                refine z_callVv (c_X7_layNames G ex _ code tps pts lns wds brs ors stp hasP fld laid told rws cms cmT cmS isN trs n1 fr1 n r (by omega) (by omega) h76 rfl rfl) gX7_isLeastSet_X7_layNames rfl dX7_isLeastSet_82 rfl rfl rfl okk_X7_layNames (Nat.le_of_ble_eq_true rfl) h76 rfl ⟨Nat.le_of_ble_eq_true rfl, Nat.le_of_ble_eq_true rfl⟩ ⟨Nat.le_of_ble_eq_true rfl, Nat.le_of_ble_eq_true rfl⟩ (Nat.le_of_ble_eq_true rfl) ?_
                refine z_nn (L' := [(102, (zI G 7 (X7_layNames_c102 n1 fr1 n r))), (104, (zI G 7 (X7_layNames_c104 n1 fr1 n r))), (105, (zI G 12 f2)), (107, (zI G 12 o1o))]) rfl ?_
                refine z_iconst (v := nI 0) dX7_isLeastSet_85 rfl (by decide) ?_
                refine z_istore_5 dX7_isLeastSet_86 rfl ?_
                refine z_forI (head := fun k (st9 : (Nat → Int32)) => Z G mX7_isLeastSet (zrm 2 49) ex _ 88 [some (.ref (zB G + 76)), some (.int (nI n)), some (.int (nI m)), some (.int is1), some (.int (nI r)), some (.int (nI k))] [] (zN, zus g [(102, (zI G 7 (X7_layNames_c102 n1 fr1 n r))), (104, (zI G 7 (X7_layNames_c104 n1 fr1 n r))), (105, (zI G 12 st9)), (107, (zI G 12 o1o))]) 0 0) (F := (X7_isLeastSet_L88_F n o1o r n1 fr1)) (n := m) (fun _ _ => True) (fun _ _ _ _ => trivial) ?_ m 0 f2 (by omega) trivial ?_
                · intro k f3 hi _ K
                  refine z_iload dX7_isLeastSet_88 rfl rfl ?_
                  refine z_iload_n dX7_isLeastSet_90 rfl rfl ?_
                  refine z_icmp_ge (tgt := 119) dX7_isLeastSet_91 rfl (by decide) (fun c91 => ?_) (fun c91 => ?_)
                  · exact absurd c91 (nI_ge hi (by omega))
                  · refine z_aload_n dX7_isLeastSet_94 rfl rfl ?_
                    refine z_get dX7_isLeastSet_95 rfl hiX7_isLeastSet_X7 44 lkX7_isLeastSet_98 (Nat.le_of_ble_eq_true rfl) h76 rfl (by decide) rfl ?_
                    refine z_iload dX7_isLeastSet_98 rfl rfl ?_
                    refine z_aload_n dX7_isLeastSet_100 rfl rfl ?_
                    refine z_aload_n dX7_isLeastSet_101 rfl rfl ?_
                    refine z_get dX7_isLeastSet_102 rfl hiX7_isLeastSet_X7 46 lkX7_isLeastSet_104 (Nat.le_of_ble_eq_true rfl) h76 rfl (by decide) rfl ?_
                    refine z_iload dX7_isLeastSet_105 rfl rfl ?_
                    refine z_ialdN (j := k) dX7_isLeastSet_107 rfl (Nat.le_of_ble_eq_true rfl) rfl (rfl) (by omega) (by decide) ?_
                    refine z_iload_n dX7_isLeastSet_108 rfl rfl ?_
                    refine z_callVi (c_X7_renamed G ex _ code tps pts lns wds brs ors stp hasP fld laid told rws cms cmT cmS isN trs (X7_layNames_c102 n1 fr1 n r) (o1o k) n (by omega) h76 rfl) gX7_isLeastSet_X7_renamed rfl dX7_isLeastSet_109 rfl rfl rfl okk_X7_renamed (Nat.le_of_ble_eq_true rfl) h76 rfl ⟨Nat.le_of_ble_eq_true rfl, Nat.le_of_ble_eq_true rfl⟩ ⟨Nat.le_of_ble_eq_true rfl, Nat.le_of_ble_eq_true rfl⟩ (Nat.le_of_ble_eq_true rfl) ?_
                    refine z_iastN (j := k) dX7_isLeastSet_112 rfl (Nat.le_of_ble_eq_true rfl) rfl (rfl) (by omega) (by decide) ?_
                    refine z_n (L' := [(102, (zI G 7 (X7_layNames_c102 n1 fr1 n r))), (104, (zI G 7 (X7_layNames_c104 n1 fr1 n r))), (105, (zI G 12 (upd f3 k (X7_renamed_v (X7_layNames_c102 n1 fr1 n r) (o1o k) n)))), (107, (zI G 12 o1o))]) rfl ?_
                    refine z_iinc_5 (v := nI (k + 1)) dX7_isLeastSet_113 rfl (zinc _) ?_
                    refine z_goto (tgt := 88) dX7_isLeastSet_116 (by decide) ?_
                    exact K
                · generalize hR88 : zfold (X7_isLeastSet_L88_F n o1o r n1 fr1) m 0 f2 = r9
                  obtain ⟨f3o, rfl⟩ : ∃ z, z = r9 := ⟨_, rfl⟩
                  intro _
                  refine z_iload dX7_isLeastSet_88 rfl rfl ?_
                  refine z_iload_n dX7_isLeastSet_90 rfl rfl ?_
                  refine z_icmp_ge (tgt := 119) dX7_isLeastSet_91 rfl (by decide) (fun c91 => ?_) (fun c91 => ?_)
                  · refine z_aload_n dX7_isLeastSet_119 rfl rfl ?_
                    refine z_iload_n dX7_isLeastSet_120 rfl rfl ?_
                    refine z_callVv (c_X7_sortForm G ex _ code tps pts lns wds brs ors stp hasP fld laid told rws cms cmT cmS isN trs f3o m (by omega) h76 rfl) gX7_isLeastSet_X7_sortForm rfl dX7_isLeastSet_121 rfl rfl rfl okk_X7_sortForm (Nat.le_of_ble_eq_true rfl) h76 rfl ⟨Nat.le_of_ble_eq_true rfl, Nat.le_of_ble_eq_true rfl⟩ ⟨Nat.le_of_ble_eq_true rfl, Nat.le_of_ble_eq_true rfl⟩ (Nat.le_of_ble_eq_true rfl) ?_
                    refine z_nn (L' := [(102, (zI G 7 (X7_layNames_c102 n1 fr1 n r))), (104, (zI G 7 (X7_layNames_c104 n1 fr1 n r))), (105, (zI G 12 (X7_sortForm_c105 f3o m))), (107, (zI G 12 o1o))]) rfl ?_
                    refine z_aload_n dX7_isLeastSet_124 rfl rfl ?_
                    refine z_aload_n dX7_isLeastSet_125 rfl rfl ?_
                    refine z_get dX7_isLeastSet_126 rfl hiX7_isLeastSet_X7 46 lkX7_isLeastSet_104 (Nat.le_of_ble_eq_true rfl) h76 rfl (by decide) rfl ?_
                    refine z_iload_n dX7_isLeastSet_129 rfl rfl ?_
                    refine z_callVi (c_X7_compareForm G ex _ code tps pts lns wds brs ors stp hasP fld laid told rws cms cmT cmS isN trs 107 (X7_sortForm_c105 f3o m) o1o m (Nat.le_of_ble_eq_true rfl) (by omega) h76 rfl rfl) gX7_isLeastSet_X7_compareForm rfl dX7_isLeastSet_130 rfl rfl rfl okk_X7_compareForm (Nat.le_of_ble_eq_true rfl) h76 rfl ⟨Nat.le_of_ble_eq_true rfl, Nat.le_of_ble_eq_true rfl⟩ ⟨Nat.le_of_ble_eq_true rfl, Nat.le_of_ble_eq_true rfl⟩ (Nat.le_of_ble_eq_true rfl) ?_
                    refine z_if_lt (tgt := 140) dX7_isLeastSet_133 rfl (by decide) (fun c133 => ?_) (fun c133 => ?_)
                    · refine z_iconst (v := nI 0) dX7_isLeastSet_140 rfl (by decide) ?_
                      refine z_istore_3 dX7_isLeastSet_141 rfl ?_
                      refine z_iinc_4 (v := nI (r + 1)) dX7_isLeastSet_142 rfl (zinc _) ?_
                      refine z_goto (tgt := 65) dX7_isLeastSet_145 (by decide) ?_
                      have K9 := (K (by simp only [X7_isLeastSet_L65_B, if_neg c75, hR88, zlet_e, if_pos c133]))
                      try simp only [X7_isLeastSet_L65_F, if_neg c75, hR88, zlet_e, if_pos c133] at K9
                      exact K9 _
                    · refine z_iconst (v := nI 1) dX7_isLeastSet_136 rfl (by decide) ?_
                      refine z_goto (tgt := 141) dX7_isLeastSet_137 (by decide) ?_
                      refine z_istore_3 dX7_isLeastSet_141 rfl ?_
                      refine z_iinc_4 (v := nI (r + 1)) dX7_isLeastSet_142 rfl (zinc _) ?_
                      refine z_goto (tgt := 65) dX7_isLeastSet_145 (by decide) ?_
                      have K9 := (K (by simp only [X7_isLeastSet_L65_B, if_neg c75, hR88, zlet_e, if_neg c133]))
                      try simp only [X7_isLeastSet_L65_F, if_neg c75, hR88, zlet_e, if_neg c133] at K9
                      exact K9 _
                  · exact absurd (nI_le (Nat.le_refl _) (by omega)) c91
          · intro a9 hI K
            obtain ⟨is1, f2, n1, fr1⟩ := a9
            intro y5
            refine z_iload dX7_isLeastSet_65 rfl rfl ?_
            refine z_iload_n dX7_isLeastSet_67 rfl rfl ?_
            refine z_callSi (c_X7_factorial G ex _ n (by omega)) gX7_isLeastSet_X7_factorial rfl dX7_isLeastSet_68 rfl rfl okk_X7_factorial ⟨Nat.le_of_ble_eq_true rfl, Nat.le_of_ble_eq_true rfl⟩ ⟨Nat.le_of_ble_eq_true rfl, Nat.le_of_ble_eq_true rfl⟩ (Nat.le_of_ble_eq_true rfl) ?_
            refine z_icmp_ge (tgt := 148) dX7_isLeastSet_71 rfl (by decide) (fun c71 => ?_) (fun c71 => ?_)
            · exact K _
            · exact absurd (nI_le (Nat.le_refl _) (by omega)) c71
          · generalize hR65 : zfoldX (X7_isLeastSet_L65_B n m o1o) (X7_isLeastSet_L65_F n m o1o) (X7_factorial_n n) 0 (nI 1, X7_sortForm_c105 f1o m, nm, fr) = r9
            obtain ⟨ic, is1o, f2o, n1o, fr1o⟩ := r9
            intro hJ65 hle65 y5
            refine z_iload_n dX7_isLeastSet_148 rfl rfl ?_
            exact z_ireturn dX7_isLeastSet_149 rfl (zb01 hJ65) (Nat.le_refl _) (Nat.le_refl _) (fun _ => rfl) ⟨by simp only [X7_isLeastSet_v, hR2, zlet_e, hR37, zlet_e, hR65, zlet_e], by simp only [X7_isLeastSet_c102, X7_isLeastSet_c104, X7_isLeastSet_c105, X7_isLeastSet_c107, hR2, zlet_e, hR37, zlet_e, hR65, zlet_e]⟩
        · exact absurd (nI_le (Nat.le_refl _) (by omega)) c39
    · exact absurd (nI_le (Nat.le_refl _) (by omega)) c4
