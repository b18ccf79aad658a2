theorem nI0 {n : Nat} (h : nI n = 0) (hn : n < 2147483648) : n = 0 := by
  rcases Nat.eq_zero_or_pos n with q | q
  · exact q
  · exact absurd h (nI_ne0 (by omega) (by omega))
theorem mayCome_ok {wds sz : Nat} {wm : Nat → Int32} {lt : Int32} (h : ¬ X7_mayCome_v wds wm lt sz = 0) (hw : wds ≤ 13) (hs : sz < 100) : (sz = 0 → wds < 12) ∧ (¬ sz = 0 → sz < 5) := by
  unfold X7_mayCome_v at h
  refine ⟨fun q => ?_, fun q => ?_⟩
  · rw [if_pos (by rw [q]; rfl)] at h
    split at h
    · exact absurd rfl h
    · rename_i c
      exact Nat.lt_of_not_le (fun q => c (nI_le q (by omega)))
  · rw [if_neg (fun z => q (nI0 z (by omega)))] at h
    split at h
    · refine absurd ?_ h
      have e := zfoldX_P (fun a : Int32 => a = nI 0) (B := X7_mayCome_L54_B wds wm lt) (F := X7_mayCome_L54_F wds wm lt) (fun i a ha => by
        unfold X7_mayCome_L54_F
        rw [if_pos (show a = 0 from ha)]
        exact ha) (fun i a b ha hB => by
        unfold X7_mayCome_L54_B at hB
        rw [if_pos (show a = 0 from ha)] at hB
        cases hB
        exact ha) (wds - 1) 0 (nI 0) rfl
      exact e
    · rename_i c
      exact Nat.lt_of_not_le (fun q => c (nI_le q (by omega)))
def rwI (w z : Nat) : Prop := w ≤ 12 ∧ (z = 0 ∨ 1 ≤ w) ∧ z ≤ 5
abbrev mX7_readWords : zM := (cX7_readWords, 4, (some .int), RX7, wsX7_readWords, "readWords")
theorem hiX7_readWords_X7 : ∀ w ∈ wsX70, w ∈ wsX7_readWords := fun w h => List.mem_cons_of_mem _ (List.mem_append_right _ h)
theorem lkX7_readWords_132 : Cond.fieldLink RX7 132 "ConfigSearchModel" "words" "I" ∈ wsX7_readWords := by decide +kernel
theorem lkX7_readWords_129 : Cond.fieldLink RX7 129 "ConfigSearchModel" "tapeSize" "I" ∈ wsX7_readWords := by decide +kernel
theorem lkX7_readWords_7 : Cond.fieldLink RX7 7 "ConfigSearchModel" "tape" "[I" ∈ wsX7_readWords := by decide +kernel
theorem okk_X7_mayCome : zOk yX7_mayCome 2 := by unfold zOk; decide +kernel
theorem lkX7_readWords_31 : Cond.fieldLink RX7 31 "ConfigSearchModel" "wordLetter" "[I" ∈ wsX7_readWords := by decide +kernel
theorem lkX7_readWords_34 : Cond.fieldLink RX7 34 "ConfigSearchModel" "wordMask" "[I" ∈ wsX7_readWords := by decide +kernel
theorem lkX7_readWords_28 : Cond.fieldLink RX7 28 "ConfigSearchModel" "wordSize" "[I" ∈ wsX7_readWords := by decide +kernel
def X7_readWords_L9_F (tp : Nat → Int32) (i : Nat) (a9 : (Nat) × (Nat) × (Nat → Int32) × (Nat → Int32) × (Nat → Int32)) : (Nat) × (Nat) × (Nat → Int32) × (Nat → Int32) × (Nat → Int32) := if (tp i) = (nI 32) then (if (nI a9.2.1) = (nI 1) then (a9.1, a9.2.1, a9.2.2.1, a9.2.2.2.1, a9.2.2.2.2) else (if (nI a9.2.1) = (nI 2) then (a9.1, a9.2.1, a9.2.2.1, a9.2.2.2.1, a9.2.2.2.2) else (a9.1, 0, a9.2.2.1, a9.2.2.2.1, a9.2.2.2.2))) else (if (X7_isIn_v ((tp i) - (nI 97)) (nI 0) (nI 9)) = 0 then (a9.1, a9.2.1, a9.2.2.1, a9.2.2.2.1, a9.2.2.2.2) else (if (X7_mayCome_v a9.1 a9.2.2.2.2 ((tp i) - (nI 97)) a9.2.1) = 0 then (a9.1, a9.2.1, a9.2.2.1, a9.2.2.2.1, a9.2.2.2.2) else (if (nI a9.2.1) = 0 then (a9.1 + 1, a9.2.1 + 1, upd a9.2.2.1 ((a9.1 + 1) - 1) (nI (a9.2.1 + 1)), upd a9.2.2.2.1 ((5 * ((a9.1 + 1) - 1)) + a9.2.1) ((tp i) - (nI 97)), upd (upd a9.2.2.2.2 a9.1 (nI 0)) ((a9.1 + 1) - 1) (((upd a9.2.2.2.2 a9.1 (nI 0)) ((a9.1 + 1) - 1)) ||| ((nI 1) <<< (((tp i) - (nI 97)) &&& 31)))) else (a9.1, a9.2.1 + 1, upd a9.2.2.1 (a9.1 - 1) (nI (a9.2.1 + 1)), upd a9.2.2.2.1 ((5 * (a9.1 - 1)) + a9.2.1) ((tp i) - (nI 97)), upd a9.2.2.2.2 (a9.1 - 1) ((a9.2.2.2.2 (a9.1 - 1)) ||| ((nI 1) <<< (((tp i) - (nI 97)) &&& 31)))))))
def X7_readWords_L9_B (tp : Nat → Int32) (i : Nat) (a9 : (Nat) × (Nat) × (Nat → Int32) × (Nat → Int32) × (Nat → Int32)) : Option ((Int32) × (Nat) × (Nat → Int32) × (Nat → Int32) × (Nat → Int32)) := if (tp i) = (nI 32) then (if (nI a9.2.1) = (nI 1) then (some (nI i, a9.1, a9.2.2.1, a9.2.2.2.1, a9.2.2.2.2)) else (if (nI a9.2.1) = (nI 2) then (some (nI i, a9.1, a9.2.2.1, a9.2.2.2.1, a9.2.2.2.2)) else none)) else (if (X7_isIn_v ((tp i) - (nI 97)) (nI 0) (nI 9)) = 0 then (some (nI i, a9.1, a9.2.2.1, a9.2.2.2.1, a9.2.2.2.2)) else (if (X7_mayCome_v a9.1 a9.2.2.2.2 ((tp i) - (nI 97)) a9.2.1) = 0 then (some (nI i, a9.1, a9.2.2.1, a9.2.2.2.1, a9.2.2.2.2)) else (if (nI a9.2.1) = 0 then none else none)))
def X7_readWords_v (code : Int32) (tps pts lns brs ors : Nat) (stp hasP fld laid told : Int32) (rws : Nat) (cms : Int32) (cmT : Nat) (cmS isN : Int32) (trs : Nat) (tp : Nat → Int32) (ws wl wm : Nat → Int32) : Int32 := zpick (zfoldB (X7_readWords_L9_B tp) (X7_readWords_L9_F tp) tps 0 (0, 0, ws, wl, wm)) (fun b => b.1) (fun am9 => if (nI am9.2.1) = (nI 1) then (nI tps) else (if (nI am9.2.1) = (nI 2) then (nI tps) else (if (nI am9.1) = 0 then (nI tps) else (-4))))
def X7_readWords_p76_4 (code : Int32) (tps pts lns brs ors : Nat) (stp hasP fld laid told : Int32) (rws : Nat) (cms : Int32) (cmT : Nat) (cmS isN : Int32) (trs : Nat) (tp : Nat → Int32) (ws wl wm : Nat → Int32) : Nat := zpick (zfoldB (X7_readWords_L9_B tp) (X7_readWords_L9_F tp) tps 0 (0, 0, ws, wl, wm)) (fun b => b.2.1) (fun am9 => if (nI am9.2.1) = (nI 1) then am9.1 else (if (nI am9.2.1) = (nI 2) then am9.1 else (if (nI am9.1) = 0 then am9.1 else am9.1)))
def X7_readWords_c83 (code : Int32) (tps pts lns brs ors : Nat) (stp hasP fld laid told : Int32) (rws : Nat) (cms : Int32) (cmT : Nat) (cmS isN : Int32) (trs : Nat) (tp : Nat → Int32) (ws wl wm : Nat → Int32) : Nat → Int32 := zpick (zfoldB (X7_readWords_L9_B tp) (X7_readWords_L9_F tp) tps 0 (0, 0, ws, wl, wm)) (fun b => b.2.2.1) (fun am9 => if (nI am9.2.1) = (nI 1) then am9.2.2.1 else (if (nI am9.2.1) = (nI 2) then am9.2.2.1 else (if (nI am9.1) = 0 then am9.2.2.1 else am9.2.2.1)))
def X7_readWords_c84 (code : Int32) (tps pts lns brs ors : Nat) (stp hasP fld laid told : Int32) (rws : Nat) (cms : Int32) (cmT : Nat) (cmS isN : Int32) (trs : Nat) (tp : Nat → Int32) (ws wl wm : Nat → Int32) : Nat → Int32 := zpick (zfoldB (X7_readWords_L9_B tp) (X7_readWords_L9_F tp) tps 0 (0, 0, ws, wl, wm)) (fun b => b.2.2.2.1) (fun am9 => if (nI am9.2.1) = (nI 1) then am9.2.2.2.1 else (if (nI am9.2.1) = (nI 2) then am9.2.2.2.1 else (if (nI am9.1) = 0 then am9.2.2.2.1 else am9.2.2.2.1)))
def X7_readWords_c85 (code : Int32) (tps pts lns brs ors : Nat) (stp hasP fld laid told : Int32) (rws : Nat) (cms : Int32) (cmT : Nat) (cmS isN : Int32) (trs : Nat) (tp : Nat → Int32) (ws wl wm : Nat → Int32) : Nat → Int32 := zpick (zfoldB (X7_readWords_L9_B tp) (X7_readWords_L9_F tp) tps 0 (0, 0, ws, wl, wm)) (fun b => b.2.2.2.2) (fun am9 => if (nI am9.2.1) = (nI 1) then am9.2.2.2.2 else (if (nI am9.2.1) = (nI 2) then am9.2.2.2.2 else (if (nI am9.1) = 0 then am9.2.2.2.2 else am9.2.2.2.2)))
set_option maxRecDepth 100000 in
set_option maxHeartbeats 4000000 in
theorem c_X7_readWords (G : zG) (ex : Bool) (g : Nat → va_E) (code : Int32) (tps pts lns wds brs ors : Nat) (stp hasP fld laid told : Int32) (rws : Nat) (cms : Int32) (cmT : Nat) (cmS isN : Int32) (trs : Nat) (tp : Nat → Int32) (ws wl wm : Nat → Int32)  (htp : tps ≤ 80) (h76 : g 76 = (oMod G code (nI tps) (nI pts) (nI lns) (nI wds) (nI brs) (nI ors) stp hasP fld laid told (nI rws) cms (nI cmT) cmS isN (nI trs))) (h77 : g 77 = (zI G 80 tp)) (h83 : g 83 = (zI G 13 ws)) (h84 : g 84 = (zI G 65 wl)) (h85 : g 85 = (zI G 13 wm)) : zC G yX7_readWords wsX7_readWords (zrm 1 25) ex [.ref (zB G + 76)] (zN, g) (fun r h => r = some (.int (X7_readWords_v code tps pts lns brs ors stp hasP fld laid told rws cms cmT cmS isN trs tp ws wl wm)) ∧ h = (zN, zus g [(76, (oMod G code (nI tps) (nI pts) (nI lns) (nI (X7_readWords_p76_4 code tps pts lns brs ors stp hasP fld laid told rws cms cmT cmS isN trs tp ws wl wm)) (nI brs) (nI ors) stp hasP fld laid told (nI rws) cms (nI cmT) cmS isN (nI trs))), (83, zI G 13 (X7_readWords_c83 code tps pts lns brs ors stp hasP fld laid told rws cms cmT cmS isN trs tp ws wl wm)), (84, zI G 65 (X7_readWords_c84 code tps pts lns brs ors stp hasP fld laid told rws cms cmT cmS isN trs tp ws wl wm)), (85, zI G 13 (X7_readWords_c85 code tps pts lns brs ors stp hasP fld laid told rws cms cmT cmS isN trs tp ws wl wm))])) := by
  refine zC_of mX7_readWords (lv := [some (.ref (zB G + 76)), none, none, none]) rfl rfl (by decide) (by intro v hv; simp at hv; subst hv; rfl) (Nat.le_of_ble_eq_true rfl) rfl ?_
  refine z_0 ?_
  refine z_heap (g' := zu (zus g []) 76 (oMod G code (nI tps) (nI pts) (nI lns) (nI wds) (nI brs) (nI ors) stp hasP fld laid told (nI rws) cms (nI cmT) cmS isN (nI trs))) (zu_self (zus g []) 76 _ h76).symm ?_
  refine z_n (L' := [(76, (oMod G code (nI tps) (nI pts) (nI lns) (nI wds) (nI brs) (nI ors) stp hasP fld laid told (nI rws) cms (nI cmT) cmS isN (nI trs)))]) rfl ?_
  refine z_heap (g' := zu (zus g [(76, (oMod G code (nI tps) (nI pts) (nI lns) (nI wds) (nI brs) (nI ors) stp hasP fld laid told (nI rws) cms (nI cmT) cmS isN (nI trs)))]) 83 (zI G 13 ws)) (zu_self (zus g [(76, (oMod G code (nI tps) (nI pts) (nI lns) (nI wds) (nI brs) (nI ors) stp hasP fld laid told (nI rws) cms (nI cmT) cmS isN (nI trs)))]) 83 _ h83).symm ?_
  refine z_n (L' := [(76, (oMod G code (nI tps) (nI pts) (nI lns) (nI wds) (nI brs) (nI ors) stp hasP fld laid told (nI rws) cms (nI cmT) cmS isN (nI trs))), (83, (zI G 13 ws))]) rfl ?_
  refine z_heap (g' := zu (zus g [(76, (oMod G code (nI tps) (nI pts) (nI lns) (nI wds) (nI brs) (nI ors) stp hasP fld laid told (nI rws) cms (nI cmT) cmS isN (nI trs))), (83, (zI G 13 ws))]) 84 (zI G 65 wl)) (zu_self (zus g [(76, (oMod G code (nI tps) (nI pts) (nI lns) (nI wds) (nI brs) (nI ors) stp hasP fld laid told (nI rws) cms (nI cmT) cmS isN (nI trs))), (83, (zI G 13 ws))]) 84 _ h84).symm ?_
  refine z_n (L' := [(76, (oMod G code (nI tps) (nI pts) (nI lns) (nI wds) (nI brs) (nI ors) stp hasP fld laid told (nI rws) cms (nI cmT) cmS isN (nI trs))), (83, (zI G 13 ws)), (84, (zI G 65 wl))]) rfl ?_
  refine z_heap (g' := zu (zus g [(76, (oMod G code (nI tps) (nI pts) (nI lns) (nI wds) (nI brs) (nI ors) stp hasP fld laid told (nI rws) cms (nI cmT) cmS isN (nI trs))), (83, (zI G 13 ws)), (84, (zI G 65 wl))]) 85 (zI G 13 wm)) (zu_self (zus g [(76, (oMod G code (nI tps) (nI pts) (nI lns) (nI wds) (nI brs) (nI ors) stp hasP fld laid told (nI rws) cms (nI cmT) cmS isN (nI trs))), (83, (zI G 13 ws)), (84, (zI G 65 wl))]) 85 _ h85).symm ?_
  refine z_n (L' := [(76, (oMod G code (nI tps) (nI pts) (nI lns) (nI wds) (nI brs) (nI ors) stp hasP fld laid told (nI rws) cms (nI cmT) cmS isN (nI trs))), (83, (zI G 13 ws)), (84, (zI G 65 wl)), (85, (zI G 13 wm))]) rfl ?_
  refine z_aload_n dX7_readWords_0 rfl rfl ?_
  refine z_iconst (v := nI 0) dX7_readWords_1 rfl (by decide) ?_
  refine z_putN (e9 := (oMod G code (nI tps) (nI pts) (nI lns) (nI 0) (nI brs) (nI ors) stp hasP fld laid told (nI rws) cms (nI cmT) cmS isN (nI trs))) tyX7 tyX7_ok nmX7 dX7_readWords_2 rfl hiX7_readWords_X7 10 lkX7_readWords_132 rfl (by decide +kernel) (Nat.le_of_ble_eq_true rfl) rfl rfl (by decide) (Nat.le_of_ble_eq_true rfl) rfl rfl rfl ?_
  refine z_n (L' := [(76, (oMod G code (nI tps) (nI pts) (nI lns) (nI 0) (nI brs) (nI ors) stp hasP fld laid told (nI rws) cms (nI cmT) cmS isN (nI trs))), (83, (zI G 13 ws)), (84, (zI G 65 wl)), (85, (zI G 13 wm))]) rfl ?_
  refine z_iconst (v := nI 0) dX7_readWords_5 rfl (by decide) ?_
  refine z_istore_1 dX7_readWords_6 rfl ?_
  refine z_iconst (v := nI 0) dX7_readWords_7 rfl (by decide) ?_
  refine z_istore_2 dX7_readWords_8 rfl ?_
  refine z_forB (head := fun i (st9 : (Nat) × (Nat) × (Nat → Int32) × (Nat → Int32) × (Nat → Int32)) => ∀ y3 : Option Value, Z G mX7_readWords (zrm 1 25) ex _ 9 [some (.ref (zB G + 76)), some (.int (nI st9.2.1)), some (.int (nI i)), y3] [] (zN, zus g [(76, (oMod G code (nI tps) (nI pts) (nI lns) (nI st9.1) (nI brs) (nI ors) stp hasP fld laid told (nI rws) cms (nI cmT) cmS isN (nI trs))), (83, (zI G 13 st9.2.2.1)), (84, (zI G 65 st9.2.2.2.1)), (85, (zI G 13 st9.2.2.2.2))]) 0 0) (out := fun b _ => (some (Value.int b.1) = some (Value.int (X7_readWords_v code tps pts lns brs ors stp hasP fld laid told rws cms cmT cmS isN trs tp ws wl wm))) ∧ ((zN, zus g [(76, (oMod G code (nI tps) (nI pts) (nI lns) (nI b.2.1) (nI brs) (nI ors) stp hasP fld laid told (nI rws) cms (nI cmT) cmS isN (nI trs))), (83, (zI G 13 b.2.2.1)), (84, (zI G 65 b.2.2.2.1)), (85, (zI G 13 b.2.2.2.2))]) : zAH) = (zN, zus g [(76, (oMod G code (nI tps) (nI pts) (nI lns) (nI (X7_readWords_p76_4 code tps pts lns brs ors stp hasP fld laid told rws cms cmT cmS isN trs tp ws wl wm)) (nI brs) (nI ors) stp hasP fld laid told (nI rws) cms (nI cmT) cmS isN (nI trs))), (83, zI G 13 (X7_readWords_c83 code tps pts lns brs ors stp hasP fld laid told rws cms cmT cmS isN trs tp ws wl wm)), (84, zI G 65 (X7_readWords_c84 code tps pts lns brs ors stp hasP fld laid told rws cms cmT cmS isN trs tp ws wl wm)), (85, zI G 13 (X7_readWords_c85 code tps pts lns brs ors stp hasP fld laid told rws cms cmT cmS isN trs tp ws wl wm))])) (B := (X7_readWords_L9_B tp)) (F := (X7_readWords_L9_F tp)) (n := tps) (fun _ a => rwI a.1 a.2.1) (fun i a hi h hB => by
        obtain ⟨h1, h2, h3⟩ := h
        unfold X7_readWords_L9_B at hB
        unfold X7_readWords_L9_F
        by_cases c1 : tp i = nI 32
        · simp only [if_pos c1] at hB ⊢
          repeat' split
          all_goals first | exact ⟨h1, Or.inl rfl, Nat.zero_le _⟩ | exact ⟨h1, h2, h3⟩
        · simp only [if_neg c1] at hB ⊢
          by_cases c2 : X7_isIn_v (tp i - nI 97) (nI 0) (nI 9) = 0
          · simp only [if_pos c2] at hB
            cases hB
          · simp only [if_neg c2] at hB ⊢
            by_cases c3 : X7_mayCome_v a.1 a.2.2.2.2 (tp i - nI 97) a.2.1 = 0
            · simp only [if_pos c3] at hB
              cases hB
            · simp only [if_neg c3] at hB ⊢
              have hmc := mayCome_ok c3 (by omega) (by omega)
              by_cases c4 : nI a.2.1 = 0
              · rw [if_pos c4]
                have e := nI0 c4 (by omega)
                exact ⟨hmc.1 e, Or.inr (Nat.succ_pos _), by show a.2.1 + 1 ≤ 5; omega⟩
              · rw [if_neg c4]
                have e : ¬ a.2.1 = 0 := fun q => c4 (by rw [q]; rfl)
                exact ⟨h1, Or.inr (h2.resolve_left e), hmc.2 e⟩) ?_ tps 0 (0, 0, ws, wl, wm) (by omega) ⟨Nat.zero_le _, Or.inl rfl, Nat.zero_le _⟩ ?_ ?_ _
  · intro i a9 hi hI Ko K
    obtain ⟨w1, sz1, ws1, wl1, wm1⟩ := a9
    intro y3
    have hI : rwI w1 sz1 := hI
    have hI1 := hI.1
    have hI3 := hI.2.2
    refine z_iload_n dX7_readWords_9 rfl rfl ?_
    refine z_aload_n dX7_readWords_10 rfl rfl ?_
    refine z_get dX7_readWords_11 rfl hiX7_readWords_X7 2 lkX7_readWords_129 (Nat.le_of_ble_eq_true rfl) rfl rfl (by decide) rfl ?_
    refine z_icmp_ge (tgt := 154) dX7_readWords_14 rfl (by decide) (fun c14 => ?_) (fun c14 => ?_)
    · exact absurd c14 (nI_ge hi (by omega))
    · refine z_aload_n dX7_readWords_17 rfl rfl ?_
      refine z_get dX7_readWords_18 rfl hiX7_readWords_X7 1 lkX7_readWords_7 (Nat.le_of_ble_eq_true rfl) rfl rfl (by decide) rfl ?_
      refine z_iload_n dX7_readWords_21 rfl rfl ?_
      refine z_ialdN (j := i) dX7_readWords_22 rfl (Nat.le_of_ble_eq_true rfl) h77 (rfl) (by omega) (by decide) ?_
      refine z_bipush (v := nI 97) dX7_readWords_23 rfl (by decide) ?_
      refine z_isub dX7_readWords_25 rfl ?_
      refine z_istore_3 dX7_readWords_26 rfl ?_
      refine z_aload_n dX7_readWords_27 rfl rfl ?_
      refine z_get dX7_readWords_28 rfl hiX7_readWords_X7 1 lkX7_readWords_7 (Nat.le_of_ble_eq_true rfl) rfl rfl (by decide) rfl ?_
      refine z_iload_n dX7_readWords_31 rfl rfl ?_
      refine z_ialdN (j := i) dX7_readWords_32 rfl (Nat.le_of_ble_eq_true rfl) h77 (rfl) (by omega) (by decide) ?_
      refine z_bipush (v := nI 32) dX7_readWords_33 rfl (by decide) ?_
      refine z_icmp_ne (tgt := 55) dX7_readWords_35 rfl (by decide) (fun c35 => ?_) (fun c35 => ?_)
      · refine z_iload_n dX7_readWords_55 rfl rfl ?_
        refine z_iconst (v := nI 0) dX7_readWords_56 rfl (by decide) ?_
        refine z_bipush (v := nI 9) dX7_readWords_57 rfl (by decide) ?_
        refine z_callSi (c_X7_isIn G ex _ ((tp i) - (nI 97)) (nI 0) (nI 9)) gX7_readWords_X7_isIn rfl dX7_readWords_59 rfl rfl okk_X7_isIn ⟨Nat.le_of_ble_eq_true rfl, Nat.le_of_ble_eq_true rfl⟩ ⟨Nat.le_of_ble_eq_true rfl, Nat.le_of_ble_eq_true rfl⟩ (Nat.le_of_ble_eq_true rfl) ?_
        refine z_if_eq (tgt := 74) dX7_readWords_62 rfl (by decide) (fun c62 => ?_) (fun c62 => ?_)
        · refine z_iload_n dX7_readWords_74 rfl rfl ?_
          exact z_ireturn dX7_readWords_75 rfl rfl (Nat.le_refl _) (Nat.le_refl _) (fun _ => rfl) (Ko (nI i, w1, ws1, wl1, wm1) (by simp only [X7_readWords_L9_B, if_neg c35, if_pos c62]))
        · refine z_aload_n dX7_readWords_65 rfl rfl ?_
          refine z_iload_n dX7_readWords_66 rfl rfl ?_
          refine z_iload_n dX7_readWords_67 rfl rfl ?_
          refine z_callVi (c_X7_mayCome G ex _ code tps pts lns w1 brs ors stp hasP fld laid told rws cms cmT cmS isN trs wm1 ((tp i) - (nI 97)) sz1 hI.2.1 (by omega) (by omega) rfl rfl) gX7_readWords_X7_mayCome rfl dX7_readWords_68 rfl rfl rfl okk_X7_mayCome (Nat.le_of_ble_eq_true rfl) rfl rfl ⟨Nat.le_of_ble_eq_true rfl, Nat.le_of_ble_eq_true rfl⟩ ⟨Nat.le_of_ble_eq_true rfl, Nat.le_of_ble_eq_true rfl⟩ (Nat.le_of_ble_eq_true rfl) ?_
          refine z_if_ne (tgt := 76) dX7_readWords_71 rfl (by decide) (fun c71 => ?_) (fun c71 => ?_)
          · have hmc := mayCome_ok c71 (by omega) (by omega)
            refine z_iload_n dX7_readWords_76 rfl rfl ?_
            refine z_if_ne (tgt := 100) dX7_readWords_77 rfl (by decide) (fun c77 => ?_) (fun c77 => ?_)
            · have hs5 : sz1 < 5 := hmc.2 (fun q => c77 (by rw [q]; rfl))
              have hw1 : 1 ≤ w1 := hI.2.1.resolve_left (fun q => c77 (by rw [q]; rfl))
              refine z_aload_n dX7_readWords_100 rfl rfl ?_
              refine z_get dX7_readWords_101 rfl hiX7_readWords_X7 12 lkX7_readWords_31 (Nat.le_of_ble_eq_true rfl) rfl rfl (by decide) rfl ?_
              refine z_iconst (v := nI 5) dX7_readWords_104 rfl (by decide) ?_
              refine z_aload_n dX7_readWords_105 rfl rfl ?_
              refine z_get dX7_readWords_106 rfl hiX7_readWords_X7 10 lkX7_readWords_132 (Nat.le_of_ble_eq_true rfl) rfl rfl (by decide) rfl ?_
              refine z_iconst (v := nI 1) dX7_readWords_109 rfl (by decide) ?_
              refine z_isub dX7_readWords_110 rfl ?_
              refine z_imul dX7_readWords_111 rfl ?_
              refine z_iload_n dX7_readWords_112 rfl rfl ?_
              refine z_iadd dX7_readWords_113 rfl ?_
              refine z_iload_n dX7_readWords_114 rfl rfl ?_
              refine z_iastN (j := (5 * (w1 - 1)) + sz1) dX7_readWords_115 rfl (Nat.le_of_ble_eq_true rfl) rfl ((zq_add (zq_mul rfl (zq_sub rfl rfl (by omega))) rfl)) (by omega) (by decide) ?_
              refine z_n (L' := [(76, (oMod G code (nI tps) (nI pts) (nI lns) (nI w1) (nI brs) (nI ors) stp hasP fld laid told (nI rws) cms (nI cmT) cmS isN (nI trs))), (83, (zI G 13 ws1)), (84, (zI G 65 (upd wl1 ((5 * (w1 - 1)) + sz1) ((tp i) - (nI 97))))), (85, (zI G 13 wm1))]) rfl ?_
              refine z_aload_n dX7_readWords_116 rfl rfl ?_
              refine z_get dX7_readWords_117 rfl hiX7_readWords_X7 13 lkX7_readWords_34 (Nat.le_of_ble_eq_true rfl) rfl rfl (by decide) rfl ?_
              refine z_aload_n dX7_readWords_120 rfl rfl ?_
              refine z_get dX7_readWords_121 rfl hiX7_readWords_X7 10 lkX7_readWords_132 (Nat.le_of_ble_eq_true rfl) rfl rfl (by decide) rfl ?_
              refine z_iconst (v := nI 1) dX7_readWords_124 rfl (by decide) ?_
              refine z_isub dX7_readWords_125 rfl ?_
              refine z_dup2 dX7_readWords_126 rfl rfl rfl ?_
              refine z_ialdN (j := w1 - 1) dX7_readWords_127 rfl (Nat.le_of_ble_eq_true rfl) rfl ((zq_sub rfl rfl (by omega))) (by omega) (by decide) ?_
              refine z_iconst (v := nI 1) dX7_readWords_128 rfl (by decide) ?_
              refine z_iload_n dX7_readWords_129 rfl rfl ?_
              refine z_ishl dX7_readWords_130 rfl ?_
              refine z_ior dX7_readWords_131 rfl ?_
              refine z_iastN (j := w1 - 1) dX7_readWords_132 rfl (Nat.le_of_ble_eq_true rfl) rfl ((zq_sub rfl rfl (by omega))) (by omega) (by decide) ?_
              refine z_n (L' := [(76, (oMod G code (nI tps) (nI pts) (nI lns) (nI w1) (nI brs) (nI ors) stp hasP fld laid told (nI rws) cms (nI cmT) cmS isN (nI trs))), (83, (zI G 13 ws1)), (84, (zI G 65 (upd wl1 ((5 * (w1 - 1)) + sz1) ((tp i) - (nI 97))))), (85, (zI G 13 (upd wm1 (w1 - 1) ((wm1 (w1 - 1)) ||| ((nI 1) <<< (((tp i) - (nI 97)) &&& 31))))))]) rfl ?_
              refine z_iinc_1 (v := nI (sz1 + 1)) dX7_readWords_133 rfl (zinc _) ?_
              refine z_aload_n dX7_readWords_136 rfl rfl ?_
              refine z_get dX7_readWords_137 rfl hiX7_readWords_X7 11 lkX7_readWords_28 (Nat.le_of_ble_eq_true rfl) rfl rfl (by decide) rfl ?_
              refine z_aload_n dX7_readWords_140 rfl rfl ?_
              refine z_get dX7_readWords_141 rfl hiX7_readWords_X7 10 lkX7_readWords_132 (Nat.le_of_ble_eq_true rfl) rfl rfl (by decide) rfl ?_
              refine z_iconst (v := nI 1) dX7_readWords_144 rfl (by decide) ?_
              refine z_isub dX7_readWords_145 rfl ?_
              refine z_iload_n dX7_readWords_146 rfl rfl ?_
              refine z_iastN (j := w1 - 1) dX7_readWords_147 rfl (Nat.le_of_ble_eq_true rfl) rfl ((zq_sub rfl rfl (by omega))) (by omega) (by decide) ?_
              refine z_n (L' := [(76, (oMod G code (nI tps) (nI pts) (nI lns) (nI w1) (nI brs) (nI ors) stp hasP fld laid told (nI rws) cms (nI cmT) cmS isN (nI trs))), (83, (zI G 13 (upd ws1 (w1 - 1) (nI (sz1 + 1))))), (84, (zI G 65 (upd wl1 ((5 * (w1 - 1)) + sz1) ((tp i) - (nI 97))))), (85, (zI G 13 (upd wm1 (w1 - 1) ((wm1 (w1 - 1)) ||| ((nI 1) <<< (((tp i) - (nI 97)) &&& 31))))))]) rfl ?_
              refine z_iinc_2 (v := nI (i + 1)) dX7_readWords_148 rfl (zinc _) ?_
              refine z_goto (tgt := 9) dX7_readWords_151 (by decide) ?_
              have K9 := (K (by simp only [X7_readWords_L9_B, if_neg c35, if_neg c62, if_neg c71, if_neg c77]))
              try simp only [X7_readWords_L9_F, if_neg c35, if_neg c62, if_neg c71, if_neg c77] at K9
              exact K9 _
            · have hs0 : sz1 = 0 := nI0 c77 (by omega)
              have hw12 := hmc.1 hs0
              refine z_aload_n dX7_readWords_80 rfl rfl ?_
              refine z_get dX7_readWords_81 rfl hiX7_readWords_X7 13 lkX7_readWords_34 (Nat.le_of_ble_eq_true rfl) rfl rfl (by decide) rfl ?_
              refine z_aload_n dX7_readWords_84 rfl rfl ?_
              refine z_get dX7_readWords_85 rfl hiX7_readWords_X7 10 lkX7_readWords_132 (Nat.le_of_ble_eq_true rfl) rfl rfl (by decide) rfl ?_
              refine z_iconst (v := nI 0) dX7_readWords_88 rfl (by decide) ?_
              refine z_iastN (j := w1) dX7_readWords_89 rfl (Nat.le_of_ble_eq_true rfl) rfl (rfl) (by omega) (by decide) ?_
              refine z_n (L' := [(76, (oMod G code (nI tps) (nI pts) (nI lns) (nI w1) (nI brs) (nI ors) stp hasP fld laid told (nI rws) cms (nI cmT) cmS isN (nI trs))), (83, (zI G 13 ws1)), (84, (zI G 65 wl1)), (85, (zI G 13 (upd wm1 w1 (nI 0))))]) rfl ?_
              refine z_aload_n dX7_readWords_90 rfl rfl ?_
              refine z_dup dX7_readWords_91 rfl rfl ?_
              refine z_get dX7_readWords_92 rfl hiX7_readWords_X7 10 lkX7_readWords_132 (Nat.le_of_ble_eq_true rfl) rfl rfl (by decide) rfl ?_
              refine z_iconst (v := nI 1) dX7_readWords_95 rfl (by decide) ?_
              refine z_iadd dX7_readWords_96 rfl ?_
              rw [show (nI w1) + (nI 1) = nI (w1 + 1) from (zq_add rfl rfl)]
              refine z_putN (e9 := (oMod G code (nI tps) (nI pts) (nI lns) (nI (w1 + 1)) (nI brs) (nI ors) stp hasP fld laid told (nI rws) cms (nI cmT) cmS isN (nI trs))) tyX7 tyX7_ok nmX7 dX7_readWords_97 rfl hiX7_readWords_X7 10 lkX7_readWords_132 rfl (by decide +kernel) (Nat.le_of_ble_eq_true rfl) rfl rfl (by decide) (Nat.le_of_ble_eq_true rfl) rfl rfl rfl ?_
              refine z_n (L' := [(76, (oMod G code (nI tps) (nI pts) (nI lns) (nI (w1 + 1)) (nI brs) (nI ors) stp hasP fld laid told (nI rws) cms (nI cmT) cmS isN (nI trs))), (83, (zI G 13 ws1)), (84, (zI G 65 wl1)), (85, (zI G 13 (upd wm1 w1 (nI 0))))]) rfl ?_
              refine z_aload_n dX7_readWords_100 rfl rfl ?_
              refine z_get dX7_readWords_101 rfl hiX7_readWords_X7 12 lkX7_readWords_31 (Nat.le_of_ble_eq_true rfl) rfl rfl (by decide) rfl ?_
              refine z_iconst (v := nI 5) dX7_readWords_104 rfl (by decide) ?_
              refine z_aload_n dX7_readWords_105 rfl rfl ?_
              refine z_get dX7_readWords_106 rfl hiX7_readWords_X7 10 lkX7_readWords_132 (Nat.le_of_ble_eq_true rfl) rfl rfl (by decide) rfl ?_
              refine z_iconst (v := nI 1) dX7_readWords_109 rfl (by decide) ?_
              refine z_isub dX7_readWords_110 rfl ?_
              refine z_imul dX7_readWords_111 rfl ?_
              refine z_iload_n dX7_readWords_112 rfl rfl ?_
              refine z_iadd dX7_readWords_113 rfl ?_
              refine z_iload_n dX7_readWords_114 rfl rfl ?_
              refine z_iastN (j := (5 * ((w1 + 1) - 1)) + sz1) dX7_readWords_115 rfl (Nat.le_of_ble_eq_true rfl) rfl ((zq_add (zq_mul rfl (zq_sub rfl rfl (by omega))) rfl)) (by omega) (by decide) ?_
              refine z_n (L' := [(76, (oMod G code (nI tps) (nI pts) (nI lns) (nI (w1 + 1)) (nI brs) (nI ors) stp hasP fld laid told (nI rws) cms (nI cmT) cmS isN (nI trs))), (83, (zI G 13 ws1)), (84, (zI G 65 (upd wl1 ((5 * ((w1 + 1) - 1)) + sz1) ((tp i) - (nI 97))))), (85, (zI G 13 (upd wm1 w1 (nI 0))))]) rfl ?_
              refine z_aload_n dX7_readWords_116 rfl rfl ?_
              refine z_get dX7_readWords_117 rfl hiX7_readWords_X7 13 lkX7_readWords_34 (Nat.le_of_ble_eq_true rfl) rfl rfl (by decide) rfl ?_
              refine z_aload_n dX7_readWords_120 rfl rfl ?_
              refine z_get dX7_readWords_121 rfl hiX7_readWords_X7 10 lkX7_readWords_132 (Nat.le_of_ble_eq_true rfl) rfl rfl (by decide) rfl ?_
              refine z_iconst (v := nI 1) dX7_readWords_124 rfl (by decide) ?_
              refine z_isub dX7_readWords_125 rfl ?_
              refine z_dup2 dX7_readWords_126 rfl rfl rfl ?_
              refine z_ialdN (j := (w1 + 1) - 1) dX7_readWords_127 rfl (Nat.le_of_ble_eq_true rfl) rfl ((zq_sub rfl rfl (by omega))) (by omega) (by decide) ?_
              refine z_iconst (v := nI 1) dX7_readWords_128 rfl (by decide) ?_
              refine z_iload_n dX7_readWords_129 rfl rfl ?_
              refine z_ishl dX7_readWords_130 rfl ?_
              refine z_ior dX7_readWords_131 rfl ?_
              refine z_iastN (j := (w1 + 1) - 1) dX7_readWords_132 rfl (Nat.le_of_ble_eq_true rfl) rfl ((zq_sub rfl rfl (by omega))) (by omega) (by decide) ?_
              refine z_n (L' := [(76, (oMod G code (nI tps) (nI pts) (nI lns) (nI (w1 + 1)) (nI brs) (nI ors) stp hasP fld laid told (nI rws) cms (nI cmT) cmS isN (nI trs))), (83, (zI G 13 ws1)), (84, (zI G 65 (upd wl1 ((5 * ((w1 + 1) - 1)) + sz1) ((tp i) - (nI 97))))), (85, (zI G 13 (upd (upd wm1 w1 (nI 0)) ((w1 + 1) - 1) (((upd wm1 w1 (nI 0)) ((w1 + 1) - 1)) ||| ((nI 1) <<< (((tp i) - (nI 97)) &&& 31))))))]) rfl ?_
              refine z_iinc_1 (v := nI (sz1 + 1)) dX7_readWords_133 rfl (zinc _) ?_
              refine z_aload_n dX7_readWords_136 rfl rfl ?_
              refine z_get dX7_readWords_137 rfl hiX7_readWords_X7 11 lkX7_readWords_28 (Nat.le_of_ble_eq_true rfl) rfl rfl (by decide) rfl ?_
              refine z_aload_n dX7_readWords_140 rfl rfl ?_
              refine z_get dX7_readWords_141 rfl hiX7_readWords_X7 10 lkX7_readWords_132 (Nat.le_of_ble_eq_true rfl) rfl rfl (by decide) rfl ?_
              refine z_iconst (v := nI 1) dX7_readWords_144 rfl (by decide) ?_
              refine z_isub dX7_readWords_145 rfl ?_
              refine z_iload_n dX7_readWords_146 rfl rfl ?_
              refine z_iastN (j := (w1 + 1) - 1) dX7_readWords_147 rfl (Nat.le_of_ble_eq_true rfl) rfl ((zq_sub rfl rfl (by omega))) (by omega) (by decide) ?_
              refine z_n (L' := [(76, (oMod G code (nI tps) (nI pts) (nI lns) (nI (w1 + 1)) (nI brs) (nI ors) stp hasP fld laid told (nI rws) cms (nI cmT) cmS isN (nI trs))), (83, (zI G 13 (upd ws1 ((w1 + 1) - 1) (nI (sz1 + 1))))), (84, (zI G 65 (upd wl1 ((5 * ((w1 + 1) - 1)) + sz1) ((tp i) - (nI 97))))), (85, (zI G 13 (upd (upd wm1 w1 (nI 0)) ((w1 + 1) - 1) (((upd wm1 w1 (nI 0)) ((w1 + 1) - 1)) ||| ((nI 1) <<< (((tp i) - (nI 97)) &&& 31))))))]) rfl ?_
              refine z_iinc_2 (v := nI (i + 1)) dX7_readWords_148 rfl (zinc _) ?_
              refine z_goto (tgt := 9) dX7_readWords_151 (by decide) ?_
              have K9 := (K (by simp only [X7_readWords_L9_B, if_neg c35, if_neg c62, if_neg c71, if_pos c77]))
              try simp only [X7_readWords_L9_F, if_neg c35, if_neg c62, if_neg c71, if_pos c77] at K9
              exact K9 _
          · refine z_iload_n dX7_readWords_74 rfl rfl ?_
            exact z_ireturn dX7_readWords_75 rfl rfl (Nat.le_refl _) (Nat.le_refl _) (fun _ => rfl) (Ko (nI i, w1, ws1, wl1, wm1) (by simp only [X7_readWords_L9_B, if_neg c35, if_neg c62, if_pos c71]))
      · refine z_iload_n dX7_readWords_38 rfl rfl ?_
        refine z_iconst (v := nI 1) dX7_readWords_39 rfl (by decide) ?_
        refine z_icmp_eq (tgt := 48) dX7_readWords_40 rfl (by decide) (fun c40 => ?_) (fun c40 => ?_)
        · refine z_iload_n dX7_readWords_48 rfl rfl ?_
          exact z_ireturn dX7_readWords_49 rfl rfl (Nat.le_refl _) (Nat.le_refl _) (fun _ => rfl) (Ko (nI i, w1, ws1, wl1, wm1) (by simp only [X7_readWords_L9_B, if_pos c35, if_pos c40]))
        · refine z_iload_n dX7_readWords_43 rfl rfl ?_
          refine z_iconst (v := nI 2) dX7_readWords_44 rfl (by decide) ?_
          refine z_icmp_ne (tgt := 50) dX7_readWords_45 rfl (by decide) (fun c45 => ?_) (fun c45 => ?_)
          · refine z_iconst (v := nI 0) dX7_readWords_50 rfl (by decide) ?_
            refine z_istore_1 dX7_readWords_51 rfl ?_
            refine z_goto (tgt := 148) dX7_readWords_52 (by decide) ?_
            refine z_iinc_2 (v := nI (i + 1)) dX7_readWords_148 rfl (zinc _) ?_
            refine z_goto (tgt := 9) dX7_readWords_151 (by decide) ?_
            have K9 := (K (by simp only [X7_readWords_L9_B, if_pos c35, if_neg c40, if_neg c45]))
            try simp only [X7_readWords_L9_F, if_pos c35, if_neg c40, if_neg c45] at K9
            exact K9 _
          · refine z_iload_n dX7_readWords_48 rfl rfl ?_
            exact z_ireturn dX7_readWords_49 rfl rfl (Nat.le_refl _) (Nat.le_refl _) (fun _ => rfl) (Ko (nI i, w1, ws1, wl1, wm1) (by simp only [X7_readWords_L9_B, if_pos c35, if_neg c40, if_pos c45]))
  · intro b a9 hz9
    exact ⟨by simp only [X7_readWords_v, hz9, zpick_s], by simp only [X7_readWords_p76_4, X7_readWords_c83, X7_readWords_c84, X7_readWords_c85, hz9, zpick_s]⟩
  · intro a9 hz9 hI
    obtain ⟨w1, sz1, ws1, wl1, wm1⟩ := a9
    intro y3
    have hI : rwI w1 sz1 := hI
    refine z_iload_n dX7_readWords_9 rfl rfl ?_
    refine z_aload_n dX7_readWords_10 rfl rfl ?_
    refine z_get dX7_readWords_11 rfl hiX7_readWords_X7 2 lkX7_readWords_129 (Nat.le_of_ble_eq_true rfl) rfl rfl (by decide) rfl ?_
    refine z_icmp_ge (tgt := 154) dX7_readWords_14 rfl (by decide) (fun c14 => ?_) (fun c14 => ?_)
    · refine z_iload_n dX7_readWords_154 rfl rfl ?_
      refine z_iconst (v := nI 1) dX7_readWords_155 rfl (by decide) ?_
      refine z_icmp_eq (tgt := 171) dX7_readWords_156 rfl (by decide) (fun c156 => ?_) (fun c156 => ?_)
      · refine z_aload_n dX7_readWords_171 rfl rfl ?_
        refine z_get dX7_readWords_172 rfl hiX7_readWords_X7 2 lkX7_readWords_129 (Nat.le_of_ble_eq_true rfl) rfl rfl (by decide) rfl ?_
        refine z_goto (tgt := 180) dX7_readWords_175 (by decide) ?_
        exact z_ireturn dX7_readWords_180 rfl rfl (Nat.le_refl _) (Nat.le_refl _) (fun _ => rfl) ⟨by simp only [X7_readWords_v, hz9, zpick_n, if_pos c156], by simp only [X7_readWords_p76_4, X7_readWords_c83, X7_readWords_c84, X7_readWords_c85, hz9, zpick_n, if_pos c156]⟩
      · refine z_iload_n dX7_readWords_159 rfl rfl ?_
        refine z_iconst (v := nI 2) dX7_readWords_160 rfl (by decide) ?_
        refine z_icmp_eq (tgt := 171) dX7_readWords_161 rfl (by decide) (fun c161 => ?_) (fun c161 => ?_)
        · refine z_aload_n dX7_readWords_171 rfl rfl ?_
          refine z_get dX7_readWords_172 rfl hiX7_readWords_X7 2 lkX7_readWords_129 (Nat.le_of_ble_eq_true rfl) rfl rfl (by decide) rfl ?_
          refine z_goto (tgt := 180) dX7_readWords_175 (by decide) ?_
          exact z_ireturn dX7_readWords_180 rfl rfl (Nat.le_refl _) (Nat.le_refl _) (fun _ => rfl) ⟨by simp only [X7_readWords_v, hz9, zpick_n, if_neg c156, if_pos c161], by simp only [X7_readWords_p76_4, X7_readWords_c83, X7_readWords_c84, X7_readWords_c85, hz9, zpick_n, if_neg c156, if_pos c161]⟩
        · refine z_aload_n dX7_readWords_164 rfl rfl ?_
          refine z_get dX7_readWords_165 rfl hiX7_readWords_X7 10 lkX7_readWords_132 (Nat.le_of_ble_eq_true rfl) rfl rfl (by decide) rfl ?_
          refine z_if_ne (tgt := 178) dX7_readWords_168 rfl (by decide) (fun c168 => ?_) (fun c168 => ?_)
          · refine z_bipush (v := (-4)) dX7_readWords_178 rfl (by decide) ?_
            exact z_ireturn dX7_readWords_180 rfl rfl (Nat.le_refl _) (Nat.le_refl _) (fun _ => rfl) ⟨by simp only [X7_readWords_v, hz9, zpick_n, if_neg c156, if_neg c161, if_neg c168], by simp only [X7_readWords_p76_4, X7_readWords_c83, X7_readWords_c84, X7_readWords_c85, hz9, zpick_n, if_neg c156, if_neg c161, if_neg c168]⟩
          · refine z_aload_n dX7_readWords_171 rfl rfl ?_
            refine z_get dX7_readWords_172 rfl hiX7_readWords_X7 2 lkX7_readWords_129 (Nat.le_of_ble_eq_true rfl) rfl rfl (by decide) rfl ?_
            refine z_goto (tgt := 180) dX7_readWords_175 (by decide) ?_
            exact z_ireturn dX7_readWords_180 rfl rfl (Nat.le_refl _) (Nat.le_refl _) (fun _ => rfl) ⟨by simp only [X7_readWords_v, hz9, zpick_n, if_neg c156, if_neg c161, if_pos c168], by simp only [X7_readWords_p76_4, X7_readWords_c83, X7_readWords_c84, X7_readWords_c85, hz9, zpick_n, if_neg c156, if_neg c161, if_pos c168]⟩
    · exact absurd (nI_le (Nat.le_refl _) (by omega)) c14
