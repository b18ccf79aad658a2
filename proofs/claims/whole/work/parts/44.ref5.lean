theorem nI0 {n : Nat} (h : nI n = 0) (hn : n < 2147483648) : n = 0 := by
  rcases Nat.eq_zero_or_pos n with q | q
  · exact q
  · exact absurd h (nI_ne0 (by omega) (by omega))
theorem mayCome_ok {wds sz : Nat} {wm : Nat → Int32} {lt : Int32} (h : ¬ X7_mayCome_v wds wm lt sz = 0) (hw : wds ≤ 13) (hs : sz < 100) : (sz = 0 → wds < 12) ∧ (¬ sz = 0 → sz < 5) := by
  unfold X7_mayCome_v at h
  refine ⟨fun q => ?_, fun q => ?_⟩
  · rw [if_pos (by rw [q]; rfl)] at h
    split at h
    · exact absurd rfl h
    · rename_i c
      exact Nat.lt_of_not_le (fun q => c (nI_le q (by omega)))
  · rw [if_neg (fun z => q (nI0 z (by omega)))] at h
    split at h
    · refine absurd ?_ h
      have e := zfoldX_P (fun a : Int32 => a = nI 0) (B := X7_mayCome_L54_B wds wm lt) (F := X7_mayCome_L54_F wds wm lt) (fun i a ha => by
        unfold X7_mayCome_L54_F
        rw [if_pos (show a = 0 from ha)]
        exact ha) (fun i a b ha hB => by
        unfold X7_mayCome_L54_B at hB
        rw [if_pos (show a = 0 from ha)] at hB
        cases hB
        exact ha) (wds - 1) 0 (nI 0) rfl
      exact e
    · rename_i c
      exact Nat.lt_of_not_le (fun q => c (nI_le q (by omega)))
def rwI (w z : Nat) : Prop := w ≤ 12 ∧ (z = 0 ∨ 1 ≤ w) ∧ z ≤ 5
abbrev mX7_readWords : zM := (cX7_readWords, 4, (some .int), RX7, wsX7_readWords, "readWords")
theorem hiX7_readWords_X7 : ∀ w ∈ wsX70, w ∈ wsX7_readWords := fun w h => List.mem_cons_of_mem _ (List.mem_append_right _ h)
theorem lkX7_readWords_132 : Cond.fieldLink RX7 132 "ConfigSearchModel" "words" "I" ∈ wsX7_readWords := by decide +kernel
theorem lkX7_readWords_129 : Cond.fieldLink RX7 129 "ConfigSearchModel" "tapeSize" "I" ∈ wsX7_readWords := by decide +kernel
theorem lkX7_readWords_7 : Cond.fieldLink RX7 7 "ConfigSearchModel" "tape" "[I" ∈ wsX7_readWords := by decide +kernel
theorem okk_X7_mayCome : zOk yX7_mayCome 2 := by unfold zOk; decide +kernel
theorem lkX7_readWords_31 : Cond.fieldLink RX7 31 "ConfigSearchModel" "wordLetter" "[I" ∈ wsX7_readWords := by decide +kernel
theorem lkX7_readWords_34 : Cond.fieldLink RX7 34 "ConfigSearchModel" "wordMask" "[I" ∈ wsX7_readWords := by decide +kernel
theorem lkX7_readWords_28 : Cond.fieldLink RX7 28 "ConfigSearchModel" "wordSize" "[I" ∈ wsX7_readWords := by decide +kernel
def X7_readWords_L9_F (tp : Nat → Int32) (i : Nat) (a9 : (Nat) × (Nat) × (Nat → Int32) × (Nat → Int32) × (Nat → Int32)) : (Nat) × (Nat) × (Nat → Int32) × (Nat → Int32) × (Nat → Int32) := if (tp i) = (nI 32) then (if (nI a9.2.1) = (nI 1) then (a9.1, a9.2.1, a9.2.2.1, a9.2.2.2.1, a9.2.2.2.2) else (if (nI a9.2.1) = (nI 2) then (a9.1, a9.2.1, a9.2.2.1, a9.2.2.2.1, a9.2.2.2.2) else (a9.1, 0, a9.2.2.1, a9.2.2.2.1, a9.2.2.2.2))) else (if (X7_isIn_v ((tp i) - (nI 97)) (nI 0) (nI 9)) = 0 then (a9.1, a9.2.1, a9.2.2.1, a9.2.2.2.1, a9.2.2.2.2) else (if (X7_mayCome_v a9.1 a9.2.2.2.2 ((tp i) - (nI 97)) a9.2.1) = 0 then (a9.1, a9.2.1, a9.2.2.1, a9.2.2.2.1, a9.2.2.2.2) else (if (nI a9.2.1) = 0 then (a9.1 + 1, a9.2.1 + 1, upd a9.2.2.1 ((a9.1 + 1) - 1) (nI (a9.2.1 + 1)), upd a9.2.2.2.1 ((5 * ((a9.1 + 1) - 1)) + a9.2.1) ((tp i) - (nI 97)), upd (upd a9.2.2.2.2 a9.1 (nI 0)) ((a9.1 + 1) - 1) (((upd a9.2.2.2.2 a9.1 (nI 0)) ((a9.1 + 1) - 1)) ||| ((nI 1) <<< (((tp i) - (nI 97)) &&& 31)))) else (a9.1, a9.2.1 + 1, upd a9.2.2.1 (a9.1 - 1) (nI (a9.2.1 + 1)), upd a9.2.2.2.1 ((5 * (a9.1 - 1)) + a9.2.1) ((tp i) - (nI 97)), upd a9.2.2.2.2 (a9.1 - 1) ((a9.2.2.2.2 (a9.1 - 1)) ||| ((nI 1) <<< (((tp i) - (nI 97)) &&& 31)))))))
def X7_readWords_L9_B (tp : Nat → Int32) (i : Nat) (a9 : (Nat) × (Nat) × (Nat → Int32) × (Nat → Int32) × (Nat → Int32)) : Option ((Int32) × (Nat) × (Nat → Int32) × (Nat → Int32) × (Nat → Int32)) := if (tp i) = (nI 32) then (if (nI a9.2.1) = (nI 1) then (some (nI i, a9.1, a9.2.2.1, a9.2.2.2.1, a9.2.2.2.2)) else (if (nI a9.2.1) = (nI 2) then (some (nI i, a9.1, a9.2.2.1, a9.2.2.2.1, a9.2.2.2.2)) else none)) else (if (X7_isIn_v ((tp i) - (nI 97)) (nI 0) (nI 9)) = 0 then (some (nI i, a9.1, a9.2.2.1, a9.2.2.2.1, a9.2.2.2.2)) else (if (X7_mayCome_v a9.1 a9.2.2.2.2 ((tp i) - (nI 97)) a9.2.1) = 0 then (some (nI i, a9.1, a9.2.2.1, a9.2.2.2.1, a9.2.2.2.2)) else (if (nI a9.2.1) = 0 then none else none)))
def X7_readWords_v (code : Int32) (tps pts lns brs ors : Nat) (stp hasP fld laid told : Int32) (rws : Nat) (cms : Int32) (cmT : Nat) (cmS isN : Int32) (trs : Nat) (tp : Nat → Int32) (ws wl wm : Nat → Int32) : Int32 := zpick (zfoldB (X7_readWords_L9_B tp) (X7_readWords_L9_F tp) tps 0 (0, 0, ws, wl, wm)) (fun b => b.1) (fun am9 => if (nI am9.2.1) = (nI 1) then (nI tps) else (if (nI am9.2.1) = (nI 2) then (nI tps) else (if (nI am9.1) = 0 then (nI tps) else (-4))))
def X7_readWords_p76_4 (code : Int32) (tps pts lns brs ors : Nat) (stp hasP fld laid told : Int32) (rws : Nat) (cms : Int32) (cmT : Nat) (cmS isN : Int32) (trs : Nat) (tp : Nat → Int32) (ws wl wm : Nat → Int32) : Nat := zpick (zfoldB (X7_readWords_L9_B tp) (X7_readWords_L9_F tp) tps 0 (0, 0, ws, wl, wm)) (fun b => b.2.1) (fun am9 => if (nI am9.2.1) = (nI 1) then am9.1 else (if (nI am9.2.1) = (nI 2) then am9.1 else (if (nI am9.1) = 0 then am9.1 else am9.1)))
def X7_readWords_c83 (code : Int32) (tps pts lns brs ors : Nat) (stp hasP fld laid told : Int32) (rws : Nat) (cms : Int32) (cmT : Nat) (cmS isN : Int32) (trs : Nat) (tp : Nat → Int32) (ws wl wm : Nat → Int32) : Nat → Int32 := zpick (zfoldB (X7_readWords_L9_B tp) (X7_readWords_L9_F tp) tps 0 (0, 0, ws, wl, wm)) (fun b => b.2.2.1) (fun am9 => if (nI am9.2.1) = (nI 1) then am9.2.2.1 else (if (nI am9.2.1) = (nI 2) then am9.2.2.1 else (if (nI am9.1) = 0 then am9.2.2.1 else am9.2.2.1)))
def X7_readWords_c84 (code : Int32) (tps pts lns brs ors : Nat) (stp hasP fld laid told : Int32) (rws : Nat) (cms : Int32) (cmT : Nat) (cmS isN : Int32) (trs : Nat) (tp : Nat → Int32) (ws wl wm : Nat → Int32) : Nat → Int32 := zpick (zfoldB (X7_readWords_L9_B tp) (X7_readWords_L9_F tp) tps 0 (0, 0, ws, wl, wm)) (fun b => b.2.2.2.1) (fun am9 => if (nI am9.2.1) = (nI 1) then am9.2.2.2.1 else (if (nI am9.2.1) = (nI 2) then am9.2.2.2.1 else (if (nI am9.1) = 0 then am9.2.2.2.1 else am9.2.2.2.1)))
def X7_readWords_c85 (code : Int32) (tps pts lns brs ors : Nat) (stp hasP fld laid told : Int32) (rws : Nat) (cms : Int32) (cmT : Nat) (cmS isN : Int32) (trs : Nat) (tp : Nat → Int32) (ws wl wm : Nat → Int32) : Nat → Int32 := zpick (zfoldB (X7_readWords_L9_B tp) (X7_readWords_L9_F tp) tps 0 (0, 0, ws, wl, wm)) (fun b => b.2.2.2.2) (fun am9 => if (nI am9.2.1) = (nI 1) then am9.2.2.2.2 else (if (nI am9.2.1) = (nI 2) then am9.2.2.2.2 else (if (nI am9.1) = 0 then am9.2.2.2.2 else am9.2.2.2.2)))
set_option maxRecDepth 100000 in
set_option maxHeartbeats 4000000 in
theorem c_X7_readWords (G : zG) (ex : Bool) (g : Nat → va_E) (code : Int32) (tps pts lns wds brs ors : Nat) (stp hasP fld laid told : Int32) (rws : Nat) (cms : Int32) (cmT : Nat) (cmS isN : Int32) (trs : Nat) (tp : Nat → Int32) (ws wl wm : Nat → Int32)  (htp : tps ≤ 80) (h76 : g 76 = (oMod G code (nI tps) (nI pts) (nI lns) (nI wds) (nI brs) (nI ors) stp hasP fld laid told (nI rws) cms (nI cmT) cmS isN (nI trs))) (h77 : g 77 = (zI G 80 tp)) (h83 : g 83 = (zI G 13 ws)) (h84 : g 84 = (zI G 65 wl)) (h85 : g 85 = (zI G 13 wm)) : zC G yX7_readWords wsX7_readWords (zrm 1 25) ex [.ref (zB G + 76)] (zN, g) (fun r h => r = some (.int (X7_readWords_v code tps pts lns brs ors stp hasP fld laid told rws cms cmT cmS isN trs tp ws wl wm)) ∧ h = (zN, zus g [(76, (oMod G code (nI tps) (nI pts) (nI lns) (nI (X7_readWords_p76_4 code tps pts lns brs ors stp hasP fld laid told rws cms cmT cmS isN trs tp ws wl wm)) (nI brs) (nI ors) stp hasP fld laid told (nI rws) cms (nI cmT) cmS isN (nI trs))), (83, zI G 13 (X7_readWords_c83 code tps pts lns brs ors stp hasP fld laid told rws cms cmT cmS isN trs tp ws wl wm)), (84, zI G 65 (X7_readWords_c84 code tps pts lns brs ors stp hasP fld laid told rws cms cmT cmS isN trs tp ws wl wm)), (85, zI G 13 (X7_readWords_c85 code tps pts lns brs ors stp hasP fld laid told rws cms cmT cmS isN trs tp ws wl wm))])) := by
  refine zC_of mX7_readWords (lv := [some (.ref (zB G + 76)), none, none, none]) rfl rfl (by decide) (by intro v hv; simp at hv; subst hv; rfl) (Nat.le_of_ble_eq_true rfl) rfl ?_
  refine z_0 ?_
  refine z_heap (g' := zu (zus g []) 76 (oMod G code (nI tps) (nI pts) (nI lns) (nI wds) (nI brs) (nI ors) stp hasP fld laid told (nI rws) cms (nI cmT) cmS isN (nI trs))) (zu_self (zus g []) 76 _ h76).symm ?_
  refine z_n (L' := [(76, (oMod G code (nI tps) (nI pts) (nI lns) (nI wds) (nI brs) (nI ors) stp hasP fld laid told (nI rws) cms (nI cmT) cmS isN (nI trs)))]) rfl ?_
  refine z_heap (g' := zu (zus g [(76, (oMod G code (nI tps) (nI pts) (nI lns) (nI wds) (nI brs) (nI ors) stp hasP fld laid told (nI rws) cms (nI cmT) cmS isN (nI trs)))]) 83 (zI G 13 ws)) (zu_self (zus g [(76, (oMod G code (nI tps) (nI pts) (nI lns) (nI wds) (nI brs) (nI ors) stp hasP fld laid told (nI rws) cms (nI cmT) cmS isN (nI trs)))]) 83 _ h83).symm ?_
  refine z_n (L' := [(76, (oMod G code (nI tps) (nI pts) (nI lns) (nI wds) (nI brs) (nI ors) stp hasP fld laid told (nI rws) cms (nI cmT) cmS isN (nI trs))), (83, (zI G 13 ws))]) rfl ?_
  refine z_heap (g' := zu (zus g [(76, (oMod G code (nI tps) (nI pts) (nI lns) (nI wds) (nI brs) (nI ors) stp hasP fld laid told (nI rws) cms (nI cmT) cmS isN (nI trs))), (83, (zI G 13 ws))]) 84 (zI G 65 wl)) (zu_self (zus g [(76, (oMod G code (nI tps) (nI pts) (nI lns) (nI wds) (nI brs) (nI ors) stp hasP fld laid told (nI rws) cms (nI cmT) cmS isN (nI trs))), (83, (zI G 13 ws))]) 84 _ h84).symm ?_
  refine z_n (L' := [(76, (oMod G code (nI tps) (nI pts) (nI lns) (nI wds) (nI brs) (nI ors) stp hasP fld laid told (nI rws) cms (nI cmT) cmS isN (nI trs))), (83, (zI G 13 ws)), (84, (zI G 65 wl))]) rfl ?_
  refine z_heap (g' := zu (zus g [(76, (oMod G code (nI tps) (nI pts) (nI lns) (nI wds) (nI brs) (nI ors) stp hasP fld laid told (nI rws) cms (nI cmT) cmS isN (nI trs))), (83, (zI G 13 ws)), (84, (zI G 65 wl))]) 85 (zI G 13 wm)) (zu_self (zus g [(76, (oMod G code (nI tps) (nI pts) (nI lns) (nI wds) (nI brs) (nI ors) stp hasP fld laid told (nI rws) cms (nI cmT) cmS isN (nI trs))), (83, (zI G 13 ws)), (84, (zI G 65 wl))]) 85 _ h85).symm ?_
  refine z_n (L' := [(76, (oMod G code (nI tps) (nI pts) (nI lns) (nI wds) (nI brs) (nI ors) stp hasP fld laid told (nI rws) cms (nI cmT) cmS isN (nI trs))), (83, (zI G 13 ws)), (84, (zI G 65 wl)), (85, (zI G 13 wm))]) rfl ?_
  refine z_aload_n dX7_readWords_0 rfl rfl ?_
  refine z_iconst (v := nI 0) dX7_readWords_1 rfl (by decide) ?_
  refine z_putN (e9 := (oMod G code (nI tps) (nI pts) (nI lns) (nI 0) (nI brs) (nI ors) stp hasP fld laid told (nI rws) cms (nI cmT) cmS isN (nI trs))) tyX7 tyX7_ok nmX7 dX7_readWords_2 rfl hiX7_readWords_X7 10 lkX7_readWords_132 rfl (by decide +kernel) (Nat.le_of_ble_eq_true rfl) rfl rfl (by decide) (Nat.le_of_ble_eq_true rfl) rfl rfl rfl ?_
  refine z_n (L' := [(76, (oMod G code (nI tps) (nI pts) (nI lns) (nI 0) (nI brs) (nI ors) stp hasP fld laid told (nI rws) cms (nI cmT) cmS isN (nI trs))), (83, (zI G 13 ws)), (84, (zI G 65 wl)), (85, (zI G 13 wm))]) rfl ?_
  refine z_iconst (v := nI 0) dX7_readWords_5 rfl (by decide) ?_
  refine z_istore_1 dX7_readWords_6 rfl ?_
  refine z_iconst (v := nI 0) dX7_readWords_7 rfl (by decide) ?_
  refine z_istore_2 dX7_readWords_8 rfl ?_
  refine z_forB (head := fun i (st9 : (Nat) × (Nat) × (Nat → Int32) × (Nat → Int32) × (Nat → Int32)) => ∀ y3 : Option Value, Z G mX7_readWords (zrm 1 25) ex _ 9 [some (.ref (zB G + 76)), some (.int (nI st9.2.1)), some (.int (nI i)), y3] [] (zN, zus g [(76, (oMod G code (nI tps) (nI pts) (nI lns) (nI st9.1) (nI brs) (nI ors) stp hasP fld laid told (nI rws) cms (nI cmT) cmS isN (nI trs))), (83, (zI G 13 st9.2.2.1)), (84, (zI G 65 st9.2.2.2.1)), (85, (zI G 13 st9.2.2.2.2))]) 0 0) (out := fun b _ => (some (Value.int b.1) = some (Value.int (X7_readWords_v code tps pts lns brs ors stp hasP fld laid told rws cms cmT cmS isN trs tp ws wl wm))) ∧ ((zN, zus g [(76, (oMod G code (nI tps) (nI pts) (nI lns) (nI b.2.1) (nI brs) (nI ors) stp hasP fld laid told (nI rws) cms (nI cmT) cmS isN (nI trs))), (83, (zI G 13 b.2.2.1)), (84, (zI G 65 b.2.2.2.1)), (85, (zI G 13 b.2.2.2.2))]) : zAH) = (zN, zus g [(76, (oMod G code (nI tps) (nI pts) (nI lns) (nI (X7_readWords_p76_4 code tps pts lns brs ors stp hasP fld laid told rws cms cmT cmS isN trs tp ws wl wm)) (nI brs) (nI ors) stp hasP fld laid told (nI rws) cms (nI cmT) cmS isN (nI trs))), (83, zI G 13 (X7_readWords_c83 code tps pts lns brs ors stp hasP fld laid told rws cms cmT cmS isN trs tp ws wl wm)), (84, zI G 65 (X7_readWords_c84 code tps pts lns brs ors stp hasP fld laid told rws cms cmT cmS isN trs tp ws wl wm)), (85, zI G 13 (X7_readWords_c85 code tps pts lns brs ors stp hasP fld laid told rws cms cmT cmS isN trs tp ws wl wm))])) (B := (X7_readWords_L9_B tp)) (F := (X7_readWords_L9_F tp)) (n := tps) (fun _ a => rwI a.1 a.2.1) (fun i a hi h hB => by
        obtain ⟨h1, h2, h3⟩ := h
        unfold X7_readWords_L9_B at hB
        unfold X7_readWords_L9_F
        by_cases c1 : tp i = nI 32
        · simp only [if_pos c1] at hB ⊢
          repeat' split
          all_goals first | exact ⟨h1, Or.inl rfl, Nat.zero_le _⟩ | exact ⟨h1, h2, h3⟩
        · simp only [if_neg c1] at hB ⊢
          by_cases c2 : X7_isIn_v (tp i - nI 97) (nI 0) (nI 9) = 0
          · simp only [if_pos c2] at hB
            cases hB
          · simp only [if_neg c2] at hB ⊢
            by_cases c3 : X7_mayCome_v a.1 a.2.2.2.2 (tp i - nI 97) a.2.1 = 0
            · simp only [if_pos c3] at hB
              cases hB
            · simp only [if_neg c3] at hB ⊢
              have hmc := mayCome_ok c3 (by omega) (by omega)
              by_cases c4 : nI a.2.1 = 0
              · rw [if_pos c4]
                have e := nI0 c4 (by omega)
                exact ⟨hmc.1 e, Or.inr (Nat.succ_pos _), by show a.2.1 + 1 ≤ 5; omega⟩
              · rw [if_neg c4]
                have e : ¬ a.2.1 = 0 := fun q => c4 (by rw [q]; rfl)
                exact ⟨h1, Or.inr (h2.resolve_left e), hmc.2 e⟩) ?_ tps 0 (0, 0, ws, wl, wm) (by omega) ⟨Nat.zero_le _, Or.inl rfl, Nat.zero_le _⟩ ?_ ?_ _
  · intro i a9 hi hI Ko K
    obtain ⟨w1, sz1, ws1, wl1, wm1⟩ := a9
    intro y3
    have hI : rwI w1 sz1 := hI
    have hI1 := hI.1
    have hI3 := hI.2.2
    refine z_iload_n dX7_readWords_9 rfl rfl ?_
    refine z_aload_n dX7_readWords_10 rfl rfl ?_
    refine z_get dX7_readWords_11 rfl hiX7_readWords_X7 2 lkX7_readWords_129 (Nat.le_of_ble_eq_true rfl) rfl rfl (by decide) rfl ?_
    refine z_icmp_ge (tgt := 154) dX7_readWords_14 rfl (by decide) (fun c14 => ?_) (fun c14 => ?_)
    · exact absurd c14 (nI_ge hi (by omega))
    · refine z_aload_n dX7_readWords_17 rfl rfl ?_
      refine z_get dX7_readWords_18 rfl hiX7_readWords_X7 1 lkX7_readWords_7 (Nat.le_of_ble_eq_true rfl) rfl rfl (by decide) rfl ?_
      refine z_iload_n dX7_readWords_21 rfl rfl ?_
      refine z_ialdN (j := i) dX7_readWords_22 rfl (Nat.le_of_ble_eq_true rfl) h77 (rfl) (by omega) (by decide) ?_
      refine z_bipush (v := nI 97) dX7_readWords_23 rfl (by decide) ?_
      refine z_isub dX7_readWords_25 rfl ?_
      refine z_istore_3 dX7_readWords_26 rfl ?_
      refine z_aload_n dX7_readWords_27 rfl rfl ?_
      refine z_get dX7_readWords_28 rfl hiX7_readWords_X7 1 lkX7_readWords_7 (Nat.le_of_ble_eq_true rfl) rfl rfl (by decide) rfl ?_
      refine z_iload_n dX7_readWords_31 rfl rfl ?_
      refine z_ialdN (j := i) dX7_readWords_32 rfl (Nat.le_of_ble_eq_true rfl) h77 (rfl) (by omega) (by decide) ?_
      refine z_bipush (v := nI 32) dX7_readWords_33 rfl (by decide) ?_
      refine z_icmp_ne (tgt := 55) dX7_readWords_35 rfl (by decide) (fun c35 => ?_) (fun c35 => ?_)
      · refine z_iload_n dX7_readWords_55 rfl rfl ?_
        refine z_iconst (v := nI 0) dX7_readWords_56 rfl (by decide) ?_
        refine z_bipush (v := nI 9) dX7_readWords_57 rfl (by decide) ?_
        refine z_callSi (c_X7_isIn G ex _ ((tp i) - (nI 97)) (nI 0) (nI 9)) gX7_readWords_X7_isIn rfl dX7_readWords_59 rfl rfl okk_X7_isIn ⟨Nat.le_of_ble_eq_true rfl, Nat.le_of_ble_eq_true rfl⟩ ⟨Nat.le_of_ble_eq_true rfl, Nat.le_of_ble_eq_true rfl⟩ (Nat.le_of_ble_eq_true rfl) ?_
        refine z_if_eq (tgt := 74) dX7_readWords_62 rfl (by decide) (fun c62 => ?_) (fun c62 => ?_)
        · refine z_iload_n dX7_readWords_74 rfl rfl ?_
          exact z_ireturn dX7_readWords_75 rfl rfl (Nat.le_refl _) (Nat.le_refl _) (fun _ => rfl) (Ko (nI i, w1, ws1, wl1, wm1) (by simp only [X7_readWords_L9_B, if_neg c35, if_pos c62]))
        · refine z_aload_n dX7_readWords_65 rfl rfl ?_
          refine z_iload_n dX7_readWords_66 rfl rfl ?_
          refine z_iload_n dX7_readWords_67 rfl rfl ?_
          refine z_callVi (c_X7_mayCome G ex _ code tps pts lns w1 brs ors stp hasP fld laid told rws cms cmT cmS isN trs wm1 ((tp i) - (nI 97)) sz1 hI.2.1 (by omega) (by omega) rfl rfl) gX7_readWords_X7_mayCome rfl dX7_readWords_68 rfl rfl rfl okk_X7_mayCome (Nat.le_of_ble_eq_true rfl) rfl rfl ⟨Nat.le_of_ble_eq_true rfl, Nat.le_of_ble_eq_true rfl⟩ ⟨Nat.le_of_ble_eq_true rfl, Nat.le_of_ble_eq_true rfl⟩ (Nat.le_of_ble_eq_true rfl) ?_
          refine z_if_ne (tgt := 76) dX7_readWords_71 rfl (by decide) (fun c71 => ?_) (fun c71 => ?_)
          · have hmc := mayCome_ok c71 (by omega) (by omega)
            refine z_iload_n dX7_readWords_76 rfl rfl ?_
            refine z_if_ne (tgt := 100) dX7_readWords_77 rfl (by decide) (fun c77 => ?_) (fun c77 => ?_)
            · have hs5 : sz1 < 5 := hmc.2 (fun q => c77 (by rw [q]; rfl))
              have hw1 : 1 ≤ w1 := hI.2.1.resolve_left (fun q => c77 (by rw [q]; rfl))
              refine z_aload_n dX7_readWords_100 rfl rfl ?_
              refine z_get dX7_readWords_101 rfl hiX7_readWords_X7 12 lkX7_readWords_31 (Nat.le_of_ble_eq_true rfl) rfl rfl (by decide) rfl ?_
              refine z_iconst (v := nI 5) dX7_readWords_104 rfl (by decide) ?_
              refine z_aload_n dX7_readWords_105 rfl rfl ?_
              refine z_get dX7_readWords_106 rfl hiX7_readWords_X7 10 lkX7_readWords_132 (Nat.le_of_ble_eq_true rfl) rfl rfl (by decide) rfl ?_
              refine z_iconst (v := nI 1) dX7_readWords_109 rfl (by decide) ?_
              refine z_isub dX7_readWords_110 rfl ?_
              refine z_imul dX7_readWords_111 rfl ?_
              refine z_iload_n dX7_readWords_112 rfl rfl ?_
              refine z_iadd dX7_readWords_113 rfl ?_
              refine z_iload_n dX7_readWords_114 rfl rfl ?_
              refine z_iastN (j := (5 * (w1 - 1)) + sz1) dX7_readWords_115 rfl (Nat.le_of_ble_eq_true rfl) rfl ((zq_add (zq_mul rfl (zq_sub rfl rfl (by omega))) rfl)) (by omega) (by decide) ?_
              refine z_n (L' := [(76, (oMod G code (nI tps) (nI pts) (nI lns) (nI w1) (nI brs) (nI ors) stp hasP fld laid told (nI rws) cms (nI cmT) cmS isN (nI trs))), (83, (zI G 13 ws1)), (84, (zI G 65 (upd wl1 ((5 * (w1 - 1)) + sz1) ((tp i) - (nI 97))))), (85, (zI G 13 wm1))]) rfl ?_
              refine z_aload_n dX7_readWords_116 rfl rfl ?_
              refine z_get dX7_readWords_117 rfl hiX7_readWords_X7 13 lkX7_readWords_34 (Nat.le_of_ble_eq_true rfl) rfl rfl (by decide) rfl ?_
              refine z_aload_n dX7_readWords_120 rfl rfl ?_
              refine z_get dX7_readWords_121 rfl hiX7_readWords_X7 10 lkX7_readWords_132 (Nat.le_of_ble_eq_true rfl) rfl rfl (by decide) rfl ?_
              refine z_iconst (v := nI 1) dX7_readWords_124 rfl (by decide) ?_
              refine z_isub dX7_readWords_125 rfl ?_
              refine z_dup2 dX7_readWords_126 rfl rfl rfl ?_
              refine z_ialdN (j := w1 - 1) dX7_readWords_127 rfl (Nat.le_of_ble_eq_true rfl) rfl ((zq_sub rfl rfl (by omega))) (by omega) (by decide) ?_
              refine z_iconst (v := nI 1) dX7_readWords_128 rfl (by decide) ?_
              refine z_iload_n dX7_readWords_129 rfl rfl ?_
              refine z_ishl dX7_readWords_130 rfl ?_
              refine z_ior dX7_readWords_131 rfl ?_
              refine z_iastN (j := w1 - 1) dX7_readWords_132 rfl (Nat.le_of_ble_eq_true rfl) rfl ((zq_sub rfl rfl (by omega))) (by omega) (by decide) ?_
              refine z_n (L' := [(76, (oMod G code (nI tps) (nI pts) (nI lns) (nI w1) (nI brs) (nI ors) stp hasP fld laid told (nI rws) cms (nI cmT) cmS isN (nI trs))), (83, (zI G 13 ws1)), (84, (zI G 65 (upd wl1 ((5 * (w1 - 1)) + sz1) ((tp i) - (nI 97))))), (85, (zI G 13 (upd wm1 (w1 - 1) ((wm1 (w1 - 1)) ||| ((nI 1) <<< (((tp i) - (nI 97)) &&& 31))))))]) rfl ?_
              refine z_iinc_1 (v := nI (sz1 + 1)) dX7_readWords_133 rfl (zinc _) ?_
              refine z_aload_n dX7_readWords_136 rfl rfl ?_
              refine z_get dX7_readWords_137 rfl hiX7_readWords_X7 11 lkX7_readWords_28 (Nat.le_of_ble_eq_true rfl) rfl rfl (by decide) rfl ?_
              refine z_aload_n dX7_readWords_140 rfl rfl ?_
              refine z_get dX7_readWords_141 rfl hiX7_readWords_X7 10 lkX7_readWords_132 (Nat.le_of_ble_eq_true rfl) rfl rfl (by decide) rfl ?_
              refine z_iconst (v := nI 1) dX7_readWords_144 rfl (by decide) ?_
              refine z_isub dX7_readWords_145 rfl ?_
              refine z_iload_n dX7_readWords_146 rfl rfl ?_
              refine z_iastN (j := w1 - 1) dX7_readWords_147 rfl (Nat.le_of_ble_eq_true rfl) rfl ((zq_sub rfl rfl (by omega))) (by omega) (by decide) ?_
              refine z_n (L' := [(76, (oMod G code (nI tps) (nI pts) (nI lns) (nI w1) (nI brs) (nI ors) stp hasP fld laid told (nI rws) cms (nI cmT) cmS isN (nI trs))), (83, (zI G 13 (upd ws1 (w1 - 1) (nI (sz1 + 1))))), (84, (zI G 65 (upd wl1 ((5 * (w1 - 1)) + sz1) ((tp i) - (nI 97))))), (85, (zI G 13 (upd wm1 (w1 - 1) ((wm1 (w1 - 1)) ||| ((nI 1) <<< (((tp i) - (nI 97)) &&& 31))))))]) rfl ?_
              refine z_iinc_2 (v := nI (i + 1)) dX7_readWords_148 rfl (zinc _) ?_
              refine z_goto (tgt := 9) dX7_readWords_151 (by decide) ?_
              have K9 := (K (by simp only [X7_readWords_L9_B, if_neg c35, if_neg c62, if_neg c71, if_neg c77]))
              try simp only [X7_readWords_L9_F, if_neg c35, if_neg c62, if_neg c71, if_neg c77] at K9
              exact K9 _
            · have hs0 : sz1 = 0 := nI0 c77 (by omega)
              have hw12 := hmc.1 hs0
              refine z_aload_n dX7_readWords_80 rfl rfl ?_
              refine z_get dX7_readWords_81 rfl hiX7_readWords_X7 13 lkX7_readWords_34 (Nat.le_of_ble_eq_true rfl) rfl rfl (by decide) rfl ?_
              refine z_aload_n dX7_readWords_84 rfl rfl ?_
              refine z_get dX7_readWords_85 rfl hiX7_readWords_X7 10 lkX7_readWords_132 (Nat.le_of_ble_eq_true rfl) rfl rfl (by decide) rfl ?_
              refine z_iconst (v := nI 0) dX7_readWords_88 rfl (by decide) ?_
              refine z_iastN (j := w1) dX7_readWords_89 rfl (Nat.le_of_ble_eq_true rfl) rfl (rfl) (by omega) (by decide) ?_
              refine z_n (L' := [(76, (oMod G code (nI tps) (nI pts) (nI lns) (nI w1) (nI brs) (nI ors) stp hasP fld laid told (nI rws) cms (nI cmT) cmS isN (nI trs))), (83, (zI G 13 ws1)), (84, (zI G 65 wl1)), (85, (zI G 13 (upd wm1 w1 (nI 0))))]) rfl ?_
              refine z_aload_n dX7_readWords_90 rfl rfl ?_
              refine z_dup dX7_readWords_91 rfl rfl ?_
              refine z_get dX7_readWords_92 rfl hiX7_readWords_X7 10 lkX7_readWords_132 (Nat.le_of_ble_eq_true rfl) rfl rfl (by decide) rfl ?_
              refine z_iconst (v := nI 1) dX7_readWords_95 rfl (by decide) ?_
              refine z_iadd dX7_readWords_96 rfl ?_
              refine z_top (show (nI w1) + (nI 1) = nI (w1 + 1) from (zq_add rfl rfl)) ?_
              refine z_putN (e9 := (oMod G code (nI tps) (nI pts) (nI lns) (nI (w1 + 1)) (nI brs) (nI ors) stp hasP fld laid told (nI rws) cms (nI cmT) cmS isN (nI trs))) tyX7 tyX7_ok nmX7 dX7_readWords_97 rfl hiX7_readWords_X7 10 lkX7_readWords_132 rfl (by decide +kernel) (Nat.le_of_ble_eq_true rfl) rfl rfl (by decide) (Nat.le_of_ble_eq_true rfl) rfl rfl rfl ?_
              refine z_n (L' := [(76, (oMod G code (nI tps) (nI pts) (nI lns) (nI (w1 + 1)) (nI brs) (nI ors) stp hasP fld laid told (nI rws) cms (nI cmT) cmS isN (nI trs))), (83, (zI G 13 ws1)), (84, (zI G 65 wl1)), (85, (zI G 13 (upd wm1 w1 (nI 0))))]) rfl ?_
              refine z_aload_n dX7_readWords_100 rfl rfl ?_
              refine z_get dX7_readWords_101 rfl hiX7_readWords_X7 12 lkX7_readWords_31 (Nat.le_of_ble_eq_true rfl) rfl rfl (by decide) rfl ?_
              refine z_iconst (v := nI 5) dX7_readWords_104 rfl (by decide) ?_
              refine z_aload_n dX7_readWords_105 rfl rfl ?_
              refine z_get dX7_readWords_106 rfl hiX7_readWords_X7 10 lkX7_readWords_132 (Nat.le_of_ble_eq_true rfl) rfl rfl (by decide) rfl ?_
              refine z_iconst (v := nI 1) dX7_readWords_109 rfl (by decide) ?_
              refine z_isub dX7_readWords_110 rfl ?_
              refine z_imul dX7_readWords_111 rfl ?_
              refine z_iload_n dX7_readWords_112 rfl rfl ?_
              refine z_iadd dX7_readWords_113 rfl ?_
              refine z_iload_n dX7_readWords_114 rfl rfl ?_
              refine z_iastN (j := (5 * ((w1 + 1) - 1)) + sz1) dX7_readWords_115 rfl (Nat.le_of_ble_eq_true rfl) rfl ((zq_add (zq_mul rfl (zq_sub rfl rfl (by omega))) rfl)) (by omega) (by decide) ?_
              refine z_n (L' := [(76, (oMod G code (nI tps) (nI pts) (nI lns) (nI (w1 + 1)) (nI brs) (nI ors) stp hasP fld laid told (nI rws) cms (nI cmT) cmS isN (nI trs))), (83, (zI G 13 ws1)), (84, (zI G 65 (upd wl1 ((5 * ((w1 + 1) - 1)) + sz1) ((tp i) - (nI 97))))), (85, (zI G 13 (upd wm1 w1 (nI 0))))]) rfl ?_
              refine z_aload_n dX7_readWords_116 rfl rfl ?_
              refine z_get dX7_readWords_117 rfl hiX7_readWords_X7 13 lkX7_readWords_34 (Nat.le_of_ble_eq_true rfl) rfl rfl (by decide) rfl ?_
              refine z_aload_n dX7_readWords_120 rfl rfl ?_
              refine z_get dX7_readWords_121 rfl hiX7_readWords_X7 10 lkX7_readWords_132 (Nat.le_of_ble_eq_true rfl) rfl rfl (by decide) rfl ?_
              refine z_iconst (v := nI 1) dX7_readWords_124 rfl (by decide) ?_
              refine z_isub dX7_readWords_125 rfl ?_
              refine z_dup2 dX7_readWords_126 rfl rfl rfl ?_
              refine z_ialdN (j := (w1 + 1) - 1) dX7_readWords_127 rfl (Nat.le_of_ble_eq_true rfl) rfl ((zq_sub rfl rfl (by omega))) (by omega) (by decide) ?_
              refine z_iconst (v := nI 1) dX7_readWords_128 rfl (by decide) ?_
              refine z_iload_n dX7_readWords_129 rfl rfl ?_
              refine z_ishl dX7_readWords_130 rfl ?_
              refine z_ior dX7_readWords_131 rfl ?_
              refine z_iastN (j := (w1 + 1) - 1) dX7_readWords_132 rfl (Nat.le_of_ble_eq_true rfl) rfl ((zq_sub rfl rfl (by omega))) (by omega) (by decide) ?_
              refine z_n (L' := [(76, (oMod G code (nI tps) (nI pts) (nI lns) (nI (w1 + 1)) (nI brs) (nI ors) stp hasP fld laid told (nI rws) cms (nI cmT) cmS isN (nI trs))), (83, (zI G 13 ws1)), (84, (zI G 65 (upd wl1 ((5 * ((w1 + 1) - 1)) + sz1) ((tp i) - (nI 97))))), (85, (zI G 13 (upd (upd wm1 w1 (nI 0)) ((w1 + 1) - 1) (((upd wm1 w1 (nI 0)) ((w1 + 1) - 1)) ||| ((nI 1) <<< (((tp i) - (nI 97)) &&& 31))))))]) rfl ?_
              refine z_iinc_1 (v := nI (sz1 + 1)) dX7_readWords_133 rfl (zinc _) ?_
              refine z_aload_n dX7_readWords_136 rfl rfl ?_
              refine z_get dX7_readWords_137 rfl hiX7_readWords_X7 11 lkX7_readWords_28 (Nat.le_of_ble_eq_true rfl) rfl rfl (by decide) rfl ?_
              refine z_aload_n dX7_readWords_140 rfl rfl ?_
              refine z_get dX7_readWords_141 rfl hiX7_readWords_X7 10 lkX7_readWords_132 (Nat.le_of_ble_eq_true rfl) rfl rfl (by decide) rfl ?_
              refine z_iconst (v := nI 1) dX7_readWords_144 rfl (by decide) ?_
              refine z_isub dX7_readWords_145 rfl ?_
              refine z_iload_n dX7_readWords_146 rfl rfl ?_
              refine z_iastN (j := (w1 + 1) - 1) dX7_readWords_147 rfl (Nat.le_of_ble_eq_true rfl) rfl ((zq_sub rfl rfl (by omega))) (by omega) (by decide) ?_
              refine z_n (L' := [(76, (oMod G code (nI tps) (nI pts) (nI lns) (nI (w1 + 1)) (nI brs) (nI ors) stp hasP fld laid told (nI rws) cms (nI cmT) cmS isN (nI trs))), (83, (zI G 13 (upd ws1 ((w1 + 1) - 1) (nI (sz1 + 1))))), (84, (zI G 65 (upd wl1 ((5 * ((w1 + 1) - 1)) + sz1) ((tp i) - (nI 97))))), (85, (zI G 13 (upd (upd wm1 w1 (nI 0)) ((w1 + 1) - 1) (((upd wm1 w1 (nI 0)) ((w1 + 1) - 1)) ||| ((nI 1) <<< (((tp i) - (nI 97)) &&& 31))))))]) rfl ?_
              refine z_iinc_2 (v := nI (i + 1)) dX7_readWords_148 rfl (zinc _) ?_
              refine z_goto (tgt := 9) dX7_readWords_151 (by decide) ?_
              have K9 := (K (by simp only [X7_readWords_L9_B, if_neg c35, if_neg c62, if_neg c71, if_pos c77]))
              try simp only [X7_readWords_L9_F, if_neg c35, if_neg c62, if_neg c71, if_pos c77] at K9
              exact K9 _
          · refine z_iload_n dX7_readWords_74 rfl rfl ?_
            exact z_ireturn dX7_readWords_75 rfl rfl (Nat.le_refl _) (Nat.le_refl _) (fun _ => rfl) (Ko (nI i, w1, ws1, wl1, wm1) (by simp only [X7_readWords_L9_B, if_neg c35, if_neg c62, if_pos c71]))
      · refine z_iload_n dX7_readWords_38 rfl rfl ?_
        refine z_iconst (v := nI 1) dX7_readWords_39 rfl (by decide) ?_
        refine z_icmp_eq (tgt := 48) dX7_readWords_40 rfl (by decide) (fun c40 => ?_) (fun c40 => ?_)
        · refine z_iload_n dX7_readWords_48 rfl rfl ?_
          exact z_ireturn dX7_readWords_49 rfl rfl (Nat.le_refl _) (Nat.le_refl _) (fun _ => rfl) (Ko (nI i, w1, ws1, wl1, wm1) (by simp only [X7_readWords_L9_B, if_pos c35, if_pos c40]))
        · refine z_iload_n dX7_readWords_43 rfl rfl ?_
          refine z_iconst (v := nI 2) dX7_readWords_44 rfl (by decide) ?_
          refine z_icmp_ne (tgt := 50) dX7_readWords_45 rfl (by decide) (fun c45 => ?_) (fun c45 => ?_)
          · refine z_iconst (v := nI 0) dX7_readWords_50 rfl (by decide) ?_
            refine z_istore_1 dX7_readWords_51 rfl ?_
            refine z_goto (tgt := 148) dX7_readWords_52 (by decide) ?_
            refine z_iinc_2 (v := nI (i + 1)) dX7_readWords_148 rfl (zinc _) ?_
            refine z_goto (tgt := 9) dX7_readWords_151 (by decide) ?_
            have K9 := (K (by simp only [X7_readWords_L9_B, if_pos c35, if_neg c40, if_neg c45]))
            try simp only [X7_readWords_L9_F, if_pos c35, if_neg c40, if_neg c45] at K9
            exact K9 _
          · refine z_iload_n dX7_readWords_48 rfl rfl ?_
            exact z_ireturn dX7_readWords_49 rfl rfl (Nat.le_refl _) (Nat.le_refl _) (fun _ => rfl) (Ko (nI i, w1, ws1, wl1, wm1) (by simp only [X7_readWords_L9_B, if_pos c35, if_neg c40, if_pos c45]))
  · intro b a9 hz9
    exact ⟨by simp only [X7_readWords_v, hz9, zpick_s], by simp only [X7_readWords_p76_4, X7_readWords_c83, X7_readWords_c84, X7_readWords_c85, hz9, zpick_s]⟩
  · intro a9 hz9 hI
    obtain ⟨w1, sz1, ws1, wl1, wm1⟩ := a9
    intro y3
    have hI : rwI w1 sz1 := hI
    refine z_iload_n dX7_readWords_9 rfl rfl ?_
    refine z_aload_n dX7_readWords_10 rfl rfl ?_
    refine z_get dX7_readWords_11 rfl hiX7_readWords_X7 2 lkX7_readWords_129 (Nat.le_of_ble_eq_true rfl) rfl rfl (by decide) rfl ?_
    refine z_icmp_ge (tgt := 154) dX7_readWords_14 rfl (by decide) (fun c14 => ?_) (fun c14 => ?_)
    · refine z_iload_n dX7_readWords_154 rfl rfl ?_
      refine z_iconst (v := nI 1) dX7_readWords_155 rfl (by decide) ?_
      refine z_icmp_eq (tgt := 171) dX7_readWords_156 rfl (by decide) (fun c156 => ?_) (fun c156 => ?_)
      · refine z_aload_n dX7_readWords_171 rfl rfl ?_
        refine z_get dX7_readWords_172 rfl hiX7_readWords_X7 2 lkX7_readWords_129 (Nat.le_of_ble_eq_true rfl) rfl rfl (by decide) rfl ?_
        refine z_goto (tgt := 180) dX7_readWords_175 (by decide) ?_
        exact z_ireturn dX7_readWords_180 rfl rfl (Nat.le_refl _) (Nat.le_refl _) (fun _ => rfl) ⟨by simp only [X7_readWords_v, hz9, zpick_n, if_pos c156], by simp only [X7_readWords_p76_4, X7_readWords_c83, X7_readWords_c84, X7_readWords_c85, hz9, zpick_n, if_pos c156]⟩
      · refine z_iload_n dX7_readWords_159 rfl rfl ?_
        refine z_iconst (v := nI 2) dX7_readWords_160 rfl (by decide) ?_
        refine z_icmp_eq (tgt := 171) dX7_readWords_161 rfl (by decide) (fun c161 => ?_) (fun c161 => ?_)
        · refine z_aload_n dX7_readWords_171 rfl rfl ?_
          refine z_get dX7_readWords_172 rfl hiX7_readWords_X7 2 lkX7_readWords_129 (Nat.le_of_ble_eq_true rfl) rfl rfl (by decide) rfl ?_
          refine z_goto (tgt := 180) dX7_readWords_175 (by decide) ?_
          exact z_ireturn dX7_readWords_180 rfl rfl (Nat.le_refl _) (Nat.le_refl _) (fun _ => rfl) ⟨by simp only [X7_readWords_v, hz9, zpick_n, if_neg c156, if_pos c161], by simp only [X7_readWords_p76_4, X7_readWords_c83, X7_readWords_c84, X7_readWords_c85, hz9, zpick_n, if_neg c156, if_pos c161]⟩
        · refine z_aload_n dX7_readWords_164 rfl rfl ?_
          refine z_get dX7_readWords_165 rfl hiX7_readWords_X7 10 lkX7_readWords_132 (Nat.le_of_ble_eq_true rfl) rfl rfl (by decide) rfl ?_
          refine z_if_ne (tgt := 178) dX7_readWords_168 rfl (by decide) (fun c168 => ?_) (fun c168 => ?_)
          · refine z_bipush (v := (-4)) dX7_readWords_178 rfl (by decide) ?_
            exact z_ireturn dX7_readWords_180 rfl rfl (Nat.le_refl _) (Nat.le_refl _) (fun _ => rfl) ⟨by simp only [X7_readWords_v, hz9, zpick_n, if_neg c156, if_neg c161, if_neg c168], by simp only [X7_readWords_p76_4, X7_readWords_c83, X7_readWords_c84, X7_readWords_c85, hz9, zpick_n, if_neg c156, if_neg c161, if_neg c168]⟩
          · refine z_aload_n dX7_readWords_171 rfl rfl ?_
            refine z_get dX7_readWords_172 rfl hiX7_readWords_X7 2 lkX7_readWords_129 (Nat.le_of_ble_eq_true rfl) rfl rfl (by decide) rfl ?_
            refine z_goto (tgt := 180) dX7_readWords_175 (by decide) ?_
            exact z_ireturn dX7_readWords_180 rfl rfl (Nat.le_refl _) (Nat.le_refl _) (fun _ => rfl) ⟨by simp only [X7_readWords_v, hz9, zpick_n, if_neg c156, if_neg c161, if_pos c168], by simp only [X7_readWords_p76_4, X7_readWords_c83, X7_readWords_c84, X7_readWords_c85, hz9, zpick_n, if_neg c156, if_neg c161, if_pos c168]⟩
    · exact absurd (nI_le (Nat.le_refl _) (by omega)) c14
theorem zge9 {x : Int32} (h : ¬ x < 0) : x = nI x.toNatClampNeg := zvin (n := 2147483648) (fun q => q.elim h (fun z => by have := Int32.toNatClampNeg_lt x; omega))
theorem isIn_in {v : Int32} {n : Nat} (h : ¬ X7_isIn_v v (nI 0) (nI n - nI 1) = 0) (hn : n < 2147483648) : vp_in v n := by
  unfold X7_isIn_v at h
  repeat' split at h
  all_goals first | exact absurd rfl h | skip
  rename_i c1 c2
  rcases Nat.eq_zero_or_pos n with q | q
  · subst q
    exact absurd (Int32.lt_of_lt_of_le (by decide) (Int32.not_lt.mp c1)) c2
  · rw [pk_sub q] at c2
    intro z
    rcases z with z | z
    · exact c1 z
    · refine c2 ?_
      rw [zge9 c1]
      exact nI_lt (by omega) (by have := Int32.toNatClampNeg_lt v; omega)
theorem isIn_k {v : Int32} {n : Nat} (h : ¬ X7_isIn_v v (nI 0) (nI n) = 0) (hn : n < 2147483647) : vp_in v (n + 1) := by
  unfold X7_isIn_v at h
  repeat' split at h
  all_goals first | exact absurd rfl h | skip
  rename_i c1 c2
  intro z
  rcases z with z | z
  · exact c1 z
  · refine c2 ?_
    rw [zge9 c1]
    exact nI_lt (by omega) (by have := Int32.toNatClampNeg_lt v; omega)
/-- points and letters while they are named -/
def rdI (p : Nat) (po lo : Nat → Int32) : Prop := p ≤ 10 ∧ ∀ j, j < p → ∃ k, k < 10 ∧ lo j = nI (k + 97) ∧ po k = nI j
theorem nI_inj9 {a b : Nat} (ha : a < 2147483648) (hb : b < 2147483648) (h : nI a = nI b) : a = b := by
  have := congrArg Int32.toNatClampNeg h
  rwa [nI_clamp ha, nI_clamp hb] at this
theorem rdI_room {p k : Nat} {po lo : Nat → Int32} (h : rdI p po lo) (hk : k < 10) (h4 : po k = -4) : p < 10 := by
  have e := pig 10 (p + 1) (fun j => if j = p then k else (lo j).toNatClampNeg - 97) (fun j hj => by
    show (if j = p then k else (lo j).toNatClampNeg - 97) < 10
    split
    · exact hk
    · obtain ⟨q, h1, h2, h3⟩ := h.2 j (by omega)
      rw [h2, nI_clamp (by omega)]
      omega) (fun i j hi hj hij => by
    have hp10 := h.1
    have hij : (if i = p then k else (lo i).toNatClampNeg - 97) = (if j = p then k else (lo j).toNatClampNeg - 97) := hij
    have key : ∀ j, j < p → ∀ q, q = (lo j).toNatClampNeg - 97 → po q = nI j := fun j hj q hq => by
      obtain ⟨w, h1, h2, h3⟩ := h.2 j hj
      rw [h2, nI_clamp (by omega), Nat.add_sub_cancel] at hq
      rw [hq]; exact h3
    have ne : ∀ j, j < p → ¬ (-4 : Int32) = nI j := fun j hj q => by
      have a := h.1
      rcases (show j = 0 ∨ j = 1 ∨ j = 2 ∨ j = 3 ∨ j = 4 ∨ j = 5 ∨ j = 6 ∨ j = 7 ∨ j = 8 ∨ j = 9 by omega) with rfl | rfl | rfl | rfl | rfl | rfl | rfl | rfl | rfl | rfl <;> exact absurd q (by decide)
    split at hij <;> split at hij
    · omega
    · exact absurd (h4.symm.trans (key j (by omega) k hij)) (ne j (by omega))
    · exact absurd (h4.symm.trans (key i (by omega) k hij.symm)) (ne i (by omega))
    · have a := key i (by omega) _ rfl
      rw [hij] at a
      exact nI_inj9 (by omega) (by omega) (a.symm.trans (key j (by omega) _ rfl)))
  omega
theorem rdI_s {p k : Nat} {po lo : Nat → Int32} (h : rdI p po lo) (hk : k < 10) (h4 : po k = -4) : rdI (p + 1) (upd po k (nI p)) (upd lo p (nI (k + 97))) := by
  have hp := rdI_room h hk h4
  refine ⟨hp, fun j hj => ?_⟩
  by_cases e : j = p
  · subst e
    exact ⟨k, hk, by simp [upd], by simp [upd]⟩
  · obtain ⟨q, h1, h2, h3⟩ := h.2 j (by omega)
    have ne : ¬ q = k := fun z => by
      rw [z, h4] at h3
      rcases (show j = 0 ∨ j = 1 ∨ j = 2 ∨ j = 3 ∨ j = 4 ∨ j = 5 ∨ j = 6 ∨ j = 7 ∨ j = 8 ∨ j = 9 by omega) with rfl | rfl | rfl | rfl | rfl | rfl | rfl | rfl | rfl | rfl <;> exact absurd h3 (by decide)
    exact ⟨q, h1, by simp [upd, e, h2], by simp [upd, ne, h3]⟩
abbrev mX7_read : zM := (cX7_read, 6, (some .int), RX7, wsX7_read, "read")
theorem hiX7_read_X7 : ∀ w ∈ wsX70, w ∈ wsX7_read := fun w h => List.mem_cons_of_mem _ (List.mem_append_right _ h)
theorem lkX7_read_122 : Cond.fieldLink RX7 122 "ConfigSearchModel" "code" "I" ∈ wsX7_read := by decide +kernel
theorem okk_X7_readWords : zOk yX7_readWords 0 := by unfold zOk; decide +kernel
theorem lkX7_read_129 : Cond.fieldLink RX7 129 "ConfigSearchModel" "tapeSize" "I" ∈ wsX7_read := by decide +kernel
theorem lkX7_read_143 : Cond.fieldLink RX7 143 "ConfigSearchModel" "points" "I" ∈ wsX7_read := by decide +kernel
theorem lkX7_read_132 : Cond.fieldLink RX7 132 "ConfigSearchModel" "words" "I" ∈ wsX7_read := by decide +kernel
theorem lkX7_read_146 : Cond.fieldLink RX7 146 "ConfigSearchModel" "lines" "I" ∈ wsX7_read := by decide +kernel
theorem lkX7_read_16 : Cond.fieldLink RX7 16 "ConfigSearchModel" "pointOf" "[I" ∈ wsX7_read := by decide +kernel
theorem lkX7_read_19 : Cond.fieldLink RX7 19 "ConfigSearchModel" "lineSize" "[I" ∈ wsX7_read := by decide +kernel
theorem lkX7_read_28 : Cond.fieldLink RX7 28 "ConfigSearchModel" "wordSize" "[I" ∈ wsX7_read := by decide +kernel
theorem lkX7_read_25 : Cond.fieldLink RX7 25 "ConfigSearchModel" "lineMask" "[I" ∈ wsX7_read := by decide +kernel
theorem lkX7_read_31 : Cond.fieldLink RX7 31 "ConfigSearchModel" "wordLetter" "[I" ∈ wsX7_read := by decide +kernel
theorem lkX7_read_22 : Cond.fieldLink RX7 22 "ConfigSearchModel" "linePoint" "[I" ∈ wsX7_read := by decide +kernel
theorem lkX7_read_13 : Cond.fieldLink RX7 13 "ConfigSearchModel" "letterOf" "[I" ∈ wsX7_read := by decide +kernel
theorem lkX7_read_149 : Cond.fieldLink RX7 149 "ConfigSearchModel" "bars" "I" ∈ wsX7_read := by decide +kernel
theorem lkX7_read_152 : Cond.fieldLink RX7 152 "ConfigSearchModel" "orients" "I" ∈ wsX7_read := by decide +kernel
theorem lkX7_read_155 : Cond.fieldLink RX7 155 "ConfigSearchModel" "rows" "I" ∈ wsX7_read := by decide +kernel
theorem lkX7_read_158 : Cond.fieldLink RX7 158 "ConfigSearchModel" "hasPicture" "Z" ∈ wsX7_read := by decide +kernel
theorem lkX7_read_162 : Cond.fieldLink RX7 162 "ConfigSearchModel" "isNamed" "Z" ∈ wsX7_read := by decide +kernel
theorem lkX7_read_165 : Cond.fieldLink RX7 165 "ConfigSearchModel" "steps" "I" ∈ wsX7_read := by decide +kernel
theorem lkX7_read_119 : Cond.fieldLink RX7 119 "ConfigSearchModel" "told" "I" ∈ wsX7_read := by decide +kernel
def X7_read_L41_F (k : Nat) (a9 : (Nat → Int32)) : (Nat → Int32) := upd a9 k (-4)
def X7_read_L95_F (tps : Nat) (pts : Nat) (lns : Nat) (brs : Nat) (ors : Nat) (stp : Int32) (hasP : Int32) (fld : Int32) (laid : Int32) (told : Int32) (rws : Nat) (cms : Int32) (cmT : Nat) (cmS : Int32) (isN : Int32) (trs : Nat) (tp : Nat → Int32) (ws : Nat → Int32) (wl : Nat → Int32) (wm : Nat → Int32) (w : Nat) (i : Nat) (a9 : (Nat) × (Nat) × (Nat → Int32) × (Nat → Int32) × (Nat → Int32) × (Nat → Int32) × (Nat → Int32)) : (Nat) × (Nat) × (Nat → Int32) × (Nat → Int32) × (Nat → Int32) × (Nat → Int32) × (Nat → Int32) := if (a9.2.2.2.1 (((X7_readWords_c84 (nI 0) tps pts lns brs ors stp hasP fld laid told rws cms cmT cmS isN trs tp ws wl wm) ((5 * w) + i)).toNatClampNeg)) = (-4) then (a9.1 + 1, a9.2.1 + 1, upd a9.2.2.1 a9.1 (nI ((((X7_readWords_c84 (nI 0) tps pts lns brs ors stp hasP fld laid told rws cms cmT cmS isN trs tp ws wl wm) ((5 * w) + i)).toNatClampNeg) + 97)), upd a9.2.2.2.1 (((X7_readWords_c84 (nI 0) tps pts lns brs ors stp hasP fld laid told rws cms cmT cmS isN trs tp ws wl wm) ((5 * w) + i)).toNatClampNeg) (nI a9.1), a9.2.2.2.2.1, upd a9.2.2.2.2.2.1 ((5 * w) + i) ((upd a9.2.2.2.1 (((X7_readWords_c84 (nI 0) tps pts lns brs ors stp hasP fld laid told rws cms cmT cmS isN trs tp ws wl wm) ((5 * w) + i)).toNatClampNeg) (nI a9.1)) (((X7_readWords_c84 (nI 0) tps pts lns brs ors stp hasP fld laid told rws cms cmT cmS isN trs tp ws wl wm) ((5 * w) + i)).toNatClampNeg)), upd a9.2.2.2.2.2.2 w ((a9.2.2.2.2.2.2 w) ||| ((nI 1) <<< (((upd a9.2.2.2.1 (((X7_readWords_c84 (nI 0) tps pts lns brs ors stp hasP fld laid told rws cms cmT cmS isN trs tp ws wl wm) ((5 * w) + i)).toNatClampNeg) (nI a9.1)) (((X7_readWords_c84 (nI 0) tps pts lns brs ors stp hasP fld laid told rws cms cmT cmS isN trs tp ws wl wm) ((5 * w) + i)).toNatClampNeg)) &&& 31)))) else (a9.1, a9.2.1 + 1, a9.2.2.1, a9.2.2.2.1, a9.2.2.2.2.1, upd a9.2.2.2.2.2.1 ((5 * w) + i) (a9.2.2.2.1 (((X7_readWords_c84 (nI 0) tps pts lns brs ors stp hasP fld laid told rws cms cmT cmS isN trs tp ws wl wm) ((5 * w) + i)).toNatClampNeg)), upd a9.2.2.2.2.2.2 w ((a9.2.2.2.2.2.2 w) ||| ((nI 1) <<< ((a9.2.2.2.1 (((X7_readWords_c84 (nI 0) tps pts lns brs ors stp hasP fld laid told rws cms cmT cmS isN trs tp ws wl wm) ((5 * w) + i)).toNatClampNeg)) &&& 31))))
def X7_read_L65_F (tps : Nat) (pts : Nat) (lns : Nat) (brs : Nat) (ors : Nat) (stp : Int32) (hasP : Int32) (fld : Int32) (laid : Int32) (told : Int32) (rws : Nat) (cms : Int32) (cmT : Nat) (cmS : Int32) (isN : Int32) (trs : Nat) (tp : Nat → Int32) (ws : Nat → Int32) (wl : Nat → Int32) (wm : Nat → Int32) (w : Nat) (a9 : (Nat) × (Nat) × (Nat → Int32) × (Nat → Int32) × (Nat → Int32) × (Nat → Int32) × (Nat → Int32)) : (Nat) × (Nat) × (Nat → Int32) × (Nat → Int32) × (Nat → Int32) × (Nat → Int32) × (Nat → Int32) := ((zfold (X7_read_L95_F tps pts lns brs ors stp hasP fld laid told rws cms cmT cmS isN trs tp ws wl wm w) (((X7_readWords_c83 (nI 0) tps pts lns brs ors stp hasP fld laid told rws cms cmT cmS isN trs tp ws wl wm) w).toNatClampNeg) 0 (a9.1, a9.2.1, a9.2.2.1, a9.2.2.2.1, upd a9.2.2.2.2.1 w ((X7_readWords_c83 (nI 0) tps pts lns brs ors stp hasP fld laid told rws cms cmT cmS isN trs tp ws wl wm) w), a9.2.2.2.2.2.1, upd a9.2.2.2.2.2.2 w (nI 0))).1, (zfold (X7_read_L95_F tps pts lns brs ors stp hasP fld laid told rws cms cmT cmS isN trs tp ws wl wm w) (((X7_readWords_c83 (nI 0) tps pts lns brs ors stp hasP fld laid told rws cms cmT cmS isN trs tp ws wl wm) w).toNatClampNeg) 0 (a9.1, a9.2.1, a9.2.2.1, a9.2.2.2.1, upd a9.2.2.2.2.1 w ((X7_readWords_c83 (nI 0) tps pts lns brs ors stp hasP fld laid told rws cms cmT cmS isN trs tp ws wl wm) w), a9.2.2.2.2.2.1, upd a9.2.2.2.2.2.2 w (nI 0))).2.1, (zfold (X7_read_L95_F tps pts lns brs ors stp hasP fld laid told rws cms cmT cmS isN trs tp ws wl wm w) (((X7_readWords_c83 (nI 0) tps pts lns brs ors stp hasP fld laid told rws cms cmT cmS isN trs tp ws wl wm) w).toNatClampNeg) 0 (a9.1, a9.2.1, a9.2.2.1, a9.2.2.2.1, upd a9.2.2.2.2.1 w ((X7_readWords_c83 (nI 0) tps pts lns brs ors stp hasP fld laid told rws cms cmT cmS isN trs tp ws wl wm) w), a9.2.2.2.2.2.1, upd a9.2.2.2.2.2.2 w (nI 0))).2.2.1, (zfold (X7_read_L95_F tps pts lns brs ors stp hasP fld laid told rws cms cmT cmS isN trs tp ws wl wm w) (((X7_readWords_c83 (nI 0) tps pts lns brs ors stp hasP fld laid told rws cms cmT cmS isN trs tp ws wl wm) w).toNatClampNeg) 0 (a9.1, a9.2.1, a9.2.2.1, a9.2.2.2.1, upd a9.2.2.2.2.1 w ((X7_readWords_c83 (nI 0) tps pts lns brs ors stp hasP fld laid told rws cms cmT cmS isN trs tp ws wl wm) w), a9.2.2.2.2.2.1, upd a9.2.2.2.2.2.2 w (nI 0))).2.2.2.1, (zfold (X7_read_L95_F tps pts lns brs ors stp hasP fld laid told rws cms cmT cmS isN trs tp ws wl wm w) (((X7_readWords_c83 (nI 0) tps pts lns brs ors stp hasP fld laid told rws cms cmT cmS isN trs tp ws wl wm) w).toNatClampNeg) 0 (a9.1, a9.2.1, a9.2.2.1, a9.2.2.2.1, upd a9.2.2.2.2.1 w ((X7_readWords_c83 (nI 0) tps pts lns brs ors stp hasP fld laid told rws cms cmT cmS isN trs tp ws wl wm) w), a9.2.2.2.2.2.1, upd a9.2.2.2.2.2.2 w (nI 0))).2.2.2.2.1, (zfold (X7_read_L95_F tps pts lns brs ors stp hasP fld laid told rws cms cmT cmS isN trs tp ws wl wm w) (((X7_readWords_c83 (nI 0) tps pts lns brs ors stp hasP fld laid told rws cms cmT cmS isN trs tp ws wl wm) w).toNatClampNeg) 0 (a9.1, a9.2.1, a9.2.2.1, a9.2.2.2.1, upd a9.2.2.2.2.1 w ((X7_readWords_c83 (nI 0) tps pts lns brs ors stp hasP fld laid told rws cms cmT cmS isN trs tp ws wl wm) w), a9.2.2.2.2.2.1, upd a9.2.2.2.2.2.2 w (nI 0))).2.2.2.2.2.1, (zfold (X7_read_L95_F tps pts lns brs ors stp hasP fld laid told rws cms cmT cmS isN trs tp ws wl wm w) (((X7_readWords_c83 (nI 0) tps pts lns brs ors stp hasP fld laid told rws cms cmT cmS isN trs tp ws wl wm) w).toNatClampNeg) 0 (a9.1, a9.2.1, a9.2.2.1, a9.2.2.2.1, upd a9.2.2.2.2.1 w ((X7_readWords_c83 (nI 0) tps pts lns brs ors stp hasP fld laid told rws cms cmT cmS isN trs tp ws wl wm) w), a9.2.2.2.2.2.1, upd a9.2.2.2.2.2.2 w (nI 0))).2.2.2.2.2.2)
def X7_read_v (tps pts lns brs ors : Nat) (stp hasP fld laid told : Int32) (rws : Nat) (cms : Int32) (cmT : Nat) (cmS isN : Int32) (trs : Nat) (tp : Nat → Int32) (ws wl wm : Nat → Int32) (lo pof ls lp lm : Nat → Int32) : Int32 := if (X7_readWords_v (nI 0) tps pts lns brs ors stp hasP fld laid told rws cms cmT cmS isN trs tp ws wl wm) = (-4) then (nI ((zfold (X7_read_L65_F tps pts lns brs ors stp hasP fld laid told rws cms cmT cmS isN trs tp ws wl wm) (X7_readWords_p76_4 (nI 0) tps pts lns brs ors stp hasP fld laid told rws cms cmT cmS isN trs tp ws wl wm) 0 (0, 0, lo, (zfold (X7_read_L41_F) 10 0 pof), ls, lp, lm)).2.1)) else ((-10) - (X7_readWords_v (nI 0) tps pts lns brs ors stp hasP fld laid told rws cms cmT cmS isN trs tp ws wl wm))
def X7_read_p76_0 (tps pts lns brs ors : Nat) (stp hasP fld laid told : Int32) (rws : Nat) (cms : Int32) (cmT : Nat) (cmS isN : Int32) (trs : Nat) (tp : Nat → Int32) (ws wl wm : Nat → Int32) : Nat := if (X7_readWords_v (nI 0) tps pts lns brs ors stp hasP fld laid told rws cms cmT cmS isN trs tp ws wl wm) = (-4) then 0 else 0
def X7_read_p76_1 (tps pts lns brs ors : Nat) (stp hasP fld laid told : Int32) (rws : Nat) (cms : Int32) (cmT : Nat) (cmS isN : Int32) (trs : Nat) (tp : Nat → Int32) (ws wl wm : Nat → Int32) : Nat := if (X7_readWords_v (nI 0) tps pts lns brs ors stp hasP fld laid told rws cms cmT cmS isN trs tp ws wl wm) = (-4) then 0 else 0
def X7_read_p76_2 (tps pts lns brs ors : Nat) (stp hasP fld laid told : Int32) (rws : Nat) (cms : Int32) (cmT : Nat) (cmS isN : Int32) (trs : Nat) (tp : Nat → Int32) (ws wl wm : Nat → Int32) (lo pof ls lp lm : Nat → Int32) : Nat := if (X7_readWords_v (nI 0) tps pts lns brs ors stp hasP fld laid told rws cms cmT cmS isN trs tp ws wl wm) = (-4) then ((zfold (X7_read_L65_F tps pts lns brs ors stp hasP fld laid told rws cms cmT cmS isN trs tp ws wl wm) (X7_readWords_p76_4 (nI 0) tps pts lns brs ors stp hasP fld laid told rws cms cmT cmS isN trs tp ws wl wm) 0 (0, 0, lo, (zfold (X7_read_L41_F) 10 0 pof), ls, lp, lm)).1) else pts
def X7_read_p76_3 (tps pts lns brs ors : Nat) (stp hasP fld laid told : Int32) (rws : Nat) (cms : Int32) (cmT : Nat) (cmS isN : Int32) (trs : Nat) (tp : Nat → Int32) (ws wl wm : Nat → Int32) : Nat := if (X7_readWords_v (nI 0) tps pts lns brs ors stp hasP fld laid told rws cms cmT cmS isN trs tp ws wl wm) = (-4) then (X7_readWords_p76_4 (nI 0) tps pts lns brs ors stp hasP fld laid told rws cms cmT cmS isN trs tp ws wl wm) else lns
def X7_read_p76_4 (tps pts lns brs ors : Nat) (stp hasP fld laid told : Int32) (rws : Nat) (cms : Int32) (cmT : Nat) (cmS isN : Int32) (trs : Nat) (tp : Nat → Int32) (ws wl wm : Nat → Int32) : Nat := if (X7_readWords_v (nI 0) tps pts lns brs ors stp hasP fld laid told rws cms cmT cmS isN trs tp ws wl wm) = (-4) then (X7_readWords_p76_4 (nI 0) tps pts lns brs ors stp hasP fld laid told rws cms cmT cmS isN trs tp ws wl wm) else (X7_readWords_p76_4 (nI 0) tps pts lns brs ors stp hasP fld laid told rws cms cmT cmS isN trs tp ws wl wm)
def X7_read_p76_5 (tps pts lns brs ors : Nat) (stp hasP fld laid told : Int32) (rws : Nat) (cms : Int32) (cmT : Nat) (cmS isN : Int32) (trs : Nat) (tp : Nat → Int32) (ws wl wm : Nat → Int32) : Nat := if (X7_readWords_v (nI 0) tps pts lns brs ors stp hasP fld laid told rws cms cmT cmS isN trs tp ws wl wm) = (-4) then 0 else brs
def X7_read_p76_6 (tps pts lns brs ors : Nat) (stp hasP fld laid told : Int32) (rws : Nat) (cms : Int32) (cmT : Nat) (cmS isN : Int32) (trs : Nat) (tp : Nat → Int32) (ws wl wm : Nat → Int32) : Nat := if (X7_readWords_v (nI 0) tps pts lns brs ors stp hasP fld laid told rws cms cmT cmS isN trs tp ws wl wm) = (-4) then 0 else ors
def X7_read_p76_7 (tps pts lns brs ors : Nat) (stp hasP fld laid told : Int32) (rws : Nat) (cms : Int32) (cmT : Nat) (cmS isN : Int32) (trs : Nat) (tp : Nat → Int32) (ws wl wm : Nat → Int32) : Int32 := if (X7_readWords_v (nI 0) tps pts lns brs ors stp hasP fld laid told rws cms cmT cmS isN trs tp ws wl wm) = (-4) then (nI 0) else stp
def X7_read_p76_8 (tps pts lns brs ors : Nat) (stp hasP fld laid told : Int32) (rws : Nat) (cms : Int32) (cmT : Nat) (cmS isN : Int32) (trs : Nat) (tp : Nat → Int32) (ws wl wm : Nat → Int32) : Int32 := if (X7_readWords_v (nI 0) tps pts lns brs ors stp hasP fld laid told rws cms cmT cmS isN trs tp ws wl wm) = (-4) then (nI 0) else hasP
def X7_read_p76_11 (tps pts lns brs ors : Nat) (stp hasP fld laid told : Int32) (rws : Nat) (cms : Int32) (cmT : Nat) (cmS isN : Int32) (trs : Nat) (tp : Nat → Int32) (ws wl wm : Nat → Int32) : Int32 := if (X7_readWords_v (nI 0) tps pts lns brs ors stp hasP fld laid told rws cms cmT cmS isN trs tp ws wl wm) = (-4) then (-4) else told
def X7_read_p76_12 (tps pts lns brs ors : Nat) (stp hasP fld laid told : Int32) (rws : Nat) (cms : Int32) (cmT : Nat) (cmS isN : Int32) (trs : Nat) (tp : Nat → Int32) (ws wl wm : Nat → Int32) : Nat := if (X7_readWords_v (nI 0) tps pts lns brs ors stp hasP fld laid told rws cms cmT cmS isN trs tp ws wl wm) = (-4) then 0 else rws
def X7_read_p76_16 (tps pts lns brs ors : Nat) (stp hasP fld laid told : Int32) (rws : Nat) (cms : Int32) (cmT : Nat) (cmS isN : Int32) (trs : Nat) (tp : Nat → Int32) (ws wl wm : Nat → Int32) : Int32 := if (X7_readWords_v (nI 0) tps pts lns brs ors stp hasP fld laid told rws cms cmT cmS isN trs tp ws wl wm) = (-4) then (nI 0) else isN
def X7_read_c78 (tps pts lns brs ors : Nat) (stp hasP fld laid told : Int32) (rws : Nat) (cms : Int32) (cmT : Nat) (cmS isN : Int32) (trs : Nat) (tp : Nat → Int32) (ws wl wm : Nat → Int32) (lo pof ls lp lm : Nat → Int32) : Nat → Int32 := if (X7_readWords_v (nI 0) tps pts lns brs ors stp hasP fld laid told rws cms cmT cmS isN trs tp ws wl wm) = (-4) then ((zfold (X7_read_L65_F tps pts lns brs ors stp hasP fld laid told rws cms cmT cmS isN trs tp ws wl wm) (X7_readWords_p76_4 (nI 0) tps pts lns brs ors stp hasP fld laid told rws cms cmT cmS isN trs tp ws wl wm) 0 (0, 0, lo, (zfold (X7_read_L41_F) 10 0 pof), ls, lp, lm)).2.2.1) else lo
def X7_read_c79 (tps pts lns brs ors : Nat) (stp hasP fld laid told : Int32) (rws : Nat) (cms : Int32) (cmT : Nat) (cmS isN : Int32) (trs : Nat) (tp : Nat → Int32) (ws wl wm : Nat → Int32) (lo pof ls lp lm : Nat → Int32) : Nat → Int32 := if (X7_readWords_v (nI 0) tps pts lns brs ors stp hasP fld laid told rws cms cmT cmS isN trs tp ws wl wm) = (-4) then ((zfold (X7_read_L65_F tps pts lns brs ors stp hasP fld laid told rws cms cmT cmS isN trs tp ws wl wm) (X7_readWords_p76_4 (nI 0) tps pts lns brs ors stp hasP fld laid told rws cms cmT cmS isN trs tp ws wl wm) 0 (0, 0, lo, (zfold (X7_read_L41_F) 10 0 pof), ls, lp, lm)).2.2.2.1) else pof
def X7_read_c80 (tps pts lns brs ors : Nat) (stp hasP fld laid told : Int32) (rws : Nat) (cms : Int32) (cmT : Nat) (cmS isN : Int32) (trs : Nat) (tp : Nat → Int32) (ws wl wm : Nat → Int32) (lo pof ls lp lm : Nat → Int32) : Nat → Int32 := if (X7_readWords_v (nI 0) tps pts lns brs ors stp hasP fld laid told rws cms cmT cmS isN trs tp ws wl wm) = (-4) then ((zfold (X7_read_L65_F tps pts lns brs ors stp hasP fld laid told rws cms cmT cmS isN trs tp ws wl wm) (X7_readWords_p76_4 (nI 0) tps pts lns brs ors stp hasP fld laid told rws cms cmT cmS isN trs tp ws wl wm) 0 (0, 0, lo, (zfold (X7_read_L41_F) 10 0 pof), ls, lp, lm)).2.2.2.2.1) else ls
def X7_read_c81 (tps pts lns brs ors : Nat) (stp hasP fld laid told : Int32) (rws : Nat) (cms : Int32) (cmT : Nat) (cmS isN : Int32) (trs : Nat) (tp : Nat → Int32) (ws wl wm : Nat → Int32) (lo pof ls lp lm : Nat → Int32) : Nat → Int32 := if (X7_readWords_v (nI 0) tps pts lns brs ors stp hasP fld laid told rws cms cmT cmS isN trs tp ws wl wm) = (-4) then ((zfold (X7_read_L65_F tps pts lns brs ors stp hasP fld laid told rws cms cmT cmS isN trs tp ws wl wm) (X7_readWords_p76_4 (nI 0) tps pts lns brs ors stp hasP fld laid told rws cms cmT cmS isN trs tp ws wl wm) 0 (0, 0, lo, (zfold (X7_read_L41_F) 10 0 pof), ls, lp, lm)).2.2.2.2.2.1) else lp
def X7_read_c82 (tps pts lns brs ors : Nat) (stp hasP fld laid told : Int32) (rws : Nat) (cms : Int32) (cmT : Nat) (cmS isN : Int32) (trs : Nat) (tp : Nat → Int32) (ws wl wm : Nat → Int32) (lo pof ls lp lm : Nat → Int32) : Nat → Int32 := if (X7_readWords_v (nI 0) tps pts lns brs ors stp hasP fld laid told rws cms cmT cmS isN trs tp ws wl wm) = (-4) then ((zfold (X7_read_L65_F tps pts lns brs ors stp hasP fld laid told rws cms cmT cmS isN trs tp ws wl wm) (X7_readWords_p76_4 (nI 0) tps pts lns brs ors stp hasP fld laid told rws cms cmT cmS isN trs tp ws wl wm) 0 (0, 0, lo, (zfold (X7_read_L41_F) 10 0 pof), ls, lp, lm)).2.2.2.2.2.2) else lm
def X7_read_c83 (tps pts lns brs ors : Nat) (stp hasP fld laid told : Int32) (rws : Nat) (cms : Int32) (cmT : Nat) (cmS isN : Int32) (trs : Nat) (tp : Nat → Int32) (ws wl wm : Nat → Int32) : Nat → Int32 := if (X7_readWords_v (nI 0) tps pts lns brs ors stp hasP fld laid told rws cms cmT cmS isN trs tp ws wl wm) = (-4) then (X7_readWords_c83 (nI 0) tps pts lns brs ors stp hasP fld laid told rws cms cmT cmS isN trs tp ws wl wm) else (X7_readWords_c83 (nI 0) tps pts lns brs ors stp hasP fld laid told rws cms cmT cmS isN trs tp ws wl wm)
def X7_read_c84 (tps pts lns brs ors : Nat) (stp hasP fld laid told : Int32) (rws : Nat) (cms : Int32) (cmT : Nat) (cmS isN : Int32) (trs : Nat) (tp : Nat → Int32) (ws wl wm : Nat → Int32) : Nat → Int32 := if (X7_readWords_v (nI 0) tps pts lns brs ors stp hasP fld laid told rws cms cmT cmS isN trs tp ws wl wm) = (-4) then (X7_readWords_c84 (nI 0) tps pts lns brs ors stp hasP fld laid told rws cms cmT cmS isN trs tp ws wl wm) else (X7_readWords_c84 (nI 0) tps pts lns brs ors stp hasP fld laid told rws cms cmT cmS isN trs tp ws wl wm)
def X7_read_c85 (tps pts lns brs ors : Nat) (stp hasP fld laid told : Int32) (rws : Nat) (cms : Int32) (cmT : Nat) (cmS isN : Int32) (trs : Nat) (tp : Nat → Int32) (ws wl wm : Nat → Int32) : Nat → Int32 := if (X7_readWords_v (nI 0) tps pts lns brs ors stp hasP fld laid told rws cms cmT cmS isN trs tp ws wl wm) = (-4) then (X7_readWords_c85 (nI 0) tps pts lns brs ors stp hasP fld laid told rws cms cmT cmS isN trs tp ws wl wm) else (X7_readWords_c85 (nI 0) tps pts lns brs ors stp hasP fld laid told rws cms cmT cmS isN trs tp ws wl wm)
set_option maxRecDepth 100000 in
set_option maxHeartbeats 4000000 in
theorem c_X7_read (G : zG) (ex : Bool) (g : Nat → va_E) (code : Int32) (tps pts lns wds brs ors : Nat) (stp hasP fld laid told : Int32) (rws : Nat) (cms : Int32) (cmT : Nat) (cmS isN : Int32) (trs : Nat) (tp : Nat → Int32) (ws wl wm : Nat → Int32) (lo pof ls lp lm : Nat → Int32) (htp : tps ≤ 80) (hW : (X7_readWords_p76_4 (nI 0) tps pts lns brs ors stp hasP fld laid told rws cms cmT cmS isN trs tp ws wl wm) ≤ 12) (hws : ∀ k, k < (X7_readWords_p76_4 (nI 0) tps pts lns brs ors stp hasP fld laid told rws cms cmT cmS isN trs tp ws wl wm) → vp_in ((X7_readWords_c83 (nI 0) tps pts lns brs ors stp hasP fld laid told rws cms cmT cmS isN trs tp ws wl wm) k) 6) (hwl : ∀ k, k < (X7_readWords_p76_4 (nI 0) tps pts lns brs ors stp hasP fld laid told rws cms cmT cmS isN trs tp ws wl wm) → ∀ j, j < ((X7_readWords_c83 (nI 0) tps pts lns brs ors stp hasP fld laid told rws cms cmT cmS isN trs tp ws wl wm) k).toNatClampNeg → vp_in ((X7_readWords_c84 (nI 0) tps pts lns brs ors stp hasP fld laid told rws cms cmT cmS isN trs tp ws wl wm) (5 * k + j)) 10) (h76 : g 76 = (oMod G code (nI tps) (nI pts) (nI lns) (nI wds) (nI brs) (nI ors) stp hasP fld laid told (nI rws) cms (nI cmT) cmS isN (nI trs))) (h77 : g 77 = (zI G 80 tp)) (h83 : g 83 = (zI G 13 ws)) (h84 : g 84 = (zI G 65 wl)) (h85 : g 85 = (zI G 13 wm)) (h78 : g 78 = (zI G 10 lo)) (h79 : g 79 = (zI G 10 pof)) (h80 : g 80 = (zI G 12 ls)) (h81 : g 81 = (zI G 60 lp)) (h82 : g 82 = (zI G 12 lm)) : zC G yX7_read wsX7_read (zrm 2 48) ex [.ref (zB G + 76)] (zN, g) (fun r h => r = some (.int (X7_read_v tps pts lns brs ors stp hasP fld laid told rws cms cmT cmS isN trs tp ws wl wm lo pof ls lp lm)) ∧ h = (zN, zus g [(76, (oMod G (nI (X7_read_p76_0 tps pts lns brs ors stp hasP fld laid told rws cms cmT cmS isN trs tp ws wl wm)) (nI (X7_read_p76_1 tps pts lns brs ors stp hasP fld laid told rws cms cmT cmS isN trs tp ws wl wm)) (nI (X7_read_p76_2 tps pts lns brs ors stp hasP fld laid told rws cms cmT cmS isN trs tp ws wl wm lo pof ls lp lm)) (nI (X7_read_p76_3 tps pts lns brs ors stp hasP fld laid told rws cms cmT cmS isN trs tp ws wl wm)) (nI (X7_read_p76_4 tps pts lns brs ors stp hasP fld laid told rws cms cmT cmS isN trs tp ws wl wm)) (nI (X7_read_p76_5 tps pts lns brs ors stp hasP fld laid told rws cms cmT cmS isN trs tp ws wl wm)) (nI (X7_read_p76_6 tps pts lns brs ors stp hasP fld laid told rws cms cmT cmS isN trs tp ws wl wm)) (X7_read_p76_7 tps pts lns brs ors stp hasP fld laid told rws cms cmT cmS isN trs tp ws wl wm) (X7_read_p76_8 tps pts lns brs ors stp hasP fld laid told rws cms cmT cmS isN trs tp ws wl wm) fld laid (X7_read_p76_11 tps pts lns brs ors stp hasP fld laid told rws cms cmT cmS isN trs tp ws wl wm) (nI (X7_read_p76_12 tps pts lns brs ors stp hasP fld laid told rws cms cmT cmS isN trs tp ws wl wm)) cms (nI cmT) cmS (X7_read_p76_16 tps pts lns brs ors stp hasP fld laid told rws cms cmT cmS isN trs tp ws wl wm) (nI trs))), (78, zI G 10 (X7_read_c78 tps pts lns brs ors stp hasP fld laid told rws cms cmT cmS isN trs tp ws wl wm lo pof ls lp lm)), (79, zI G 10 (X7_read_c79 tps pts lns brs ors stp hasP fld laid told rws cms cmT cmS isN trs tp ws wl wm lo pof ls lp lm)), (80, zI G 12 (X7_read_c80 tps pts lns brs ors stp hasP fld laid told rws cms cmT cmS isN trs tp ws wl wm lo pof ls lp lm)), (81, zI G 60 (X7_read_c81 tps pts lns brs ors stp hasP fld laid told rws cms cmT cmS isN trs tp ws wl wm lo pof ls lp lm)), (82, zI G 12 (X7_read_c82 tps pts lns brs ors stp hasP fld laid told rws cms cmT cmS isN trs tp ws wl wm lo pof ls lp lm)), (83, zI G 13 (X7_read_c83 tps pts lns brs ors stp hasP fld laid told rws cms cmT cmS isN trs tp ws wl wm)), (84, zI G 65 (X7_read_c84 tps pts lns brs ors stp hasP fld laid told rws cms cmT cmS isN trs tp ws wl wm)), (85, zI G 13 (X7_read_c85 tps pts lns brs ors stp hasP fld laid told rws cms cmT cmS isN trs tp ws wl wm))])) := by
  refine zC_of mX7_read (lv := [some (.ref (zB G + 76)), none, none, none, none, none]) rfl rfl (by decide) (by intro v hv; simp at hv; subst hv; rfl) (Nat.le_of_ble_eq_true rfl) rfl ?_
  refine z_0 ?_
  refine z_heap (g' := zu (zus g []) 76 (oMod G code (nI tps) (nI pts) (nI lns) (nI wds) (nI brs) (nI ors) stp hasP fld laid told (nI rws) cms (nI cmT) cmS isN (nI trs))) (zu_self (zus g []) 76 _ h76).symm ?_
  refine z_n (L' := [(76, (oMod G code (nI tps) (nI pts) (nI lns) (nI wds) (nI brs) (nI ors) stp hasP fld laid told (nI rws) cms (nI cmT) cmS isN (nI trs)))]) rfl ?_
  refine z_heap (g' := zu (zus g [(76, (oMod G code (nI tps) (nI pts) (nI lns) (nI wds) (nI brs) (nI ors) stp hasP fld laid told (nI rws) cms (nI cmT) cmS isN (nI trs)))]) 78 (zI G 10 lo)) (zu_self (zus g [(76, (oMod G code (nI tps) (nI pts) (nI lns) (nI wds) (nI brs) (nI ors) stp hasP fld laid told (nI rws) cms (nI cmT) cmS isN (nI trs)))]) 78 _ h78).symm ?_
  refine z_n (L' := [(76, (oMod G code (nI tps) (nI pts) (nI lns) (nI wds) (nI brs) (nI ors) stp hasP fld laid told (nI rws) cms (nI cmT) cmS isN (nI trs))), (78, (zI G 10 lo))]) rfl ?_
  refine z_heap (g' := zu (zus g [(76, (oMod G code (nI tps) (nI pts) (nI lns) (nI wds) (nI brs) (nI ors) stp hasP fld laid told (nI rws) cms (nI cmT) cmS isN (nI trs))), (78, (zI G 10 lo))]) 79 (zI G 10 pof)) (zu_self (zus g [(76, (oMod G code (nI tps) (nI pts) (nI lns) (nI wds) (nI brs) (nI ors) stp hasP fld laid told (nI rws) cms (nI cmT) cmS isN (nI trs))), (78, (zI G 10 lo))]) 79 _ h79).symm ?_
  refine z_n (L' := [(76, (oMod G code (nI tps) (nI pts) (nI lns) (nI wds) (nI brs) (nI ors) stp hasP fld laid told (nI rws) cms (nI cmT) cmS isN (nI trs))), (78, (zI G 10 lo)), (79, (zI G 10 pof))]) rfl ?_
  refine z_heap (g' := zu (zus g [(76, (oMod G code (nI tps) (nI pts) (nI lns) (nI wds) (nI brs) (nI ors) stp hasP fld laid told (nI rws) cms (nI cmT) cmS isN (nI trs))), (78, (zI G 10 lo)), (79, (zI G 10 pof))]) 80 (zI G 12 ls)) (zu_self (zus g [(76, (oMod G code (nI tps) (nI pts) (nI lns) (nI wds) (nI brs) (nI ors) stp hasP fld laid told (nI rws) cms (nI cmT) cmS isN (nI trs))), (78, (zI G 10 lo)), (79, (zI G 10 pof))]) 80 _ h80).symm ?_
  refine z_n (L' := [(76, (oMod G code (nI tps) (nI pts) (nI lns) (nI wds) (nI brs) (nI ors) stp hasP fld laid told (nI rws) cms (nI cmT) cmS isN (nI trs))), (78, (zI G 10 lo)), (79, (zI G 10 pof)), (80, (zI G 12 ls))]) rfl ?_
  refine z_heap (g' := zu (zus g [(76, (oMod G code (nI tps) (nI pts) (nI lns) (nI wds) (nI brs) (nI ors) stp hasP fld laid told (nI rws) cms (nI cmT) cmS isN (nI trs))), (78, (zI G 10 lo)), (79, (zI G 10 pof)), (80, (zI G 12 ls))]) 81 (zI G 60 lp)) (zu_self (zus g [(76, (oMod G code (nI tps) (nI pts) (nI lns) (nI wds) (nI brs) (nI ors) stp hasP fld laid told (nI rws) cms (nI cmT) cmS isN (nI trs))), (78, (zI G 10 lo)), (79, (zI G 10 pof)), (80, (zI G 12 ls))]) 81 _ h81).symm ?_
  refine z_n (L' := [(76, (oMod G code (nI tps) (nI pts) (nI lns) (nI wds) (nI brs) (nI ors) stp hasP fld laid told (nI rws) cms (nI cmT) cmS isN (nI trs))), (78, (zI G 10 lo)), (79, (zI G 10 pof)), (80, (zI G 12 ls)), (81, (zI G 60 lp))]) rfl ?_
  refine z_heap (g' := zu (zus g [(76, (oMod G code (nI tps) (nI pts) (nI lns) (nI wds) (nI brs) (nI ors) stp hasP fld laid told (nI rws) cms (nI cmT) cmS isN (nI trs))), (78, (zI G 10 lo)), (79, (zI G 10 pof)), (80, (zI G 12 ls)), (81, (zI G 60 lp))]) 82 (zI G 12 lm)) (zu_self (zus g [(76, (oMod G code (nI tps) (nI pts) (nI lns) (nI wds) (nI brs) (nI ors) stp hasP fld laid told (nI rws) cms (nI cmT) cmS isN (nI trs))), (78, (zI G 10 lo)), (79, (zI G 10 pof)), (80, (zI G 12 ls)), (81, (zI G 60 lp))]) 82 _ h82).symm ?_
  refine z_n (L' := [(76, (oMod G code (nI tps) (nI pts) (nI lns) (nI wds) (nI brs) (nI ors) stp hasP fld laid told (nI rws) cms (nI cmT) cmS isN (nI trs))), (78, (zI G 10 lo)), (79, (zI G 10 pof)), (80, (zI G 12 ls)), (81, (zI G 60 lp)), (82, (zI G 12 lm))]) rfl ?_
  refine z_heap (g' := zu (zus g [(76, (oMod G code (nI tps) (nI pts) (nI lns) (nI wds) (nI brs) (nI ors) stp hasP fld laid told (nI rws) cms (nI cmT) cmS isN (nI trs))), (78, (zI G 10 lo)), (79, (zI G 10 pof)), (80, (zI G 12 ls)), (81, (zI G 60 lp)), (82, (zI G 12 lm))]) 83 (zI G 13 ws)) (zu_self (zus g [(76, (oMod G code (nI tps) (nI pts) (nI lns) (nI wds) (nI brs) (nI ors) stp hasP fld laid told (nI rws) cms (nI cmT) cmS isN (nI trs))), (78, (zI G 10 lo)), (79, (zI G 10 pof)), (80, (zI G 12 ls)), (81, (zI G 60 lp)), (82, (zI G 12 lm))]) 83 _ h83).symm ?_
  refine z_n (L' := [(76, (oMod G code (nI tps) (nI pts) (nI lns) (nI wds) (nI brs) (nI ors) stp hasP fld laid told (nI rws) cms (nI cmT) cmS isN (nI trs))), (78, (zI G 10 lo)), (79, (zI G 10 pof)), (80, (zI G 12 ls)), (81, (zI G 60 lp)), (82, (zI G 12 lm)), (83, (zI G 13 ws))]) rfl ?_
  refine z_heap (g' := zu (zus g [(76, (oMod G code (nI tps) (nI pts) (nI lns) (nI wds) (nI brs) (nI ors) stp hasP fld laid told (nI rws) cms (nI cmT) cmS isN (nI trs))), (78, (zI G 10 lo)), (79, (zI G 10 pof)), (80, (zI G 12 ls)), (81, (zI G 60 lp)), (82, (zI G 12 lm)), (83, (zI G 13 ws))]) 84 (zI G 65 wl)) (zu_self (zus g [(76, (oMod G code (nI tps) (nI pts) (nI lns) (nI wds) (nI brs) (nI ors) stp hasP fld laid told (nI rws) cms (nI cmT) cmS isN (nI trs))), (78, (zI G 10 lo)), (79, (zI G 10 pof)), (80, (zI G 12 ls)), (81, (zI G 60 lp)), (82, (zI G 12 lm)), (83, (zI G 13 ws))]) 84 _ h84).symm ?_
  refine z_n (L' := [(76, (oMod G code (nI tps) (nI pts) (nI lns) (nI wds) (nI brs) (nI ors) stp hasP fld laid told (nI rws) cms (nI cmT) cmS isN (nI trs))), (78, (zI G 10 lo)), (79, (zI G 10 pof)), (80, (zI G 12 ls)), (81, (zI G 60 lp)), (82, (zI G 12 lm)), (83, (zI G 13 ws)), (84, (zI G 65 wl))]) rfl ?_
  refine z_heap (g' := zu (zus g [(76, (oMod G code (nI tps) (nI pts) (nI lns) (nI wds) (nI brs) (nI ors) stp hasP fld laid told (nI rws) cms (nI cmT) cmS isN (nI trs))), (78, (zI G 10 lo)), (79, (zI G 10 pof)), (80, (zI G 12 ls)), (81, (zI G 60 lp)), (82, (zI G 12 lm)), (83, (zI G 13 ws)), (84, (zI G 65 wl))]) 85 (zI G 13 wm)) (zu_self (zus g [(76, (oMod G code (nI tps) (nI pts) (nI lns) (nI wds) (nI brs) (nI ors) stp hasP fld laid told (nI rws) cms (nI cmT) cmS isN (nI trs))), (78, (zI G 10 lo)), (79, (zI G 10 pof)), (80, (zI G 12 ls)), (81, (zI G 60 lp)), (82, (zI G 12 lm)), (83, (zI G 13 ws)), (84, (zI G 65 wl))]) 85 _ h85).symm ?_
  refine z_n (L' := [(76, (oMod G code (nI tps) (nI pts) (nI lns) (nI wds) (nI brs) (nI ors) stp hasP fld laid told (nI rws) cms (nI cmT) cmS isN (nI trs))), (78, (zI G 10 lo)), (79, (zI G 10 pof)), (80, (zI G 12 ls)), (81, (zI G 60 lp)), (82, (zI G 12 lm)), (83, (zI G 13 ws)), (84, (zI G 65 wl)), (85, (zI G 13 wm))]) rfl ?_
  refine z_aload_n dX7_read_0 rfl rfl ?_
  refine z_iconst (v := nI 0) dX7_read_1 rfl (by decide) ?_
  refine z_putN (e9 := (oMod G (nI 0) (nI tps) (nI pts) (nI lns) (nI wds) (nI brs) (nI ors) stp hasP fld laid told (nI rws) cms (nI cmT) cmS isN (nI trs))) tyX7 tyX7_ok nmX7 dX7_read_2 rfl hiX7_read_X7 0 lkX7_read_122 rfl (by decide +kernel) (Nat.le_of_ble_eq_true rfl) rfl rfl (by decide) (Nat.le_of_ble_eq_true rfl) rfl rfl rfl ?_
  refine z_n (L' := [(76, (oMod G (nI 0) (nI tps) (nI pts) (nI lns) (nI wds) (nI brs) (nI ors) stp hasP fld laid told (nI rws) cms (nI cmT) cmS isN (nI trs))), (78, (zI G 10 lo)), (79, (zI G 10 pof)), (80, (zI G 12 ls)), (81, (zI G 60 lp)), (82, (zI G 12 lm)), (83, (zI G 13 ws)), (84, (zI G 65 wl)), (85, (zI G 13 wm))]) rfl ?_
  refine z_aload_n dX7_read_5 rfl rfl ?_
  refine z_callVi (c_X7_readWords G ex _ (nI 0) tps pts lns wds brs ors stp hasP fld laid told rws cms cmT cmS isN trs tp ws wl wm (by omega) rfl h77 rfl rfl rfl) gX7_read_X7_readWords rfl dX7_read_6 rfl rfl rfl okk_X7_readWords (Nat.le_of_ble_eq_true rfl) rfl rfl ⟨Nat.le_of_ble_eq_true rfl, Nat.le_of_ble_eq_true rfl⟩ ⟨Nat.le_of_ble_eq_true rfl, Nat.le_of_ble_eq_true rfl⟩ (Nat.le_of_ble_eq_true rfl) ?_
  refine z_nn (L' := [(76, (oMod G (nI 0) (nI tps) (nI pts) (nI lns) (nI (X7_readWords_p76_4 (nI 0) tps pts lns brs ors stp hasP fld laid told rws cms cmT cmS isN trs tp ws wl wm)) (nI brs) (nI ors) stp hasP fld laid told (nI rws) cms (nI cmT) cmS isN (nI trs))), (78, (zI G 10 lo)), (79, (zI G 10 pof)), (80, (zI G 12 ls)), (81, (zI G 60 lp)), (82, (zI G 12 lm)), (83, (zI G 13 (X7_readWords_c83 (nI 0) tps pts lns brs ors stp hasP fld laid told rws cms cmT cmS isN trs tp ws wl wm))), (84, (zI G 65 (X7_readWords_c84 (nI 0) tps pts lns brs ors stp hasP fld laid told rws cms cmT cmS isN trs tp ws wl wm))), (85, (zI G 13 (X7_readWords_c85 (nI 0) tps pts lns brs ors stp hasP fld laid told rws cms cmT cmS isN trs tp ws wl wm)))]) rfl ?_
  refine z_istore_1 dX7_read_9 rfl ?_
  refine z_aload_n dX7_read_10 rfl rfl ?_
  refine z_iconst (v := nI 0) dX7_read_11 rfl (by decide) ?_
  refine z_putN (e9 := (oMod G (nI 0) (nI 0) (nI pts) (nI lns) (nI (X7_readWords_p76_4 (nI 0) tps pts lns brs ors stp hasP fld laid told rws cms cmT cmS isN trs tp ws wl wm)) (nI brs) (nI ors) stp hasP fld laid told (nI rws) cms (nI cmT) cmS isN (nI trs))) tyX7 tyX7_ok nmX7 dX7_read_12 rfl hiX7_read_X7 2 lkX7_read_129 rfl (by decide +kernel) (Nat.le_of_ble_eq_true rfl) rfl rfl (by decide) (Nat.le_of_ble_eq_true rfl) rfl rfl rfl ?_
  refine z_n (L' := [(76, (oMod G (nI 0) (nI 0) (nI pts) (nI lns) (nI (X7_readWords_p76_4 (nI 0) tps pts lns brs ors stp hasP fld laid told rws cms cmT cmS isN trs tp ws wl wm)) (nI brs) (nI ors) stp hasP fld laid told (nI rws) cms (nI cmT) cmS isN (nI trs))), (78, (zI G 10 lo)), (79, (zI G 10 pof)), (80, (zI G 12 ls)), (81, (zI G 60 lp)), (82, (zI G 12 lm)), (83, (zI G 13 (X7_readWords_c83 (nI 0) tps pts lns brs ors stp hasP fld laid told rws cms cmT cmS isN trs tp ws wl wm))), (84, (zI G 65 (X7_readWords_c84 (nI 0) tps pts lns brs ors stp hasP fld laid told rws cms cmT cmS isN trs tp ws wl wm))), (85, (zI G 13 (X7_readWords_c85 (nI 0) tps pts lns brs ors stp hasP fld laid told rws cms cmT cmS isN trs tp ws wl wm)))]) rfl ?_
  refine z_iload_n dX7_read_15 rfl rfl ?_
  refine z_bipush (v := (-4)) dX7_read_16 rfl (by decide) ?_
  refine z_icmp_eq (tgt := 26) dX7_read_18 rfl (by decide) (fun c18 => ?_) (fun c18 => ?_)
  · refine z_aload_n dX7_read_26 rfl rfl ?_
    refine z_iconst (v := nI 0) dX7_read_27 rfl (by decide) ?_
    refine z_putN (e9 := (oMod G (nI 0) (nI 0) (nI 0) (nI lns) (nI (X7_readWords_p76_4 (nI 0) tps pts lns brs ors stp hasP fld laid told rws cms cmT cmS isN trs tp ws wl wm)) (nI brs) (nI ors) stp hasP fld laid told (nI rws) cms (nI cmT) cmS isN (nI trs))) tyX7 tyX7_ok nmX7 dX7_read_28 rfl hiX7_read_X7 3 lkX7_read_143 rfl (by decide +kernel) (Nat.le_of_ble_eq_true rfl) rfl rfl (by decide) (Nat.le_of_ble_eq_true rfl) rfl rfl rfl ?_
    refine z_n (L' := [(76, (oMod G (nI 0) (nI 0) (nI 0) (nI lns) (nI (X7_readWords_p76_4 (nI 0) tps pts lns brs ors stp hasP fld laid told rws cms cmT cmS isN trs tp ws wl wm)) (nI brs) (nI ors) stp hasP fld laid told (nI rws) cms (nI cmT) cmS isN (nI trs))), (78, (zI G 10 lo)), (79, (zI G 10 pof)), (80, (zI G 12 ls)), (81, (zI G 60 lp)), (82, (zI G 12 lm)), (83, (zI G 13 (X7_readWords_c83 (nI 0) tps pts lns brs ors stp hasP fld laid told rws cms cmT cmS isN trs tp ws wl wm))), (84, (zI G 65 (X7_readWords_c84 (nI 0) tps pts lns brs ors stp hasP fld laid told rws cms cmT cmS isN trs tp ws wl wm))), (85, (zI G 13 (X7_readWords_c85 (nI 0) tps pts lns brs ors stp hasP fld laid told rws cms cmT cmS isN trs tp ws wl wm)))]) rfl ?_
    refine z_aload_n dX7_read_31 rfl rfl ?_
    refine z_aload_n dX7_read_32 rfl rfl ?_
    refine z_get dX7_read_33 rfl hiX7_read_X7 10 lkX7_read_132 (Nat.le_of_ble_eq_true rfl) rfl rfl (by decide) rfl ?_
    refine z_putN (e9 := (oMod G (nI 0) (nI 0) (nI 0) (nI (X7_readWords_p76_4 (nI 0) tps pts lns brs ors stp hasP fld laid told rws cms cmT cmS isN trs tp ws wl wm)) (nI (X7_readWords_p76_4 (nI 0) tps pts lns brs ors stp hasP fld laid told rws cms cmT cmS isN trs tp ws wl wm)) (nI brs) (nI ors) stp hasP fld laid told (nI rws) cms (nI cmT) cmS isN (nI trs))) tyX7 tyX7_ok nmX7 dX7_read_36 rfl hiX7_read_X7 4 lkX7_read_146 rfl (by decide +kernel) (Nat.le_of_ble_eq_true rfl) rfl rfl (by decide) (Nat.le_of_ble_eq_true rfl) rfl rfl rfl ?_
    refine z_n (L' := [(76, (oMod G (nI 0) (nI 0) (nI 0) (nI (X7_readWords_p76_4 (nI 0) tps pts lns brs ors stp hasP fld laid told rws cms cmT cmS isN trs tp ws wl wm)) (nI (X7_readWords_p76_4 (nI 0) tps pts lns brs ors stp hasP fld laid told rws cms cmT cmS isN trs tp ws wl wm)) (nI brs) (nI ors) stp hasP fld laid told (nI rws) cms (nI cmT) cmS isN (nI trs))), (78, (zI G 10 lo)), (79, (zI G 10 pof)), (80, (zI G 12 ls)), (81, (zI G 60 lp)), (82, (zI G 12 lm)), (83, (zI G 13 (X7_readWords_c83 (nI 0) tps pts lns brs ors stp hasP fld laid told rws cms cmT cmS isN trs tp ws wl wm))), (84, (zI G 65 (X7_readWords_c84 (nI 0) tps pts lns brs ors stp hasP fld laid told rws cms cmT cmS isN trs tp ws wl wm))), (85, (zI G 13 (X7_readWords_c85 (nI 0) tps pts lns brs ors stp hasP fld laid told rws cms cmT cmS isN trs tp ws wl wm)))]) rfl ?_
    refine z_iconst (v := nI 0) dX7_read_39 rfl (by decide) ?_
    refine z_istore_2 dX7_read_40 rfl ?_
    refine z_forI (head := fun k (st9 : (Nat → Int32)) => Z G mX7_read (zrm 2 48) ex _ 41 [some (.ref (zB G + 76)), some (.int (X7_readWords_v (nI 0) tps pts lns brs ors stp hasP fld laid told rws cms cmT cmS isN trs tp ws wl wm)), some (.int (nI k)), none, none, none] [] (zN, zus g [(76, (oMod G (nI 0) (nI 0) (nI 0) (nI (X7_readWords_p76_4 (nI 0) tps pts lns brs ors stp hasP fld laid told rws cms cmT cmS isN trs tp ws wl wm)) (nI (X7_readWords_p76_4 (nI 0) tps pts lns brs ors stp hasP fld laid told rws cms cmT cmS isN trs tp ws wl wm)) (nI brs) (nI ors) stp hasP fld laid told (nI rws) cms (nI cmT) cmS isN (nI trs))), (78, (zI G 10 lo)), (79, (zI G 10 st9)), (80, (zI G 12 ls)), (81, (zI G 60 lp)), (82, (zI G 12 lm)), (83, (zI G 13 (X7_readWords_c83 (nI 0) tps pts lns brs ors stp hasP fld laid told rws cms cmT cmS isN trs tp ws wl wm))), (84, (zI G 65 (X7_readWords_c84 (nI 0) tps pts lns brs ors stp hasP fld laid told rws cms cmT cmS isN trs tp ws wl wm))), (85, (zI G 13 (X7_readWords_c85 (nI 0) tps pts lns brs ors stp hasP fld laid told rws cms cmT cmS isN trs tp ws wl wm)))]) 0 0) (F := (X7_read_L41_F)) (n := 10) (fun _ _ => True) (fun _ _ _ _ => trivial) ?_ 10 0 pof (by omega) trivial ?_
    · intro k po0 hi _ K
      refine z_iload_n dX7_read_41 rfl rfl ?_
      refine z_bipush (v := nI 10) dX7_read_42 rfl (by decide) ?_
      refine z_icmp_ge (tgt := 61) dX7_read_44 rfl (by decide) (fun c44 => ?_) (fun c44 => ?_)
      · exact absurd c44 (nI_ge hi (by omega))
      · refine z_aload_n dX7_read_47 rfl rfl ?_
        refine z_get dX7_read_48 rfl hiX7_read_X7 6 lkX7_read_16 (Nat.le_of_ble_eq_true rfl) rfl rfl (by decide) rfl ?_
        refine z_iload_n dX7_read_51 rfl rfl ?_
        refine z_bipush (v := (-4)) dX7_read_52 rfl (by decide) ?_
        refine z_iastN (j := k) dX7_read_54 rfl (Nat.le_of_ble_eq_true rfl) rfl (rfl) (by omega) (by decide) ?_
        refine z_n (L' := [(76, (oMod G (nI 0) (nI 0) (nI 0) (nI (X7_readWords_p76_4 (nI 0) tps pts lns brs ors stp hasP fld laid told rws cms cmT cmS isN trs tp ws wl wm)) (nI (X7_readWords_p76_4 (nI 0) tps pts lns brs ors stp hasP fld laid told rws cms cmT cmS isN trs tp ws wl wm)) (nI brs) (nI ors) stp hasP fld laid told (nI rws) cms (nI cmT) cmS isN (nI trs))), (78, (zI G 10 lo)), (79, (zI G 10 (upd po0 k (-4)))), (80, (zI G 12 ls)), (81, (zI G 60 lp)), (82, (zI G 12 lm)), (83, (zI G 13 (X7_readWords_c83 (nI 0) tps pts lns brs ors stp hasP fld laid told rws cms cmT cmS isN trs tp ws wl wm))), (84, (zI G 65 (X7_readWords_c84 (nI 0) tps pts lns brs ors stp hasP fld laid told rws cms cmT cmS isN trs tp ws wl wm))), (85, (zI G 13 (X7_readWords_c85 (nI 0) tps pts lns brs ors stp hasP fld laid told rws cms cmT cmS isN trs tp ws wl wm)))]) rfl ?_
        refine z_iinc_2 (v := nI (k + 1)) dX7_read_55 rfl (zinc _) ?_
        refine z_goto (tgt := 41) dX7_read_58 (by decide) ?_
        exact K
    · intro _
      refine z_iload_n dX7_read_41 rfl rfl ?_
      refine z_bipush (v := nI 10) dX7_read_42 rfl (by decide) ?_
      refine z_icmp_ge (tgt := 61) dX7_read_44 rfl (by decide) (fun c44 => ?_) (fun c44 => ?_)
      · refine z_iconst (v := nI 0) dX7_read_61 rfl (by decide) ?_
        refine z_istore_2 dX7_read_62 rfl ?_
        refine z_iconst (v := nI 0) dX7_read_63 rfl (by decide) ?_
        refine z_istore_3 dX7_read_64 rfl ?_
        refine z_forI (head := fun w (st9 : (Nat) × (Nat) × (Nat → Int32) × (Nat → Int32) × (Nat → Int32) × (Nat → Int32) × (Nat → Int32)) => ∀ y4 y5 : Option Value, Z G mX7_read (zrm 2 48) ex _ 65 [some (.ref (zB G + 76)), some (.int (X7_readWords_v (nI 0) tps pts lns brs ors stp hasP fld laid told rws cms cmT cmS isN trs tp ws wl wm)), some (.int (nI st9.2.1)), some (.int (nI w)), y4, y5] [] (zN, zus g [(76, (oMod G (nI 0) (nI 0) (nI st9.1) (nI (X7_readWords_p76_4 (nI 0) tps pts lns brs ors stp hasP fld laid told rws cms cmT cmS isN trs tp ws wl wm)) (nI (X7_readWords_p76_4 (nI 0) tps pts lns brs ors stp hasP fld laid told rws cms cmT cmS isN trs tp ws wl wm)) (nI brs) (nI ors) stp hasP fld laid told (nI rws) cms (nI cmT) cmS isN (nI trs))), (78, (zI G 10 st9.2.2.1)), (79, (zI G 10 st9.2.2.2.1)), (80, (zI G 12 st9.2.2.2.2.1)), (81, (zI G 60 st9.2.2.2.2.2.1)), (82, (zI G 12 st9.2.2.2.2.2.2)), (83, (zI G 13 (X7_readWords_c83 (nI 0) tps pts lns brs ors stp hasP fld laid told rws cms cmT cmS isN trs tp ws wl wm))), (84, (zI G 65 (X7_readWords_c84 (nI 0) tps pts lns brs ors stp hasP fld laid told rws cms cmT cmS isN trs tp ws wl wm))), (85, (zI G 13 (X7_readWords_c85 (nI 0) tps pts lns brs ors stp hasP fld laid told rws cms cmT cmS isN trs tp ws wl wm)))]) 0 0) (F := (X7_read_L65_F tps pts lns brs ors stp hasP fld laid told rws cms cmT cmS isN trs tp ws wl wm)) (n := X7_readWords_p76_4 (nI 0) tps pts lns brs ors stp hasP fld laid told rws cms cmT cmS isN trs tp ws wl wm) (fun _ a => rdI a.1 a.2.2.2.1 a.2.2.1) (fun w a hw9 h => zfold_I (n := ((X7_readWords_c83 (nI 0) tps pts lns brs ors stp hasP fld laid told rws cms cmT cmS isN trs tp ws wl wm) w).toNatClampNeg) (fun (_ : Nat) (b : Nat × Nat × (Nat → Int32) × (Nat → Int32) × (Nat → Int32) × (Nat → Int32) × (Nat → Int32)) => rdI b.1 b.2.2.2.1 b.2.2.1) (F := X7_read_L95_F tps pts lns brs ors stp hasP fld laid told rws cms cmT cmS isN trs tp ws wl wm w) (fun i a hi h => by
                unfold X7_read_L95_F
                split
                · rename_i c
                  exact rdI_s h (zvlt (hwl _ hw9 _ hi)) c
                · exact h) _ 0 _ (by omega) h) ?_ (X7_readWords_p76_4 (nI 0) tps pts lns brs ors stp hasP fld laid told rws cms cmT cmS isN trs tp ws wl wm) 0 (0, 0, lo, (zfold (X7_read_L41_F) 10 0 pof), ls, lp, lm) (by omega) ⟨Nat.zero_le _, fun j h => absurd h (Nat.not_lt_zero j)⟩ ?_ _ _
        · intro w a9 hi hI K
          obtain ⟨p1, all1, lo1, po1, ls1, lp1, lm1⟩ := a9
          intro y4 y5
          have hw9 := hi
          have hI0 := hI
          have hs6 := zvlt (hws _ hi)
          refine z_iload_n dX7_read_65 rfl rfl ?_
          refine z_aload_n dX7_read_66 rfl rfl ?_
          refine z_get dX7_read_67 rfl hiX7_read_X7 10 lkX7_read_132 (Nat.le_of_ble_eq_true rfl) rfl rfl (by decide) rfl ?_
          refine z_icmp_ge (tgt := 217) dX7_read_70 rfl (by decide) (fun c70 => ?_) (fun c70 => ?_)
          · exact absurd c70 (nI_ge hi (by omega))
          · refine z_aload_n dX7_read_73 rfl rfl ?_
            refine z_get dX7_read_74 rfl hiX7_read_X7 7 lkX7_read_19 (Nat.le_of_ble_eq_true rfl) rfl rfl (by decide) rfl ?_
            refine z_iload_n dX7_read_77 rfl rfl ?_
            refine z_aload_n dX7_read_78 rfl rfl ?_
            refine z_get dX7_read_79 rfl hiX7_read_X7 11 lkX7_read_28 (Nat.le_of_ble_eq_true rfl) rfl rfl (by decide) rfl ?_
            refine z_iload_n dX7_read_82 rfl rfl ?_
            refine z_ialdN (j := w) dX7_read_83 rfl (Nat.le_of_ble_eq_true rfl) rfl (rfl) (by omega) (by decide) ?_
            refine z_iastN (j := w) dX7_read_84 rfl (Nat.le_of_ble_eq_true rfl) rfl (rfl) (by omega) (by decide) ?_
            refine z_n (L' := [(76, (oMod G (nI 0) (nI 0) (nI p1) (nI (X7_readWords_p76_4 (nI 0) tps pts lns brs ors stp hasP fld laid told rws cms cmT cmS isN trs tp ws wl wm)) (nI (X7_readWords_p76_4 (nI 0) tps pts lns brs ors stp hasP fld laid told rws cms cmT cmS isN trs tp ws wl wm)) (nI brs) (nI ors) stp hasP fld laid told (nI rws) cms (nI cmT) cmS isN (nI trs))), (78, (zI G 10 lo1)), (79, (zI G 10 po1)), (80, (zI G 12 (upd ls1 w ((X7_readWords_c83 (nI 0) tps pts lns brs ors stp hasP fld laid told rws cms cmT cmS isN trs tp ws wl wm) w)))), (81, (zI G 60 lp1)), (82, (zI G 12 lm1)), (83, (zI G 13 (X7_readWords_c83 (nI 0) tps pts lns brs ors stp hasP fld laid told rws cms cmT cmS isN trs tp ws wl wm))), (84, (zI G 65 (X7_readWords_c84 (nI 0) tps pts lns brs ors stp hasP fld laid told rws cms cmT cmS isN trs tp ws wl wm))), (85, (zI G 13 (X7_readWords_c85 (nI 0) tps pts lns brs ors stp hasP fld laid told rws cms cmT cmS isN trs tp ws wl wm)))]) rfl ?_
            refine z_aload_n dX7_read_85 rfl rfl ?_
            refine z_get dX7_read_86 rfl hiX7_read_X7 9 lkX7_read_25 (Nat.le_of_ble_eq_true rfl) rfl rfl (by decide) rfl ?_
            refine z_iload_n dX7_read_89 rfl rfl ?_
            refine z_iconst (v := nI 0) dX7_read_90 rfl (by decide) ?_
            refine z_iastN (j := w) dX7_read_91 rfl (Nat.le_of_ble_eq_true rfl) rfl (rfl) (by omega) (by decide) ?_
            refine z_n (L' := [(76, (oMod G (nI 0) (nI 0) (nI p1) (nI (X7_readWords_p76_4 (nI 0) tps pts lns brs ors stp hasP fld laid told rws cms cmT cmS isN trs tp ws wl wm)) (nI (X7_readWords_p76_4 (nI 0) tps pts lns brs ors stp hasP fld laid told rws cms cmT cmS isN trs tp ws wl wm)) (nI brs) (nI ors) stp hasP fld laid told (nI rws) cms (nI cmT) cmS isN (nI trs))), (78, (zI G 10 lo1)), (79, (zI G 10 po1)), (80, (zI G 12 (upd ls1 w ((X7_readWords_c83 (nI 0) tps pts lns brs ors stp hasP fld laid told rws cms cmT cmS isN trs tp ws wl wm) w)))), (81, (zI G 60 lp1)), (82, (zI G 12 (upd lm1 w (nI 0)))), (83, (zI G 13 (X7_readWords_c83 (nI 0) tps pts lns brs ors stp hasP fld laid told rws cms cmT cmS isN trs tp ws wl wm))), (84, (zI G 65 (X7_readWords_c84 (nI 0) tps pts lns brs ors stp hasP fld laid told rws cms cmT cmS isN trs tp ws wl wm))), (85, (zI G 13 (X7_readWords_c85 (nI 0) tps pts lns brs ors stp hasP fld laid told rws cms cmT cmS isN trs tp ws wl wm)))]) rfl ?_
            refine z_iconst (v := nI 0) dX7_read_92 rfl (by decide) ?_
            refine z_istore_4 dX7_read_93 rfl ?_
            refine z_forI (head := fun i (st9 : (Nat) × (Nat) × (Nat → Int32) × (Nat → Int32) × (Nat → Int32) × (Nat → Int32) × (Nat → Int32)) => ∀ y5 : Option Value, Z G mX7_read (zrm 2 48) ex _ 95 [some (.ref (zB G + 76)), some (.int (X7_readWords_v (nI 0) tps pts lns brs ors stp hasP fld laid told rws cms cmT cmS isN trs tp ws wl wm)), some (.int (nI st9.2.1)), some (.int (nI w)), some (.int (nI i)), y5] [] (zN, zus g [(76, (oMod G (nI 0) (nI 0) (nI st9.1) (nI (X7_readWords_p76_4 (nI 0) tps pts lns brs ors stp hasP fld laid told rws cms cmT cmS isN trs tp ws wl wm)) (nI (X7_readWords_p76_4 (nI 0) tps pts lns brs ors stp hasP fld laid told rws cms cmT cmS isN trs tp ws wl wm)) (nI brs) (nI ors) stp hasP fld laid told (nI rws) cms (nI cmT) cmS isN (nI trs))), (78, (zI G 10 st9.2.2.1)), (79, (zI G 10 st9.2.2.2.1)), (80, (zI G 12 st9.2.2.2.2.1)), (81, (zI G 60 st9.2.2.2.2.2.1)), (82, (zI G 12 st9.2.2.2.2.2.2)), (83, (zI G 13 (X7_readWords_c83 (nI 0) tps pts lns brs ors stp hasP fld laid told rws cms cmT cmS isN trs tp ws wl wm))), (84, (zI G 65 (X7_readWords_c84 (nI 0) tps pts lns brs ors stp hasP fld laid told rws cms cmT cmS isN trs tp ws wl wm))), (85, (zI G 13 (X7_readWords_c85 (nI 0) tps pts lns brs ors stp hasP fld laid told rws cms cmT cmS isN trs tp ws wl wm)))]) 0 0) (F := (X7_read_L95_F tps pts lns brs ors stp hasP fld laid told rws cms cmT cmS isN trs tp ws wl wm w)) (n := ((X7_readWords_c83 (nI 0) tps pts lns brs ors stp hasP fld laid told rws cms cmT cmS isN trs tp ws wl wm) w).toNatClampNeg) (fun _ a => rdI a.1 a.2.2.2.1 a.2.2.1) (fun i a hi h => by
                    unfold X7_read_L95_F
                    split
                    · rename_i c
                      exact rdI_s h (zvlt (hwl _ hw9 _ hi)) c
                    · exact h) ?_ (((X7_readWords_c83 (nI 0) tps pts lns brs ors stp hasP fld laid told rws cms cmT cmS isN trs tp ws wl wm) w).toNatClampNeg) 0 (p1, all1, lo1, po1, upd ls1 w ((X7_readWords_c83 (nI 0) tps pts lns brs ors stp hasP fld laid told rws cms cmT cmS isN trs tp ws wl wm) w), lp1, upd lm1 w (nI 0)) (by omega) hI0 ?_ _
            · intro i a9 hi hI K
              obtain ⟨p2, all2, lo2, po2, ls2, lp2, lm2⟩ := a9
              intro y5
              have hwl9 := hwl _ hw9 _ hi
              have hlt := zvlt hwl9
              refine z_iload dX7_read_95 rfl rfl ?_
              refine z_aload_n dX7_read_97 rfl rfl ?_
              refine z_get dX7_read_98 rfl hiX7_read_X7 11 lkX7_read_28 (Nat.le_of_ble_eq_true rfl) rfl rfl (by decide) rfl ?_
              refine z_iload_n dX7_read_101 rfl rfl ?_
              refine z_ialdN (j := w) dX7_read_102 rfl (Nat.le_of_ble_eq_true rfl) rfl (rfl) (by omega) (by decide) ?_
              refine z_top (show (X7_readWords_c83 (nI 0) tps pts lns brs ors stp hasP fld laid told rws cms cmT cmS isN trs tp ws wl wm) w = nI (((X7_readWords_c83 (nI 0) tps pts lns brs ors stp hasP fld laid told rws cms cmT cmS isN trs tp ws wl wm) w).toNatClampNeg) from zvin (hws _ hw9)) ?_
              refine z_icmp_ge (tgt := 211) dX7_read_103 rfl (by decide) (fun c103 => ?_) (fun c103 => ?_)
              · exact absurd c103 (nI_ge hi (by omega))
              · refine z_aload_n dX7_read_106 rfl rfl ?_
                refine z_get dX7_read_107 rfl hiX7_read_X7 12 lkX7_read_31 (Nat.le_of_ble_eq_true rfl) rfl rfl (by decide) rfl ?_
                refine z_iconst (v := nI 5) dX7_read_110 rfl (by decide) ?_
                refine z_iload_n dX7_read_111 rfl rfl ?_
                refine z_imul dX7_read_112 rfl ?_
                refine z_iload dX7_read_113 rfl rfl ?_
                refine z_iadd dX7_read_115 rfl ?_
                refine z_ialdN (j := (5 * w) + i) dX7_read_116 rfl (Nat.le_of_ble_eq_true rfl) rfl ((zq_add (zq_mul rfl rfl) rfl)) (by omega) (by decide) ?_
                refine z_top (show (X7_readWords_c84 (nI 0) tps pts lns brs ors stp hasP fld laid told rws cms cmT cmS isN trs tp ws wl wm) ((5 * w) + i) = nI (((X7_readWords_c84 (nI 0) tps pts lns brs ors stp hasP fld laid told rws cms cmT cmS isN trs tp ws wl wm) ((5 * w) + i)).toNatClampNeg) from zvin hwl9) ?_
                refine z_istore_5 dX7_read_117 rfl ?_
                refine z_aload_n dX7_read_119 rfl rfl ?_
                refine z_get dX7_read_120 rfl hiX7_read_X7 6 lkX7_read_16 (Nat.le_of_ble_eq_true rfl) rfl rfl (by decide) rfl ?_
                refine z_iload dX7_read_123 rfl rfl ?_
                refine z_ialdN (j := ((X7_readWords_c84 (nI 0) tps pts lns brs ors stp hasP fld laid told rws cms cmT cmS isN trs tp ws wl wm) ((5 * w) + i)).toNatClampNeg) dX7_read_125 rfl (Nat.le_of_ble_eq_true rfl) rfl (rfl) (by omega) (by decide) ?_
                refine z_bipush (v := (-4)) dX7_read_126 rfl (by decide) ?_
                refine z_icmp_ne (tgt := 166) dX7_read_128 rfl (by decide) (fun c128 => ?_) (fun c128 => ?_)
                · refine z_aload_n dX7_read_166 rfl rfl ?_
                  refine z_get dX7_read_167 rfl hiX7_read_X7 8 lkX7_read_22 (Nat.le_of_ble_eq_true rfl) rfl rfl (by decide) rfl ?_
                  refine z_iconst (v := nI 5) dX7_read_170 rfl (by decide) ?_
                  refine z_iload_n dX7_read_171 rfl rfl ?_
                  refine z_imul dX7_read_172 rfl ?_
                  refine z_iload dX7_read_173 rfl rfl ?_
                  refine z_iadd dX7_read_175 rfl ?_
                  refine z_aload_n dX7_read_176 rfl rfl ?_
                  refine z_get dX7_read_177 rfl hiX7_read_X7 6 lkX7_read_16 (Nat.le_of_ble_eq_true rfl) rfl rfl (by decide) rfl ?_
                  refine z_iload dX7_read_180 rfl rfl ?_
                  refine z_ialdN (j := ((X7_readWords_c84 (nI 0) tps pts lns brs ors stp hasP fld laid told rws cms cmT cmS isN trs tp ws wl wm) ((5 * w) + i)).toNatClampNeg) dX7_read_182 rfl (Nat.le_of_ble_eq_true rfl) rfl (rfl) (by omega) (by decide) ?_
                  refine z_iastN (j := (5 * w) + i) dX7_read_183 rfl (Nat.le_of_ble_eq_true rfl) rfl ((zq_add (zq_mul rfl rfl) rfl)) (by omega) (by decide) ?_
                  refine z_n (L' := [(76, (oMod G (nI 0) (nI 0) (nI p2) (nI (X7_readWords_p76_4 (nI 0) tps pts lns brs ors stp hasP fld laid told rws cms cmT cmS isN trs tp ws wl wm)) (nI (X7_readWords_p76_4 (nI 0) tps pts lns brs ors stp hasP fld laid told rws cms cmT cmS isN trs tp ws wl wm)) (nI brs) (nI ors) stp hasP fld laid told (nI rws) cms (nI cmT) cmS isN (nI trs))), (78, (zI G 10 lo2)), (79, (zI G 10 po2)), (80, (zI G 12 ls2)), (81, (zI G 60 (upd lp2 ((5 * w) + i) (po2 (((X7_readWords_c84 (nI 0) tps pts lns brs ors stp hasP fld laid told rws cms cmT cmS isN trs tp ws wl wm) ((5 * w) + i)).toNatClampNeg))))), (82, (zI G 12 lm2)), (83, (zI G 13 (X7_readWords_c83 (nI 0) tps pts lns brs ors stp hasP fld laid told rws cms cmT cmS isN trs tp ws wl wm))), (84, (zI G 65 (X7_readWords_c84 (nI 0) tps pts lns brs ors stp hasP fld laid told rws cms cmT cmS isN trs tp ws wl wm))), (85, (zI G 13 (X7_readWords_c85 (nI 0) tps pts lns brs ors stp hasP fld laid told rws cms cmT cmS isN trs tp ws wl wm)))]) rfl ?_
                  refine z_aload_n dX7_read_184 rfl rfl ?_
                  refine z_get dX7_read_185 rfl hiX7_read_X7 9 lkX7_read_25 (Nat.le_of_ble_eq_true rfl) rfl rfl (by decide) rfl ?_
                  refine z_iload_n dX7_read_188 rfl rfl ?_
                  refine z_dup2 dX7_read_189 rfl rfl rfl ?_
                  refine z_ialdN (j := w) dX7_read_190 rfl (Nat.le_of_ble_eq_true rfl) rfl (rfl) (by omega) (by decide) ?_
                  refine z_iconst (v := nI 1) dX7_read_191 rfl (by decide) ?_
                  refine z_aload_n dX7_read_192 rfl rfl ?_
                  refine z_get dX7_read_193 rfl hiX7_read_X7 6 lkX7_read_16 (Nat.le_of_ble_eq_true rfl) rfl rfl (by decide) rfl ?_
                  refine z_iload dX7_read_196 rfl rfl ?_
                  refine z_ialdN (j := ((X7_readWords_c84 (nI 0) tps pts lns brs ors stp hasP fld laid told rws cms cmT cmS isN trs tp ws wl wm) ((5 * w) + i)).toNatClampNeg) dX7_read_198 rfl (Nat.le_of_ble_eq_true rfl) rfl (rfl) (by omega) (by decide) ?_
                  refine z_ishl dX7_read_199 rfl ?_
                  refine z_ior dX7_read_200 rfl ?_
                  refine z_iastN (j := w) dX7_read_201 rfl (Nat.le_of_ble_eq_true rfl) rfl (rfl) (by omega) (by decide) ?_
                  refine z_n (L' := [(76, (oMod G (nI 0) (nI 0) (nI p2) (nI (X7_readWords_p76_4 (nI 0) tps pts lns brs ors stp hasP fld laid told rws cms cmT cmS isN trs tp ws wl wm)) (nI (X7_readWords_p76_4 (nI 0) tps pts lns brs ors stp hasP fld laid told rws cms cmT cmS isN trs tp ws wl wm)) (nI brs) (nI ors) stp hasP fld laid told (nI rws) cms (nI cmT) cmS isN (nI trs))), (78, (zI G 10 lo2)), (79, (zI G 10 po2)), (80, (zI G 12 ls2)), (81, (zI G 60 (upd lp2 ((5 * w) + i) (po2 (((X7_readWords_c84 (nI 0) tps pts lns brs ors stp hasP fld laid told rws cms cmT cmS isN trs tp ws wl wm) ((5 * w) + i)).toNatClampNeg))))), (82, (zI G 12 (upd lm2 w ((lm2 w) ||| ((nI 1) <<< ((po2 (((X7_readWords_c84 (nI 0) tps pts lns brs ors stp hasP fld laid told rws cms cmT cmS isN trs tp ws wl wm) ((5 * w) + i)).toNatClampNeg)) &&& 31)))))), (83, (zI G 13 (X7_readWords_c83 (nI 0) tps pts lns brs ors stp hasP fld laid told rws cms cmT cmS isN trs tp ws wl wm))), (84, (zI G 65 (X7_readWords_c84 (nI 0) tps pts lns brs ors stp hasP fld laid told rws cms cmT cmS isN trs tp ws wl wm))), (85, (zI G 13 (X7_readWords_c85 (nI 0) tps pts lns brs ors stp hasP fld laid told rws cms cmT cmS isN trs tp ws wl wm)))]) rfl ?_
                  refine z_iinc_2 (v := nI (all2 + 1)) dX7_read_202 rfl (zinc _) ?_
                  refine z_iinc_4 (v := nI (i + 1)) dX7_read_205 rfl (zinc _) ?_
                  refine z_goto (tgt := 95) dX7_read_208 (by decide) ?_
                  have K9 := K
                  try simp only [X7_read_L95_F, if_neg c128] at K9
                  exact K9 _
                · refine z_aload_n dX7_read_131 rfl rfl ?_
                  refine z_get dX7_read_132 rfl hiX7_read_X7 6 lkX7_read_16 (Nat.le_of_ble_eq_true rfl) rfl rfl (by decide) rfl ?_
                  refine z_iload dX7_read_135 rfl rfl ?_
                  refine z_aload_n dX7_read_137 rfl rfl ?_
                  refine z_get dX7_read_138 rfl hiX7_read_X7 3 lkX7_read_143 (Nat.le_of_ble_eq_true rfl) rfl rfl (by decide) rfl ?_
                  refine z_iastN (j := ((X7_readWords_c84 (nI 0) tps pts lns brs ors stp hasP fld laid told rws cms cmT cmS isN trs tp ws wl wm) ((5 * w) + i)).toNatClampNeg) dX7_read_141 rfl (Nat.le_of_ble_eq_true rfl) rfl (rfl) (by omega) (by decide) ?_
                  refine z_n (L' := [(76, (oMod G (nI 0) (nI 0) (nI p2) (nI (X7_readWords_p76_4 (nI 0) tps pts lns brs ors stp hasP fld laid told rws cms cmT cmS isN trs tp ws wl wm)) (nI (X7_readWords_p76_4 (nI 0) tps pts lns brs ors stp hasP fld laid told rws cms cmT cmS isN trs tp ws wl wm)) (nI brs) (nI ors) stp hasP fld laid told (nI rws) cms (nI cmT) cmS isN (nI trs))), (78, (zI G 10 lo2)), (79, (zI G 10 (upd po2 (((X7_readWords_c84 (nI 0) tps pts lns brs ors stp hasP fld laid told rws cms cmT cmS isN trs tp ws wl wm) ((5 * w) + i)).toNatClampNeg) (nI p2)))), (80, (zI G 12 ls2)), (81, (zI G 60 lp2)), (82, (zI G 12 lm2)), (83, (zI G 13 (X7_readWords_c83 (nI 0) tps pts lns brs ors stp hasP fld laid told rws cms cmT cmS isN trs tp ws wl wm))), (84, (zI G 65 (X7_readWords_c84 (nI 0) tps pts lns brs ors stp hasP fld laid told rws cms cmT cmS isN trs tp ws wl wm))), (85, (zI G 13 (X7_readWords_c85 (nI 0) tps pts lns brs ors stp hasP fld laid told rws cms cmT cmS isN trs tp ws wl wm)))]) rfl ?_
                  refine z_aload_n dX7_read_142 rfl rfl ?_
                  refine z_get dX7_read_143 rfl hiX7_read_X7 5 lkX7_read_13 (Nat.le_of_ble_eq_true rfl) rfl rfl (by decide) rfl ?_
                  refine z_aload_n dX7_read_146 rfl rfl ?_
                  refine z_get dX7_read_147 rfl hiX7_read_X7 3 lkX7_read_143 (Nat.le_of_ble_eq_true rfl) rfl rfl (by decide) rfl ?_
                  refine z_iload dX7_read_150 rfl rfl ?_
                  refine z_bipush (v := nI 97) dX7_read_152 rfl (by decide) ?_
                  refine z_iadd dX7_read_154 rfl ?_
                  refine z_top (show (nI (((X7_readWords_c84 (nI 0) tps pts lns brs ors stp hasP fld laid told rws cms cmT cmS isN trs tp ws wl wm) ((5 * w) + i)).toNatClampNeg)) + (nI 97) = nI ((((X7_readWords_c84 (nI 0) tps pts lns brs ors stp hasP fld laid told rws cms cmT cmS isN trs tp ws wl wm) ((5 * w) + i)).toNatClampNeg) + 97) from (zq_add rfl rfl)) ?_
                  refine z_iastN (j := p2) dX7_read_155 rfl (Nat.le_of_ble_eq_true rfl) rfl (rfl) (rdI_room hI hlt c128) (by decide) ?_
                  refine z_n (L' := [(76, (oMod G (nI 0) (nI 0) (nI p2) (nI (X7_readWords_p76_4 (nI 0) tps pts lns brs ors stp hasP fld laid told rws cms cmT cmS isN trs tp ws wl wm)) (nI (X7_readWords_p76_4 (nI 0) tps pts lns brs ors stp hasP fld laid told rws cms cmT cmS isN trs tp ws wl wm)) (nI brs) (nI ors) stp hasP fld laid told (nI rws) cms (nI cmT) cmS isN (nI trs))), (78, (zI G 10 (upd lo2 p2 (nI ((((X7_readWords_c84 (nI 0) tps pts lns brs ors stp hasP fld laid told rws cms cmT cmS isN trs tp ws wl wm) ((5 * w) + i)).toNatClampNeg) + 97))))), (79, (zI G 10 (upd po2 (((X7_readWords_c84 (nI 0) tps pts lns brs ors stp hasP fld laid told rws cms cmT cmS isN trs tp ws wl wm) ((5 * w) + i)).toNatClampNeg) (nI p2)))), (80, (zI G 12 ls2)), (81, (zI G 60 lp2)), (82, (zI G 12 lm2)), (83, (zI G 13 (X7_readWords_c83 (nI 0) tps pts lns brs ors stp hasP fld laid told rws cms cmT cmS isN trs tp ws wl wm))), (84, (zI G 65 (X7_readWords_c84 (nI 0) tps pts lns brs ors stp hasP fld laid told rws cms cmT cmS isN trs tp ws wl wm))), (85, (zI G 13 (X7_readWords_c85 (nI 0) tps pts lns brs ors stp hasP fld laid told rws cms cmT cmS isN trs tp ws wl wm)))]) rfl ?_
                  refine z_aload_n dX7_read_156 rfl rfl ?_
                  refine z_dup dX7_read_157 rfl rfl ?_
                  refine z_get dX7_read_158 rfl hiX7_read_X7 3 lkX7_read_143 (Nat.le_of_ble_eq_true rfl) rfl rfl (by decide) rfl ?_
                  refine z_iconst (v := nI 1) dX7_read_161 rfl (by decide) ?_
                  refine z_iadd dX7_read_162 rfl ?_
                  refine z_top (show (nI p2) + (nI 1) = nI (p2 + 1) from (zq_add rfl rfl)) ?_
                  refine z_putN (e9 := (oMod G (nI 0) (nI 0) (nI (p2 + 1)) (nI (X7_readWords_p76_4 (nI 0) tps pts lns brs ors stp hasP fld laid told rws cms cmT cmS isN trs tp ws wl wm)) (nI (X7_readWords_p76_4 (nI 0) tps pts lns brs ors stp hasP fld laid told rws cms cmT cmS isN trs tp ws wl wm)) (nI brs) (nI ors) stp hasP fld laid told (nI rws) cms (nI cmT) cmS isN (nI trs))) tyX7 tyX7_ok nmX7 dX7_read_163 rfl hiX7_read_X7 3 lkX7_read_143 rfl (by decide +kernel) (Nat.le_of_ble_eq_true rfl) rfl rfl (by decide) (Nat.le_of_ble_eq_true rfl) rfl rfl rfl ?_
                  refine z_n (L' := [(76, (oMod G (nI 0) (nI 0) (nI (p2 + 1)) (nI (X7_readWords_p76_4 (nI 0) tps pts lns brs ors stp hasP fld laid told rws cms cmT cmS isN trs tp ws wl wm)) (nI (X7_readWords_p76_4 (nI 0) tps pts lns brs ors stp hasP fld laid told rws cms cmT cmS isN trs tp ws wl wm)) (nI brs) (nI ors) stp hasP fld laid told (nI rws) cms (nI cmT) cmS isN (nI trs))), (78, (zI G 10 (upd lo2 p2 (nI ((((X7_readWords_c84 (nI 0) tps pts lns brs ors stp hasP fld laid told rws cms cmT cmS isN trs tp ws wl wm) ((5 * w) + i)).toNatClampNeg) + 97))))), (79, (zI G 10 (upd po2 (((X7_readWords_c84 (nI 0) tps pts lns brs ors stp hasP fld laid told rws cms cmT cmS isN trs tp ws wl wm) ((5 * w) + i)).toNatClampNeg) (nI p2)))), (80, (zI G 12 ls2)), (81, (zI G 60 lp2)), (82, (zI G 12 lm2)), (83, (zI G 13 (X7_readWords_c83 (nI 0) tps pts lns brs ors stp hasP fld laid told rws cms cmT cmS isN trs tp ws wl wm))), (84, (zI G 65 (X7_readWords_c84 (nI 0) tps pts lns brs ors stp hasP fld laid told rws cms cmT cmS isN trs tp ws wl wm))), (85, (zI G 13 (X7_readWords_c85 (nI 0) tps pts lns brs ors stp hasP fld laid told rws cms cmT cmS isN trs tp ws wl wm)))]) rfl ?_
                  refine z_aload_n dX7_read_166 rfl rfl ?_
                  refine z_get dX7_read_167 rfl hiX7_read_X7 8 lkX7_read_22 (Nat.le_of_ble_eq_true rfl) rfl rfl (by decide) rfl ?_
                  refine z_iconst (v := nI 5) dX7_read_170 rfl (by decide) ?_
                  refine z_iload_n dX7_read_171 rfl rfl ?_
                  refine z_imul dX7_read_172 rfl ?_
                  refine z_iload dX7_read_173 rfl rfl ?_
                  refine z_iadd dX7_read_175 rfl ?_
                  refine z_aload_n dX7_read_176 rfl rfl ?_
                  refine z_get dX7_read_177 rfl hiX7_read_X7 6 lkX7_read_16 (Nat.le_of_ble_eq_true rfl) rfl rfl (by decide) rfl ?_
                  refine z_iload dX7_read_180 rfl rfl ?_
                  refine z_ialdN (j := ((X7_readWords_c84 (nI 0) tps pts lns brs ors stp hasP fld laid told rws cms cmT cmS isN trs tp ws wl wm) ((5 * w) + i)).toNatClampNeg) dX7_read_182 rfl (Nat.le_of_ble_eq_true rfl) rfl (rfl) (by omega) (by decide) ?_
                  refine z_iastN (j := (5 * w) + i) dX7_read_183 rfl (Nat.le_of_ble_eq_true rfl) rfl ((zq_add (zq_mul rfl rfl) rfl)) (by omega) (by decide) ?_
                  refine z_n (L' := [(76, (oMod G (nI 0) (nI 0) (nI (p2 + 1)) (nI (X7_readWords_p76_4 (nI 0) tps pts lns brs ors stp hasP fld laid told rws cms cmT cmS isN trs tp ws wl wm)) (nI (X7_readWords_p76_4 (nI 0) tps pts lns brs ors stp hasP fld laid told rws cms cmT cmS isN trs tp ws wl wm)) (nI brs) (nI ors) stp hasP fld laid told (nI rws) cms (nI cmT) cmS isN (nI trs))), (78, (zI G 10 (upd lo2 p2 (nI ((((X7_readWords_c84 (nI 0) tps pts lns brs ors stp hasP fld laid told rws cms cmT cmS isN trs tp ws wl wm) ((5 * w) + i)).toNatClampNeg) + 97))))), (79, (zI G 10 (upd po2 (((X7_readWords_c84 (nI 0) tps pts lns brs ors stp hasP fld laid told rws cms cmT cmS isN trs tp ws wl wm) ((5 * w) + i)).toNatClampNeg) (nI p2)))), (80, (zI G 12 ls2)), (81, (zI G 60 (upd lp2 ((5 * w) + i) ((upd po2 (((X7_readWords_c84 (nI 0) tps pts lns brs ors stp hasP fld laid told rws cms cmT cmS isN trs tp ws wl wm) ((5 * w) + i)).toNatClampNeg) (nI p2)) (((X7_readWords_c84 (nI 0) tps pts lns brs ors stp hasP fld laid told rws cms cmT cmS isN trs tp ws wl wm) ((5 * w) + i)).toNatClampNeg))))), (82, (zI G 12 lm2)), (83, (zI G 13 (X7_readWords_c83 (nI 0) tps pts lns brs ors stp hasP fld laid told rws cms cmT cmS isN trs tp ws wl wm))), (84, (zI G 65 (X7_readWords_c84 (nI 0) tps pts lns brs ors stp hasP fld laid told rws cms cmT cmS isN trs tp ws wl wm))), (85, (zI G 13 (X7_readWords_c85 (nI 0) tps pts lns brs ors stp hasP fld laid told rws cms cmT cmS isN trs tp ws wl wm)))]) rfl ?_
                  refine z_aload_n dX7_read_184 rfl rfl ?_
                  refine z_get dX7_read_185 rfl hiX7_read_X7 9 lkX7_read_25 (Nat.le_of_ble_eq_true rfl) rfl rfl (by decide) rfl ?_
                  refine z_iload_n dX7_read_188 rfl rfl ?_
                  refine z_dup2 dX7_read_189 rfl rfl rfl ?_
                  refine z_ialdN (j := w) dX7_read_190 rfl (Nat.le_of_ble_eq_true rfl) rfl (rfl) (by omega) (by decide) ?_
                  refine z_iconst (v := nI 1) dX7_read_191 rfl (by decide) ?_
                  refine z_aload_n dX7_read_192 rfl rfl ?_
                  refine z_get dX7_read_193 rfl hiX7_read_X7 6 lkX7_read_16 (Nat.le_of_ble_eq_true rfl) rfl rfl (by decide) rfl ?_
                  refine z_iload dX7_read_196 rfl rfl ?_
                  refine z_ialdN (j := ((X7_readWords_c84 (nI 0) tps pts lns brs ors stp hasP fld laid told rws cms cmT cmS isN trs tp ws wl wm) ((5 * w) + i)).toNatClampNeg) dX7_read_198 rfl (Nat.le_of_ble_eq_true rfl) rfl (rfl) (by omega) (by decide) ?_
                  refine z_ishl dX7_read_199 rfl ?_
                  refine z_ior dX7_read_200 rfl ?_
                  refine z_iastN (j := w) dX7_read_201 rfl (Nat.le_of_ble_eq_true rfl) rfl (rfl) (by omega) (by decide) ?_
                  refine z_n (L' := [(76, (oMod G (nI 0) (nI 0) (nI (p2 + 1)) (nI (X7_readWords_p76_4 (nI 0) tps pts lns brs ors stp hasP fld laid told rws cms cmT cmS isN trs tp ws wl wm)) (nI (X7_readWords_p76_4 (nI 0) tps pts lns brs ors stp hasP fld laid told rws cms cmT cmS isN trs tp ws wl wm)) (nI brs) (nI ors) stp hasP fld laid told (nI rws) cms (nI cmT) cmS isN (nI trs))), (78, (zI G 10 (upd lo2 p2 (nI ((((X7_readWords_c84 (nI 0) tps pts lns brs ors stp hasP fld laid told rws cms cmT cmS isN trs tp ws wl wm) ((5 * w) + i)).toNatClampNeg) + 97))))), (79, (zI G 10 (upd po2 (((X7_readWords_c84 (nI 0) tps pts lns brs ors stp hasP fld laid told rws cms cmT cmS isN trs tp ws wl wm) ((5 * w) + i)).toNatClampNeg) (nI p2)))), (80, (zI G 12 ls2)), (81, (zI G 60 (upd lp2 ((5 * w) + i) ((upd po2 (((X7_readWords_c84 (nI 0) tps pts lns brs ors stp hasP fld laid told rws cms cmT cmS isN trs tp ws wl wm) ((5 * w) + i)).toNatClampNeg) (nI p2)) (((X7_readWords_c84 (nI 0) tps pts lns brs ors stp hasP fld laid told rws cms cmT cmS isN trs tp ws wl wm) ((5 * w) + i)).toNatClampNeg))))), (82, (zI G 12 (upd lm2 w ((lm2 w) ||| ((nI 1) <<< (((upd po2 (((X7_readWords_c84 (nI 0) tps pts lns brs ors stp hasP fld laid told rws cms cmT cmS isN trs tp ws wl wm) ((5 * w) + i)).toNatClampNeg) (nI p2)) (((X7_readWords_c84 (nI 0) tps pts lns brs ors stp hasP fld laid told rws cms cmT cmS isN trs tp ws wl wm) ((5 * w) + i)).toNatClampNeg)) &&& 31)))))), (83, (zI G 13 (X7_readWords_c83 (nI 0) tps pts lns brs ors stp hasP fld laid told rws cms cmT cmS isN trs tp ws wl wm))), (84, (zI G 65 (X7_readWords_c84 (nI 0) tps pts lns brs ors stp hasP fld laid told rws cms cmT cmS isN trs tp ws wl wm))), (85, (zI G 13 (X7_readWords_c85 (nI 0) tps pts lns brs ors stp hasP fld laid told rws cms cmT cmS isN trs tp ws wl wm)))]) rfl ?_
                  refine z_iinc_2 (v := nI (all2 + 1)) dX7_read_202 rfl (zinc _) ?_
                  refine z_iinc_4 (v := nI (i + 1)) dX7_read_205 rfl (zinc _) ?_
                  refine z_goto (tgt := 95) dX7_read_208 (by decide) ?_
                  have K9 := K
                  try simp only [X7_read_L95_F, if_pos c128] at K9
                  exact K9 _
            · intro hI y5
              refine z_iload dX7_read_95 rfl rfl ?_
              refine z_aload_n dX7_read_97 rfl rfl ?_
              refine z_get dX7_read_98 rfl hiX7_read_X7 11 lkX7_read_28 (Nat.le_of_ble_eq_true rfl) rfl rfl (by decide) rfl ?_
              refine z_iload_n dX7_read_101 rfl rfl ?_
              refine z_ialdN (j := w) dX7_read_102 rfl (Nat.le_of_ble_eq_true rfl) rfl (rfl) (by omega) (by decide) ?_
              refine z_top (show (X7_readWords_c83 (nI 0) tps pts lns brs ors stp hasP fld laid told rws cms cmT cmS isN trs tp ws wl wm) w = nI (((X7_readWords_c83 (nI 0) tps pts lns brs ors stp hasP fld laid told rws cms cmT cmS isN trs tp ws wl wm) w).toNatClampNeg) from zvin (hws _ hw9)) ?_
              refine z_icmp_ge (tgt := 211) dX7_read_103 rfl (by decide) (fun c103 => ?_) (fun c103 => ?_)
              · refine z_iinc_3 (v := nI (w + 1)) dX7_read_211 rfl (zinc _) ?_
                refine z_goto (tgt := 65) dX7_read_214 (by decide) ?_
                exact K _ _
              · exact absurd (nI_le (Nat.le_refl _) (by omega)) c103
        · intro hI y4 y5
          refine z_iload_n dX7_read_65 rfl rfl ?_
          refine z_aload_n dX7_read_66 rfl rfl ?_
          refine z_get dX7_read_67 rfl hiX7_read_X7 10 lkX7_read_132 (Nat.le_of_ble_eq_true rfl) rfl rfl (by decide) rfl ?_
          refine z_icmp_ge (tgt := 217) dX7_read_70 rfl (by decide) (fun c70 => ?_) (fun c70 => ?_)
          · refine z_aload_n dX7_read_217 rfl rfl ?_
            refine z_iconst (v := nI 0) dX7_read_218 rfl (by decide) ?_
            refine z_putN (e9 := (oMod G (nI 0) (nI 0) (nI ((zfold (X7_read_L65_F tps pts lns brs ors stp hasP fld laid told rws cms cmT cmS isN trs tp ws wl wm) (X7_readWords_p76_4 (nI 0) tps pts lns brs ors stp hasP fld laid told rws cms cmT cmS isN trs tp ws wl wm) 0 (0, 0, lo, (zfold (X7_read_L41_F) 10 0 pof), ls, lp, lm)).1)) (nI (X7_readWords_p76_4 (nI 0) tps pts lns brs ors stp hasP fld laid told rws cms cmT cmS isN trs tp ws wl wm)) (nI (X7_readWords_p76_4 (nI 0) tps pts lns brs ors stp hasP fld laid told rws cms cmT cmS isN trs tp ws wl wm)) (nI 0) (nI ors) stp hasP fld laid told (nI rws) cms (nI cmT) cmS isN (nI trs))) tyX7 tyX7_ok nmX7 dX7_read_219 rfl hiX7_read_X7 14 lkX7_read_149 rfl (by decide +kernel) (Nat.le_of_ble_eq_true rfl) rfl rfl (by decide) (Nat.le_of_ble_eq_true rfl) rfl rfl rfl ?_
            refine z_n (L' := [(76, (oMod G (nI 0) (nI 0) (nI ((zfold (X7_read_L65_F tps pts lns brs ors stp hasP fld laid told rws cms cmT cmS isN trs tp ws wl wm) (X7_readWords_p76_4 (nI 0) tps pts lns brs ors stp hasP fld laid told rws cms cmT cmS isN trs tp ws wl wm) 0 (0, 0, lo, (zfold (X7_read_L41_F) 10 0 pof), ls, lp, lm)).1)) (nI (X7_readWords_p76_4 (nI 0) tps pts lns brs ors stp hasP fld laid told rws cms cmT cmS isN trs tp ws wl wm)) (nI (X7_readWords_p76_4 (nI 0) tps pts lns brs ors stp hasP fld laid told rws cms cmT cmS isN trs tp ws wl wm)) (nI 0) (nI ors) stp hasP fld laid told (nI rws) cms (nI cmT) cmS isN (nI trs))), (78, (zI G 10 ((zfold (X7_read_L65_F tps pts lns brs ors stp hasP fld laid told rws cms cmT cmS isN trs tp ws wl wm) (X7_readWords_p76_4 (nI 0) tps pts lns brs ors stp hasP fld laid told rws cms cmT cmS isN trs tp ws wl wm) 0 (0, 0, lo, (zfold (X7_read_L41_F) 10 0 pof), ls, lp, lm)).2.2.1))), (79, (zI G 10 ((zfold (X7_read_L65_F tps pts lns brs ors stp hasP fld laid told rws cms cmT cmS isN trs tp ws wl wm) (X7_readWords_p76_4 (nI 0) tps pts lns brs ors stp hasP fld laid told rws cms cmT cmS isN trs tp ws wl wm) 0 (0, 0, lo, (zfold (X7_read_L41_F) 10 0 pof), ls, lp, lm)).2.2.2.1))), (80, (zI G 12 ((zfold (X7_read_L65_F tps pts lns brs ors stp hasP fld laid told rws cms cmT cmS isN trs tp ws wl wm) (X7_readWords_p76_4 (nI 0) tps pts lns brs ors stp hasP fld laid told rws cms cmT cmS isN trs tp ws wl wm) 0 (0, 0, lo, (zfold (X7_read_L41_F) 10 0 pof), ls, lp, lm)).2.2.2.2.1))), (81, (zI G 60 ((zfold (X7_read_L65_F tps pts lns brs ors stp hasP fld laid told rws cms cmT cmS isN trs tp ws wl wm) (X7_readWords_p76_4 (nI 0) tps pts lns brs ors stp hasP fld laid told rws cms cmT cmS isN trs tp ws wl wm) 0 (0, 0, lo, (zfold (X7_read_L41_F) 10 0 pof), ls, lp, lm)).2.2.2.2.2.1))), (82, (zI G 12 ((zfold (X7_read_L65_F tps pts lns brs ors stp hasP fld laid told rws cms cmT cmS isN trs tp ws wl wm) (X7_readWords_p76_4 (nI 0) tps pts lns brs ors stp hasP fld laid told rws cms cmT cmS isN trs tp ws wl wm) 0 (0, 0, lo, (zfold (X7_read_L41_F) 10 0 pof), ls, lp, lm)).2.2.2.2.2.2))), (83, (zI G 13 (X7_readWords_c83 (nI 0) tps pts lns brs ors stp hasP fld laid told rws cms cmT cmS isN trs tp ws wl wm))), (84, (zI G 65 (X7_readWords_c84 (nI 0) tps pts lns brs ors stp hasP fld laid told rws cms cmT cmS isN trs tp ws wl wm))), (85, (zI G 13 (X7_readWords_c85 (nI 0) tps pts lns brs ors stp hasP fld laid told rws cms cmT cmS isN trs tp ws wl wm)))]) rfl ?_
            refine z_aload_n dX7_read_222 rfl rfl ?_
            refine z_iconst (v := nI 0) dX7_read_223 rfl (by decide) ?_
            refine z_putN (e9 := (oMod G (nI 0) (nI 0) (nI ((zfold (X7_read_L65_F tps pts lns brs ors stp hasP fld laid told rws cms cmT cmS isN trs tp ws wl wm) (X7_readWords_p76_4 (nI 0) tps pts lns brs ors stp hasP fld laid told rws cms cmT cmS isN trs tp ws wl wm) 0 (0, 0, lo, (zfold (X7_read_L41_F) 10 0 pof), ls, lp, lm)).1)) (nI (X7_readWords_p76_4 (nI 0) tps pts lns brs ors stp hasP fld laid told rws cms cmT cmS isN trs tp ws wl wm)) (nI (X7_readWords_p76_4 (nI 0) tps pts lns brs ors stp hasP fld laid told rws cms cmT cmS isN trs tp ws wl wm)) (nI 0) (nI 0) stp hasP fld laid told (nI rws) cms (nI cmT) cmS isN (nI trs))) tyX7 tyX7_ok nmX7 dX7_read_224 rfl hiX7_read_X7 16 lkX7_read_152 rfl (by decide +kernel) (Nat.le_of_ble_eq_true rfl) rfl rfl (by decide) (Nat.le_of_ble_eq_true rfl) rfl rfl rfl ?_
            refine z_n (L' := [(76, (oMod G (nI 0) (nI 0) (nI ((zfold (X7_read_L65_F tps pts lns brs ors stp hasP fld laid told rws cms cmT cmS isN trs tp ws wl wm) (X7_readWords_p76_4 (nI 0) tps pts lns brs ors stp hasP fld laid told rws cms cmT cmS isN trs tp ws wl wm) 0 (0, 0, lo, (zfold (X7_read_L41_F) 10 0 pof), ls, lp, lm)).1)) (nI (X7_readWords_p76_4 (nI 0) tps pts lns brs ors stp hasP fld laid told rws cms cmT cmS isN trs tp ws wl wm)) (nI (X7_readWords_p76_4 (nI 0) tps pts lns brs ors stp hasP fld laid told rws cms cmT cmS isN trs tp ws wl wm)) (nI 0) (nI 0) stp hasP fld laid told (nI rws) cms (nI cmT) cmS isN (nI trs))), (78, (zI G 10 ((zfold (X7_read_L65_F tps pts lns brs ors stp hasP fld laid told rws cms cmT cmS isN trs tp ws wl wm) (X7_readWords_p76_4 (nI 0) tps pts lns brs ors stp hasP fld laid told rws cms cmT cmS isN trs tp ws wl wm) 0 (0, 0, lo, (zfold (X7_read_L41_F) 10 0 pof), ls, lp, lm)).2.2.1))), (79, (zI G 10 ((zfold (X7_read_L65_F tps pts lns brs ors stp hasP fld laid told rws cms cmT cmS isN trs tp ws wl wm) (X7_readWords_p76_4 (nI 0) tps pts lns brs ors stp hasP fld laid told rws cms cmT cmS isN trs tp ws wl wm) 0 (0, 0, lo, (zfold (X7_read_L41_F) 10 0 pof), ls, lp, lm)).2.2.2.1))), (80, (zI G 12 ((zfold (X7_read_L65_F tps pts lns brs ors stp hasP fld laid told rws cms cmT cmS isN trs tp ws wl wm) (X7_readWords_p76_4 (nI 0) tps pts lns brs ors stp hasP fld laid told rws cms cmT cmS isN trs tp ws wl wm) 0 (0, 0, lo, (zfold (X7_read_L41_F) 10 0 pof), ls, lp, lm)).2.2.2.2.1))), (81, (zI G 60 ((zfold (X7_read_L65_F tps pts lns brs ors stp hasP fld laid told rws cms cmT cmS isN trs tp ws wl wm) (X7_readWords_p76_4 (nI 0) tps pts lns brs ors stp hasP fld laid told rws cms cmT cmS isN trs tp ws wl wm) 0 (0, 0, lo, (zfold (X7_read_L41_F) 10 0 pof), ls, lp, lm)).2.2.2.2.2.1))), (82, (zI G 12 ((zfold (X7_read_L65_F tps pts lns brs ors stp hasP fld laid told rws cms cmT cmS isN trs tp ws wl wm) (X7_readWords_p76_4 (nI 0) tps pts lns brs ors stp hasP fld laid told rws cms cmT cmS isN trs tp ws wl wm) 0 (0, 0, lo, (zfold (X7_read_L41_F) 10 0 pof), ls, lp, lm)).2.2.2.2.2.2))), (83, (zI G 13 (X7_readWords_c83 (nI 0) tps pts lns brs ors stp hasP fld laid told rws cms cmT cmS isN trs tp ws wl wm))), (84, (zI G 65 (X7_readWords_c84 (nI 0) tps pts lns brs ors stp hasP fld laid told rws cms cmT cmS isN trs tp ws wl wm))), (85, (zI G 13 (X7_readWords_c85 (nI 0) tps pts lns brs ors stp hasP fld laid told rws cms cmT cmS isN trs tp ws wl wm)))]) rfl ?_
            refine z_aload_n dX7_read_227 rfl rfl ?_
            refine z_iconst (v := nI 0) dX7_read_228 rfl (by decide) ?_
            refine z_putN (e9 := (oMod G (nI 0) (nI 0) (nI ((zfold (X7_read_L65_F tps pts lns brs ors stp hasP fld laid told rws cms cmT cmS isN trs tp ws wl wm) (X7_readWords_p76_4 (nI 0) tps pts lns brs ors stp hasP fld laid told rws cms cmT cmS isN trs tp ws wl wm) 0 (0, 0, lo, (zfold (X7_read_L41_F) 10 0 pof), ls, lp, lm)).1)) (nI (X7_readWords_p76_4 (nI 0) tps pts lns brs ors stp hasP fld laid told rws cms cmT cmS isN trs tp ws wl wm)) (nI (X7_readWords_p76_4 (nI 0) tps pts lns brs ors stp hasP fld laid told rws cms cmT cmS isN trs tp ws wl wm)) (nI 0) (nI 0) stp hasP fld laid told (nI 0) cms (nI cmT) cmS isN (nI trs))) tyX7 tyX7_ok nmX7 dX7_read_229 rfl hiX7_read_X7 32 lkX7_read_155 rfl (by decide +kernel) (Nat.le_of_ble_eq_true rfl) rfl rfl (by decide) (Nat.le_of_ble_eq_true rfl) rfl rfl rfl ?_
            refine z_n (L' := [(76, (oMod G (nI 0) (nI 0) (nI ((zfold (X7_read_L65_F tps pts lns brs ors stp hasP fld laid told rws cms cmT cmS isN trs tp ws wl wm) (X7_readWords_p76_4 (nI 0) tps pts lns brs ors stp hasP fld laid told rws cms cmT cmS isN trs tp ws wl wm) 0 (0, 0, lo, (zfold (X7_read_L41_F) 10 0 pof), ls, lp, lm)).1)) (nI (X7_readWords_p76_4 (nI 0) tps pts lns brs ors stp hasP fld laid told rws cms cmT cmS isN trs tp ws wl wm)) (nI (X7_readWords_p76_4 (nI 0) tps pts lns brs ors stp hasP fld laid told rws cms cmT cmS isN trs tp ws wl wm)) (nI 0) (nI 0) stp hasP fld laid told (nI 0) cms (nI cmT) cmS isN (nI trs))), (78, (zI G 10 ((zfold (X7_read_L65_F tps pts lns brs ors stp hasP fld laid told rws cms cmT cmS isN trs tp ws wl wm) (X7_readWords_p76_4 (nI 0) tps pts lns brs ors stp hasP fld laid told rws cms cmT cmS isN trs tp ws wl wm) 0 (0, 0, lo, (zfold (X7_read_L41_F) 10 0 pof), ls, lp, lm)).2.2.1))), (79, (zI G 10 ((zfold (X7_read_L65_F tps pts lns brs ors stp hasP fld laid told rws cms cmT cmS isN trs tp ws wl wm) (X7_readWords_p76_4 (nI 0) tps pts lns brs ors stp hasP fld laid told rws cms cmT cmS isN trs tp ws wl wm) 0 (0, 0, lo, (zfold (X7_read_L41_F) 10 0 pof), ls, lp, lm)).2.2.2.1))), (80, (zI G 12 ((zfold (X7_read_L65_F tps pts lns brs ors stp hasP fld laid told rws cms cmT cmS isN trs tp ws wl wm) (X7_readWords_p76_4 (nI 0) tps pts lns brs ors stp hasP fld laid told rws cms cmT cmS isN trs tp ws wl wm) 0 (0, 0, lo, (zfold (X7_read_L41_F) 10 0 pof), ls, lp, lm)).2.2.2.2.1))), (81, (zI G 60 ((zfold (X7_read_L65_F tps pts lns brs ors stp hasP fld laid told rws cms cmT cmS isN trs tp ws wl wm) (X7_readWords_p76_4 (nI 0) tps pts lns brs ors stp hasP fld laid told rws cms cmT cmS isN trs tp ws wl wm) 0 (0, 0, lo, (zfold (X7_read_L41_F) 10 0 pof), ls, lp, lm)).2.2.2.2.2.1))), (82, (zI G 12 ((zfold (X7_read_L65_F tps pts lns brs ors stp hasP fld laid told rws cms cmT cmS isN trs tp ws wl wm) (X7_readWords_p76_4 (nI 0) tps pts lns brs ors stp hasP fld laid told rws cms cmT cmS isN trs tp ws wl wm) 0 (0, 0, lo, (zfold (X7_read_L41_F) 10 0 pof), ls, lp, lm)).2.2.2.2.2.2))), (83, (zI G 13 (X7_readWords_c83 (nI 0) tps pts lns brs ors stp hasP fld laid told rws cms cmT cmS isN trs tp ws wl wm))), (84, (zI G 65 (X7_readWords_c84 (nI 0) tps pts lns brs ors stp hasP fld laid told rws cms cmT cmS isN trs tp ws wl wm))), (85, (zI G 13 (X7_readWords_c85 (nI 0) tps pts lns brs ors stp hasP fld laid told rws cms cmT cmS isN trs tp ws wl wm)))]) rfl ?_
            refine z_aload_n dX7_read_232 rfl rfl ?_
            refine z_iconst (v := nI 0) dX7_read_233 rfl (by decide) ?_
            refine z_putN (e9 := (oMod G (nI 0) (nI 0) (nI ((zfold (X7_read_L65_F tps pts lns brs ors stp hasP fld laid told rws cms cmT cmS isN trs tp ws wl wm) (X7_readWords_p76_4 (nI 0) tps pts lns brs ors stp hasP fld laid told rws cms cmT cmS isN trs tp ws wl wm) 0 (0, 0, lo, (zfold (X7_read_L41_F) 10 0 pof), ls, lp, lm)).1)) (nI (X7_readWords_p76_4 (nI 0) tps pts lns brs ors stp hasP fld laid told rws cms cmT cmS isN trs tp ws wl wm)) (nI (X7_readWords_p76_4 (nI 0) tps pts lns brs ors stp hasP fld laid told rws cms cmT cmS isN trs tp ws wl wm)) (nI 0) (nI 0) stp (nI 0) fld laid told (nI 0) cms (nI cmT) cmS isN (nI trs))) tyX7 tyX7_ok nmX7 dX7_read_234 rfl hiX7_read_X7 20 lkX7_read_158 rfl (by decide +kernel) (Nat.le_of_ble_eq_true rfl) rfl rfl (by decide) (Nat.le_of_ble_eq_true rfl) rfl rfl rfl ?_
            refine z_n (L' := [(76, (oMod G (nI 0) (nI 0) (nI ((zfold (X7_read_L65_F tps pts lns brs ors stp hasP fld laid told rws cms cmT cmS isN trs tp ws wl wm) (X7_readWords_p76_4 (nI 0) tps pts lns brs ors stp hasP fld laid told rws cms cmT cmS isN trs tp ws wl wm) 0 (0, 0, lo, (zfold (X7_read_L41_F) 10 0 pof), ls, lp, lm)).1)) (nI (X7_readWords_p76_4 (nI 0) tps pts lns brs ors stp hasP fld laid told rws cms cmT cmS isN trs tp ws wl wm)) (nI (X7_readWords_p76_4 (nI 0) tps pts lns brs ors stp hasP fld laid told rws cms cmT cmS isN trs tp ws wl wm)) (nI 0) (nI 0) stp (nI 0) fld laid told (nI 0) cms (nI cmT) cmS isN (nI trs))), (78, (zI G 10 ((zfold (X7_read_L65_F tps pts lns brs ors stp hasP fld laid told rws cms cmT cmS isN trs tp ws wl wm) (X7_readWords_p76_4 (nI 0) tps pts lns brs ors stp hasP fld laid told rws cms cmT cmS isN trs tp ws wl wm) 0 (0, 0, lo, (zfold (X7_read_L41_F) 10 0 pof), ls, lp, lm)).2.2.1))), (79, (zI G 10 ((zfold (X7_read_L65_F tps pts lns brs ors stp hasP fld laid told rws cms cmT cmS isN trs tp ws wl wm) (X7_readWords_p76_4 (nI 0) tps pts lns brs ors stp hasP fld laid told rws cms cmT cmS isN trs tp ws wl wm) 0 (0, 0, lo, (zfold (X7_read_L41_F) 10 0 pof), ls, lp, lm)).2.2.2.1))), (80, (zI G 12 ((zfold (X7_read_L65_F tps pts lns brs ors stp hasP fld laid told rws cms cmT cmS isN trs tp ws wl wm) (X7_readWords_p76_4 (nI 0) tps pts lns brs ors stp hasP fld laid told rws cms cmT cmS isN trs tp ws wl wm) 0 (0, 0, lo, (zfold (X7_read_L41_F) 10 0 pof), ls, lp, lm)).2.2.2.2.1))), (81, (zI G 60 ((zfold (X7_read_L65_F tps pts lns brs ors stp hasP fld laid told rws cms cmT cmS isN trs tp ws wl wm) (X7_readWords_p76_4 (nI 0) tps pts lns brs ors stp hasP fld laid told rws cms cmT cmS isN trs tp ws wl wm) 0 (0, 0, lo, (zfold (X7_read_L41_F) 10 0 pof), ls, lp, lm)).2.2.2.2.2.1))), (82, (zI G 12 ((zfold (X7_read_L65_F tps pts lns brs ors stp hasP fld laid told rws cms cmT cmS isN trs tp ws wl wm) (X7_readWords_p76_4 (nI 0) tps pts lns brs ors stp hasP fld laid told rws cms cmT cmS isN trs tp ws wl wm) 0 (0, 0, lo, (zfold (X7_read_L41_F) 10 0 pof), ls, lp, lm)).2.2.2.2.2.2))), (83, (zI G 13 (X7_readWords_c83 (nI 0) tps pts lns brs ors stp hasP fld laid told rws cms cmT cmS isN trs tp ws wl wm))), (84, (zI G 65 (X7_readWords_c84 (nI 0) tps pts lns brs ors stp hasP fld laid told rws cms cmT cmS isN trs tp ws wl wm))), (85, (zI G 13 (X7_readWords_c85 (nI 0) tps pts lns brs ors stp hasP fld laid told rws cms cmT cmS isN trs tp ws wl wm)))]) rfl ?_
            refine z_aload_n dX7_read_237 rfl rfl ?_
            refine z_iconst (v := nI 0) dX7_read_238 rfl (by decide) ?_
            refine z_putN (e9 := (oMod G (nI 0) (nI 0) (nI ((zfold (X7_read_L65_F tps pts lns brs ors stp hasP fld laid told rws cms cmT cmS isN trs tp ws wl wm) (X7_readWords_p76_4 (nI 0) tps pts lns brs ors stp hasP fld laid told rws cms cmT cmS isN trs tp ws wl wm) 0 (0, 0, lo, (zfold (X7_read_L41_F) 10 0 pof), ls, lp, lm)).1)) (nI (X7_readWords_p76_4 (nI 0) tps pts lns brs ors stp hasP fld laid told rws cms cmT cmS isN trs tp ws wl wm)) (nI (X7_readWords_p76_4 (nI 0) tps pts lns brs ors stp hasP fld laid told rws cms cmT cmS isN trs tp ws wl wm)) (nI 0) (nI 0) stp (nI 0) fld laid told (nI 0) cms (nI cmT) cmS (nI 0) (nI trs))) tyX7 tyX7_ok nmX7 dX7_read_239 rfl hiX7_read_X7 47 lkX7_read_162 rfl (by decide +kernel) (Nat.le_of_ble_eq_true rfl) rfl rfl (by decide) (Nat.le_of_ble_eq_true rfl) rfl rfl rfl ?_
            refine z_n (L' := [(76, (oMod G (nI 0) (nI 0) (nI ((zfold (X7_read_L65_F tps pts lns brs ors stp hasP fld laid told rws cms cmT cmS isN trs tp ws wl wm) (X7_readWords_p76_4 (nI 0) tps pts lns brs ors stp hasP fld laid told rws cms cmT cmS isN trs tp ws wl wm) 0 (0, 0, lo, (zfold (X7_read_L41_F) 10 0 pof), ls, lp, lm)).1)) (nI (X7_readWords_p76_4 (nI 0) tps pts lns brs ors stp hasP fld laid told rws cms cmT cmS isN trs tp ws wl wm)) (nI (X7_readWords_p76_4 (nI 0) tps pts lns brs ors stp hasP fld laid told rws cms cmT cmS isN trs tp ws wl wm)) (nI 0) (nI 0) stp (nI 0) fld laid told (nI 0) cms (nI cmT) cmS (nI 0) (nI trs))), (78, (zI G 10 ((zfold (X7_read_L65_F tps pts lns brs ors stp hasP fld laid told rws cms cmT cmS isN trs tp ws wl wm) (X7_readWords_p76_4 (nI 0) tps pts lns brs ors stp hasP fld laid told rws cms cmT cmS isN trs tp ws wl wm) 0 (0, 0, lo, (zfold (X7_read_L41_F) 10 0 pof), ls, lp, lm)).2.2.1))), (79, (zI G 10 ((zfold (X7_read_L65_F tps pts lns brs ors stp hasP fld laid told rws cms cmT cmS isN trs tp ws wl wm) (X7_readWords_p76_4 (nI 0) tps pts lns brs ors stp hasP fld laid told rws cms cmT cmS isN trs tp ws wl wm) 0 (0, 0, lo, (zfold (X7_read_L41_F) 10 0 pof), ls, lp, lm)).2.2.2.1))), (80, (zI G 12 ((zfold (X7_read_L65_F tps pts lns brs ors stp hasP fld laid told rws cms cmT cmS isN trs tp ws wl wm) (X7_readWords_p76_4 (nI 0) tps pts lns brs ors stp hasP fld laid told rws cms cmT cmS isN trs tp ws wl wm) 0 (0, 0, lo, (zfold (X7_read_L41_F) 10 0 pof), ls, lp, lm)).2.2.2.2.1))), (81, (zI G 60 ((zfold (X7_read_L65_F tps pts lns brs ors stp hasP fld laid told rws cms cmT cmS isN trs tp ws wl wm) (X7_readWords_p76_4 (nI 0) tps pts lns brs ors stp hasP fld laid told rws cms cmT cmS isN trs tp ws wl wm) 0 (0, 0, lo, (zfold (X7_read_L41_F) 10 0 pof), ls, lp, lm)).2.2.2.2.2.1))), (82, (zI G 12 ((zfold (X7_read_L65_F tps pts lns brs ors stp hasP fld laid told rws cms cmT cmS isN trs tp ws wl wm) (X7_readWords_p76_4 (nI 0) tps pts lns brs ors stp hasP fld laid told rws cms cmT cmS isN trs tp ws wl wm) 0 (0, 0, lo, (zfold (X7_read_L41_F) 10 0 pof), ls, lp, lm)).2.2.2.2.2.2))), (83, (zI G 13 (X7_readWords_c83 (nI 0) tps pts lns brs ors stp hasP fld laid told rws cms cmT cmS isN trs tp ws wl wm))), (84, (zI G 65 (X7_readWords_c84 (nI 0) tps pts lns brs ors stp hasP fld laid told rws cms cmT cmS isN trs tp ws wl wm))), (85, (zI G 13 (X7_readWords_c85 (nI 0) tps pts lns brs ors stp hasP fld laid told rws cms cmT cmS isN trs tp ws wl wm)))]) rfl ?_
            refine z_aload_n dX7_read_242 rfl rfl ?_
            refine z_iconst (v := nI 0) dX7_read_243 rfl (by decide) ?_
            refine z_putN (e9 := (oMod G (nI 0) (nI 0) (nI ((zfold (X7_read_L65_F tps pts lns brs ors stp hasP fld laid told rws cms cmT cmS isN trs tp ws wl wm) (X7_readWords_p76_4 (nI 0) tps pts lns brs ors stp hasP fld laid told rws cms cmT cmS isN trs tp ws wl wm) 0 (0, 0, lo, (zfold (X7_read_L41_F) 10 0 pof), ls, lp, lm)).1)) (nI (X7_readWords_p76_4 (nI 0) tps pts lns brs ors stp hasP fld laid told rws cms cmT cmS isN trs tp ws wl wm)) (nI (X7_readWords_p76_4 (nI 0) tps pts lns brs ors stp hasP fld laid told rws cms cmT cmS isN trs tp ws wl wm)) (nI 0) (nI 0) (nI 0) (nI 0) fld laid told (nI 0) cms (nI cmT) cmS (nI 0) (nI trs))) tyX7 tyX7_ok nmX7 dX7_read_244 rfl hiX7_read_X7 19 lkX7_read_165 rfl (by decide +kernel) (Nat.le_of_ble_eq_true rfl) rfl rfl (by decide) (Nat.le_of_ble_eq_true rfl) rfl rfl rfl ?_
            refine z_n (L' := [(76, (oMod G (nI 0) (nI 0) (nI ((zfold (X7_read_L65_F tps pts lns brs ors stp hasP fld laid told rws cms cmT cmS isN trs tp ws wl wm) (X7_readWords_p76_4 (nI 0) tps pts lns brs ors stp hasP fld laid told rws cms cmT cmS isN trs tp ws wl wm) 0 (0, 0, lo, (zfold (X7_read_L41_F) 10 0 pof), ls, lp, lm)).1)) (nI (X7_readWords_p76_4 (nI 0) tps pts lns brs ors stp hasP fld laid told rws cms cmT cmS isN trs tp ws wl wm)) (nI (X7_readWords_p76_4 (nI 0) tps pts lns brs ors stp hasP fld laid told rws cms cmT cmS isN trs tp ws wl wm)) (nI 0) (nI 0) (nI 0) (nI 0) fld laid told (nI 0) cms (nI cmT) cmS (nI 0) (nI trs))), (78, (zI G 10 ((zfold (X7_read_L65_F tps pts lns brs ors stp hasP fld laid told rws cms cmT cmS isN trs tp ws wl wm) (X7_readWords_p76_4 (nI 0) tps pts lns brs ors stp hasP fld laid told rws cms cmT cmS isN trs tp ws wl wm) 0 (0, 0, lo, (zfold (X7_read_L41_F) 10 0 pof), ls, lp, lm)).2.2.1))), (79, (zI G 10 ((zfold (X7_read_L65_F tps pts lns brs ors stp hasP fld laid told rws cms cmT cmS isN trs tp ws wl wm) (X7_readWords_p76_4 (nI 0) tps pts lns brs ors stp hasP fld laid told rws cms cmT cmS isN trs tp ws wl wm) 0 (0, 0, lo, (zfold (X7_read_L41_F) 10 0 pof), ls, lp, lm)).2.2.2.1))), (80, (zI G 12 ((zfold (X7_read_L65_F tps pts lns brs ors stp hasP fld laid told rws cms cmT cmS isN trs tp ws wl wm) (X7_readWords_p76_4 (nI 0) tps pts lns brs ors stp hasP fld laid told rws cms cmT cmS isN trs tp ws wl wm) 0 (0, 0, lo, (zfold (X7_read_L41_F) 10 0 pof), ls, lp, lm)).2.2.2.2.1))), (81, (zI G 60 ((zfold (X7_read_L65_F tps pts lns brs ors stp hasP fld laid told rws cms cmT cmS isN trs tp ws wl wm) (X7_readWords_p76_4 (nI 0) tps pts lns brs ors stp hasP fld laid told rws cms cmT cmS isN trs tp ws wl wm) 0 (0, 0, lo, (zfold (X7_read_L41_F) 10 0 pof), ls, lp, lm)).2.2.2.2.2.1))), (82, (zI G 12 ((zfold (X7_read_L65_F tps pts lns brs ors stp hasP fld laid told rws cms cmT cmS isN trs tp ws wl wm) (X7_readWords_p76_4 (nI 0) tps pts lns brs ors stp hasP fld laid told rws cms cmT cmS isN trs tp ws wl wm) 0 (0, 0, lo, (zfold (X7_read_L41_F) 10 0 pof), ls, lp, lm)).2.2.2.2.2.2))), (83, (zI G 13 (X7_readWords_c83 (nI 0) tps pts lns brs ors stp hasP fld laid told rws cms cmT cmS isN trs tp ws wl wm))), (84, (zI G 65 (X7_readWords_c84 (nI 0) tps pts lns brs ors stp hasP fld laid told rws cms cmT cmS isN trs tp ws wl wm))), (85, (zI G 13 (X7_readWords_c85 (nI 0) tps pts lns brs ors stp hasP fld laid told rws cms cmT cmS isN trs tp ws wl wm)))]) rfl ?_
            refine z_aload_n dX7_read_247 rfl rfl ?_
            refine z_bipush (v := (-4)) dX7_read_248 rfl (by decide) ?_
            refine z_putN (e9 := (oMod G (nI 0) (nI 0) (nI ((zfold (X7_read_L65_F tps pts lns brs ors stp hasP fld laid told rws cms cmT cmS isN trs tp ws wl wm) (X7_readWords_p76_4 (nI 0) tps pts lns brs ors stp hasP fld laid told rws cms cmT cmS isN trs tp ws wl wm) 0 (0, 0, lo, (zfold (X7_read_L41_F) 10 0 pof), ls, lp, lm)).1)) (nI (X7_readWords_p76_4 (nI 0) tps pts lns brs ors stp hasP fld laid told rws cms cmT cmS isN trs tp ws wl wm)) (nI (X7_readWords_p76_4 (nI 0) tps pts lns brs ors stp hasP fld laid told rws cms cmT cmS isN trs tp ws wl wm)) (nI 0) (nI 0) (nI 0) (nI 0) fld laid (-4) (nI 0) cms (nI cmT) cmS (nI 0) (nI trs))) tyX7 tyX7_ok nmX7 dX7_read_250 rfl hiX7_read_X7 31 lkX7_read_119 rfl (by decide +kernel) (Nat.le_of_ble_eq_true rfl) rfl rfl (by decide) (Nat.le_of_ble_eq_true rfl) rfl rfl rfl ?_
            refine z_n (L' := [(76, (oMod G (nI 0) (nI 0) (nI ((zfold (X7_read_L65_F tps pts lns brs ors stp hasP fld laid told rws cms cmT cmS isN trs tp ws wl wm) (X7_readWords_p76_4 (nI 0) tps pts lns brs ors stp hasP fld laid told rws cms cmT cmS isN trs tp ws wl wm) 0 (0, 0, lo, (zfold (X7_read_L41_F) 10 0 pof), ls, lp, lm)).1)) (nI (X7_readWords_p76_4 (nI 0) tps pts lns brs ors stp hasP fld laid told rws cms cmT cmS isN trs tp ws wl wm)) (nI (X7_readWords_p76_4 (nI 0) tps pts lns brs ors stp hasP fld laid told rws cms cmT cmS isN trs tp ws wl wm)) (nI 0) (nI 0) (nI 0) (nI 0) fld laid (-4) (nI 0) cms (nI cmT) cmS (nI 0) (nI trs))), (78, (zI G 10 ((zfold (X7_read_L65_F tps pts lns brs ors stp hasP fld laid told rws cms cmT cmS isN trs tp ws wl wm) (X7_readWords_p76_4 (nI 0) tps pts lns brs ors stp hasP fld laid told rws cms cmT cmS isN trs tp ws wl wm) 0 (0, 0, lo, (zfold (X7_read_L41_F) 10 0 pof), ls, lp, lm)).2.2.1))), (79, (zI G 10 ((zfold (X7_read_L65_F tps pts lns brs ors stp hasP fld laid told rws cms cmT cmS isN trs tp ws wl wm) (X7_readWords_p76_4 (nI 0) tps pts lns brs ors stp hasP fld laid told rws cms cmT cmS isN trs tp ws wl wm) 0 (0, 0, lo, (zfold (X7_read_L41_F) 10 0 pof), ls, lp, lm)).2.2.2.1))), (80, (zI G 12 ((zfold (X7_read_L65_F tps pts lns brs ors stp hasP fld laid told rws cms cmT cmS isN trs tp ws wl wm) (X7_readWords_p76_4 (nI 0) tps pts lns brs ors stp hasP fld laid told rws cms cmT cmS isN trs tp ws wl wm) 0 (0, 0, lo, (zfold (X7_read_L41_F) 10 0 pof), ls, lp, lm)).2.2.2.2.1))), (81, (zI G 60 ((zfold (X7_read_L65_F tps pts lns brs ors stp hasP fld laid told rws cms cmT cmS isN trs tp ws wl wm) (X7_readWords_p76_4 (nI 0) tps pts lns brs ors stp hasP fld laid told rws cms cmT cmS isN trs tp ws wl wm) 0 (0, 0, lo, (zfold (X7_read_L41_F) 10 0 pof), ls, lp, lm)).2.2.2.2.2.1))), (82, (zI G 12 ((zfold (X7_read_L65_F tps pts lns brs ors stp hasP fld laid told rws cms cmT cmS isN trs tp ws wl wm) (X7_readWords_p76_4 (nI 0) tps pts lns brs ors stp hasP fld laid told rws cms cmT cmS isN trs tp ws wl wm) 0 (0, 0, lo, (zfold (X7_read_L41_F) 10 0 pof), ls, lp, lm)).2.2.2.2.2.2))), (83, (zI G 13 (X7_readWords_c83 (nI 0) tps pts lns brs ors stp hasP fld laid told rws cms cmT cmS isN trs tp ws wl wm))), (84, (zI G 65 (X7_readWords_c84 (nI 0) tps pts lns brs ors stp hasP fld laid told rws cms cmT cmS isN trs tp ws wl wm))), (85, (zI G 13 (X7_readWords_c85 (nI 0) tps pts lns brs ors stp hasP fld laid told rws cms cmT cmS isN trs tp ws wl wm)))]) rfl ?_
            refine z_iload_n dX7_read_253 rfl rfl ?_
            exact z_ireturn dX7_read_254 rfl rfl (Nat.le_refl _) (Nat.le_refl _) (fun _ => rfl) ⟨by simp only [X7_read_v, if_pos c18], by simp only [X7_read_p76_0, X7_read_p76_1, X7_read_p76_2, X7_read_p76_3, X7_read_p76_4, X7_read_p76_5, X7_read_p76_6, X7_read_p76_7, X7_read_p76_8, X7_read_p76_11, X7_read_p76_12, X7_read_p76_16, X7_read_c78, X7_read_c79, X7_read_c80, X7_read_c81, X7_read_c82, X7_read_c83, X7_read_c84, X7_read_c85, if_pos c18]⟩
          · exact absurd (nI_le (Nat.le_refl _) (by omega)) c70
      · exact absurd (nI_le (Nat.le_refl _) (by omega)) c44
  · refine z_bipush (v := (-10)) dX7_read_21 rfl (by decide) ?_
    refine z_iload_n dX7_read_23 rfl rfl ?_
    refine z_isub dX7_read_24 rfl ?_
    exact z_ireturn dX7_read_25 rfl rfl (Nat.le_refl _) (Nat.le_refl _) (fun _ => rfl) ⟨by simp only [X7_read_v, if_neg c18], by simp only [X7_read_p76_0, X7_read_p76_1, X7_read_p76_2, X7_read_p76_3, X7_read_p76_4, X7_read_p76_5, X7_read_p76_6, X7_read_p76_7, X7_read_p76_8, X7_read_p76_11, X7_read_p76_12, X7_read_p76_16, X7_read_c78, X7_read_c79, X7_read_c80, X7_read_c81, X7_read_c82, X7_read_c83, X7_read_c84, X7_read_c85, if_neg c18]⟩
