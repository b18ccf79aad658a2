theorem zat1 {t : Nat} (h : t < 6) (hc : nI t - nI t / nI 2 * nI 2 = 0) : t + 1 < 6 := by
  rcases (show t = 0 ∨ t = 1 ∨ t = 2 ∨ t = 3 ∨ t = 4 ∨ t = 5 by omega) with rfl | rfl | rfl | rfl | rfl | rfl
  all_goals first | omega | exact absurd hc (by decide)
theorem zat0 {t : Nat} (hc : ¬ nI t - nI t / nI 2 * nI 2 = 0) : 1 ≤ t := by
  rcases Nat.eq_zero_or_pos t with h | h
  · subst h
    exact absurd (by decide) hc
  · exact h
theorem isRight01 {fs sc th wn : Nat → Int32} {f : Int32} {a b c u v w : Nat} : X7_isRight_v fs sc th wn f a b c u v w = nI 0 ∨ X7_isRight_v fs sc th wn f a b c u v w = nI 1 := by
  unfold X7_isRight_v
  repeat' split
  all_goals first | exact Or.inl rfl | exact Or.inr rfl
abbrev mX7_work : zM := (cX7_work, 13, none, RX7, wsX7_work, "work")
theorem hiX7_work_X7 : ∀ w ∈ wsX70, w ∈ wsX7_work := fun w h => List.mem_cons_of_mem _ (List.mem_append_right _ h)
theorem lkX7_work_238 : Cond.fieldLink RX7 238 "ConfigSearchModel" "comes" "I" ∈ wsX7_work := by decide +kernel
theorem okk_X7_laySix : zOk yX7_laySix 5 := by unfold zOk; decide +kernel
theorem lkX7_work_86 : Cond.fieldLink RX7 86 "ConfigSearchModel" "six" "[I" ∈ wsX7_work := by decide +kernel
theorem okk_X7_term : zOk yX7_term 1 := by unfold zOk; decide +kernel
theorem okk_X7_tells : zOk yX7_tells 7 := by unfold zOk; decide +kernel
def X7_work_L25_F (sg : Nat → Int32) (sx : Nat → Int32) (a : Nat) (b : Nat) (c : Nat) (d : Nat) (e : Nat) (k : Nat) (a9 : (Nat) × (Nat)) : (Nat) × (Nat) := if ((X7_laySix_c101 sg sx a b c d e) k) = (nI 9) then (a9.1 + 1, k) else (a9.1, a9.2)
def X7_work_L73_F (sg : Nat → Int32) (sx : Nat → Int32) (a : Nat) (b : Nat) (c : Nat) (d : Nat) (e : Nat) (opno : Nat) (atto : Nat) (j : Nat) (a9 : (Int32) × (Int32)) : (Int32) × (Int32) := if (nI opno) = 0 then (if (X7_term_v (X7_laySix_c101 sg sx a b c d e) j) ≤ 0 then (if 0 ≤ (X7_term_v (X7_laySix_c101 sg sx a b c d e) j) then (a9.1 + (nI 0), a9.2 + (nI 0)) else (a9.1 + (nI 0), a9.2 + (nI 1))) else (if 0 ≤ (X7_term_v (X7_laySix_c101 sg sx a b c d e) j) then (a9.1 + (nI 1), a9.2 + (nI 0)) else (a9.1 + (nI 1), a9.2 + (nI 1)))) else (if ((nI atto) / (nI 2)) = (nI j) then (a9.1, a9.2) else (if (X7_term_v (X7_laySix_c101 sg sx a b c d e) j) ≤ 0 then (if 0 ≤ (X7_term_v (X7_laySix_c101 sg sx a b c d e) j) then (a9.1 + (nI 0), a9.2 + (nI 0)) else (a9.1 + (nI 0), a9.2 + (nI 1))) else (if 0 ≤ (X7_term_v (X7_laySix_c101 sg sx a b c d e) j) then (a9.1 + (nI 1), a9.2 + (nI 0)) else (a9.1 + (nI 1), a9.2 + (nI 1)))))
def X7_work_p76_13 (sg sx : Nat → Int32) (a b c d e : Nat) : Nat := zlet (zfold (X7_work_L25_F sg sx a b c d e) 6 0 (0, 0)) (fun rr25 => if (nI rr25.1) ≤ (nI 1) then (zlet (zfold (X7_work_L73_F sg sx a b c d e rr25.1 rr25.2) 3 0 (nI 0, nI 0)) (fun rr73 => if (nI rr25.1) = 0 then (if rr73.1 = 0 then (if rr73.2 = 0 then 0 else 1) else (if rr73.2 = 0 then 1 else 0)) else (if ((nI rr25.2) - (nI rr25.2) / (nI 2) * (nI 2)) = 0 then (if ((X7_laySix_c101 sg sx a b c d e) (rr25.2 + 1)) = 0 then 0 else (if rr73.1 ≤ 0 then (if rr73.2 ≤ 0 then (if ((nI rr25.2) / (nI 2)) = (nI 1) then 2 else 2) else (if ((nI rr25.2) / (nI 2)) = (nI 1) then 2 else 2)) else (if rr73.2 ≤ 0 then (if ((nI rr25.2) / (nI 2)) = (nI 1) then 2 else 2) else 0))) else (if ((X7_laySix_c101 sg sx a b c d e) (rr25.2 - 1)) = 0 then 0 else (if rr73.1 ≤ 0 then (if rr73.2 ≤ 0 then (if ((nI rr25.2) / (nI 2)) = (nI 1) then 2 else 2) else (if ((nI rr25.2) / (nI 2)) = (nI 1) then 2 else 2)) else (if rr73.2 ≤ 0 then (if ((nI rr25.2) / (nI 2)) = (nI 1) then 2 else 2) else 0)))))) else 0)
def X7_work_p76_14 (cmT : Nat) (sg sx : Nat → Int32) (a b c d e : Nat) : Nat := zlet (zfold (X7_work_L25_F sg sx a b c d e) 6 0 (0, 0)) (fun rr25 => if (nI rr25.1) ≤ (nI 1) then (zlet (zfold (X7_work_L73_F sg sx a b c d e rr25.1 rr25.2) 3 0 (nI 0, nI 0)) (fun rr73 => if (nI rr25.1) = 0 then (if rr73.1 = 0 then (if rr73.2 = 0 then cmT else cmT) else (if rr73.2 = 0 then cmT else cmT)) else (if ((nI rr25.2) - (nI rr25.2) / (nI 2) * (nI 2)) = 0 then (if ((X7_laySix_c101 sg sx a b c d e) (rr25.2 + 1)) = 0 then cmT else (if rr73.1 ≤ 0 then (if rr73.2 ≤ 0 then (if ((nI rr25.2) / (nI 2)) = (nI 1) then (X7_tells_p76_14 rr25.2 a b c d e) else (X7_tells_p76_14 rr25.2 a b c d e)) else (if ((nI rr25.2) / (nI 2)) = (nI 1) then (X7_tells_p76_14 rr25.2 a b c d e) else (X7_tells_p76_14 rr25.2 a b c d e))) else (if rr73.2 ≤ 0 then (if ((nI rr25.2) / (nI 2)) = (nI 1) then (X7_tells_p76_14 rr25.2 a b c d e) else (X7_tells_p76_14 rr25.2 a b c d e)) else cmT))) else (if ((X7_laySix_c101 sg sx a b c d e) (rr25.2 - 1)) = 0 then cmT else (if rr73.1 ≤ 0 then (if rr73.2 ≤ 0 then (if ((nI rr25.2) / (nI 2)) = (nI 1) then (X7_tells_p76_14 rr25.2 a b c d e) else (X7_tells_p76_14 rr25.2 a b c d e)) else (if ((nI rr25.2) / (nI 2)) = (nI 1) then (X7_tells_p76_14 rr25.2 a b c d e) else (X7_tells_p76_14 rr25.2 a b c d e))) else (if rr73.2 ≤ 0 then (if ((nI rr25.2) / (nI 2)) = (nI 1) then (X7_tells_p76_14 rr25.2 a b c d e) else (X7_tells_p76_14 rr25.2 a b c d e)) else cmT)))))) else cmT)
def X7_work_p76_15 (cmS : Int32) (sg sx : Nat → Int32) (a b c d e : Nat) : Int32 := zlet (zfold (X7_work_L25_F sg sx a b c d e) 6 0 (0, 0)) (fun rr25 => if (nI rr25.1) ≤ (nI 1) then (zlet (zfold (X7_work_L73_F sg sx a b c d e rr25.1 rr25.2) 3 0 (nI 0, nI 0)) (fun rr73 => if (nI rr25.1) = 0 then (if rr73.1 = 0 then (if rr73.2 = 0 then cmS else cmS) else (if rr73.2 = 0 then cmS else cmS)) else (if ((nI rr25.2) - (nI rr25.2) / (nI 2) * (nI 2)) = 0 then (if ((X7_laySix_c101 sg sx a b c d e) (rr25.2 + 1)) = 0 then cmS else (if rr73.1 ≤ 0 then (if rr73.2 ≤ 0 then (if ((nI rr25.2) / (nI 2)) = (nI 1) then (X7_tells_p76_15 rr25.2 (((nI 0) * ((X7_laySix_c101 sg sx a b c d e) (rr25.2 + 1))) * (-1)) a b c d e) else (X7_tells_p76_15 rr25.2 (((nI 0) * ((X7_laySix_c101 sg sx a b c d e) (rr25.2 + 1))) * (nI 1)) a b c d e)) else (if ((nI rr25.2) / (nI 2)) = (nI 1) then (X7_tells_p76_15 rr25.2 (((nI 1) * ((X7_laySix_c101 sg sx a b c d e) (rr25.2 + 1))) * (-1)) a b c d e) else (X7_tells_p76_15 rr25.2 (((nI 1) * ((X7_laySix_c101 sg sx a b c d e) (rr25.2 + 1))) * (nI 1)) a b c d e))) else (if rr73.2 ≤ 0 then (if ((nI rr25.2) / (nI 2)) = (nI 1) then (X7_tells_p76_15 rr25.2 (((-1) * ((X7_laySix_c101 sg sx a b c d e) (rr25.2 + 1))) * (-1)) a b c d e) else (X7_tells_p76_15 rr25.2 (((-1) * ((X7_laySix_c101 sg sx a b c d e) (rr25.2 + 1))) * (nI 1)) a b c d e)) else cmS))) else (if ((X7_laySix_c101 sg sx a b c d e) (rr25.2 - 1)) = 0 then cmS else (if rr73.1 ≤ 0 then (if rr73.2 ≤ 0 then (if ((nI rr25.2) / (nI 2)) = (nI 1) then (X7_tells_p76_15 rr25.2 (((nI 0) * ((X7_laySix_c101 sg sx a b c d e) (rr25.2 - 1))) * (-1)) a b c d e) else (X7_tells_p76_15 rr25.2 (((nI 0) * ((X7_laySix_c101 sg sx a b c d e) (rr25.2 - 1))) * (nI 1)) a b c d e)) else (if ((nI rr25.2) / (nI 2)) = (nI 1) then (X7_tells_p76_15 rr25.2 (((nI 1) * ((X7_laySix_c101 sg sx a b c d e) (rr25.2 - 1))) * (-1)) a b c d e) else (X7_tells_p76_15 rr25.2 (((nI 1) * ((X7_laySix_c101 sg sx a b c d e) (rr25.2 - 1))) * (nI 1)) a b c d e))) else (if rr73.2 ≤ 0 then (if ((nI rr25.2) / (nI 2)) = (nI 1) then (X7_tells_p76_15 rr25.2 (((-1) * ((X7_laySix_c101 sg sx a b c d e) (rr25.2 - 1))) * (-1)) a b c d e) else (X7_tells_p76_15 rr25.2 (((-1) * ((X7_laySix_c101 sg sx a b c d e) (rr25.2 - 1))) * (nI 1)) a b c d e)) else cmS)))))) else cmS)
def X7_work_c101 (sg sx : Nat → Int32) (a b c d e : Nat) : Nat → Int32 := zlet (zfold (X7_work_L25_F sg sx a b c d e) 6 0 (0, 0)) (fun rr25 => if (nI rr25.1) ≤ (nI 1) then (zlet (zfold (X7_work_L73_F sg sx a b c d e rr25.1 rr25.2) 3 0 (nI 0, nI 0)) (fun rr73 => if (nI rr25.1) = 0 then (if rr73.1 = 0 then (if rr73.2 = 0 then (X7_laySix_c101 sg sx a b c d e) else (X7_laySix_c101 sg sx a b c d e)) else (if rr73.2 = 0 then (X7_laySix_c101 sg sx a b c d e) else (X7_laySix_c101 sg sx a b c d e))) else (if ((nI rr25.2) - (nI rr25.2) / (nI 2) * (nI 2)) = 0 then (if ((X7_laySix_c101 sg sx a b c d e) (rr25.2 + 1)) = 0 then (X7_laySix_c101 sg sx a b c d e) else (if rr73.1 ≤ 0 then (if rr73.2 ≤ 0 then (if ((nI rr25.2) / (nI 2)) = (nI 1) then (X7_laySix_c101 sg sx a b c d e) else (X7_laySix_c101 sg sx a b c d e)) else (if ((nI rr25.2) / (nI 2)) = (nI 1) then (X7_laySix_c101 sg sx a b c d e) else (X7_laySix_c101 sg sx a b c d e))) else (if rr73.2 ≤ 0 then (if ((nI rr25.2) / (nI 2)) = (nI 1) then (X7_laySix_c101 sg sx a b c d e) else (X7_laySix_c101 sg sx a b c d e)) else (X7_laySix_c101 sg sx a b c d e)))) else (if ((X7_laySix_c101 sg sx a b c d e) (rr25.2 - 1)) = 0 then (X7_laySix_c101 sg sx a b c d e) else (if rr73.1 ≤ 0 then (if rr73.2 ≤ 0 then (if ((nI rr25.2) / (nI 2)) = (nI 1) then (X7_laySix_c101 sg sx a b c d e) else (X7_laySix_c101 sg sx a b c d e)) else (if ((nI rr25.2) / (nI 2)) = (nI 1) then (X7_laySix_c101 sg sx a b c d e) else (X7_laySix_c101 sg sx a b c d e))) else (if rr73.2 ≤ 0 then (if ((nI rr25.2) / (nI 2)) = (nI 1) then (X7_laySix_c101 sg sx a b c d e) else (X7_laySix_c101 sg sx a b c d e)) else (X7_laySix_c101 sg sx a b c d e))))))) else (X7_laySix_c101 sg sx a b c d e))
set_option maxRecDepth 100000 in
set_option maxHeartbeats 4000000 in
theorem c_X7_work (G : zG) (ex : Bool) (g : Nat → va_E) (code : Int32) (tps pts lns wds brs ors : Nat) (stp hasP fld laid told : Int32) (rws : Nat) (cms : Int32) (cmT : Nat) (cmS isN : Int32) (trs : Nat) (sg sx : Nat → Int32) (a b c d e : Nat) (ha : a < 10) (hb : b < 10) (hc : c < 10) (hd : d < 10) (he : e < 10) (h76 : g 76 = (oMod G code (nI tps) (nI pts) (nI lns) (nI wds) (nI brs) (nI ors) stp hasP fld laid told (nI rws) cms (nI cmT) cmS isN (nI trs))) (h96 : g 96 = (zI G 1000 sg)) (h101 : g 101 = (zI G 6 sx)) : zC G yX7_work wsX7_work (zrm 3 73) ex [.ref (zB G + 76), .int (nI a), .int (nI b), .int (nI c), .int (nI d), .int (nI e)] (zN, g) (fun r h => r = none ∧ h = (zN, zus g [(76, (oMod G code (nI tps) (nI pts) (nI lns) (nI wds) (nI brs) (nI ors) stp hasP fld laid told (nI rws) (nI (X7_work_p76_13 sg sx a b c d e)) (nI (X7_work_p76_14 cmT sg sx a b c d e)) (X7_work_p76_15 cmS sg sx a b c d e) isN (nI trs))), (101, zI G 6 (X7_work_c101 sg sx a b c d e))])) := by
  refine zC_of mX7_work (lv := [some (.ref (zB G + 76)), some (.int (nI a)), some (.int (nI b)), some (.int (nI c)), some (.int (nI d)), some (.int (nI e)), none, none, none, none, none, none, none]) rfl rfl (by decide) (by intro v hv; simp at hv; rcases hv with rfl | rfl | rfl | rfl | rfl | rfl <;> rfl) (Nat.le_of_ble_eq_true rfl) rfl ?_
  refine z_0 ?_
  refine z_heap (g' := zu (zus g []) 76 (oMod G code (nI tps) (nI pts) (nI lns) (nI wds) (nI brs) (nI ors) stp hasP fld laid told (nI rws) cms (nI cmT) cmS isN (nI trs))) (zu_self (zus g []) 76 _ h76).symm ?_
  refine z_n (L' := [(76, (oMod G code (nI tps) (nI pts) (nI lns) (nI wds) (nI brs) (nI ors) stp hasP fld laid told (nI rws) cms (nI cmT) cmS isN (nI trs)))]) rfl ?_
  refine z_heap (g' := zu (zus g [(76, (oMod G code (nI tps) (nI pts) (nI lns) (nI wds) (nI brs) (nI ors) stp hasP fld laid told (nI rws) cms (nI cmT) cmS isN (nI trs)))]) 101 (zI G 6 sx)) (zu_self (zus g [(76, (oMod G code (nI tps) (nI pts) (nI lns) (nI wds) (nI brs) (nI ors) stp hasP fld laid told (nI rws) cms (nI cmT) cmS isN (nI trs)))]) 101 _ h101).symm ?_
  refine z_n (L' := [(76, (oMod G code (nI tps) (nI pts) (nI lns) (nI wds) (nI brs) (nI ors) stp hasP fld laid told (nI rws) cms (nI cmT) cmS isN (nI trs))), (101, (zI G 6 sx))]) rfl ?_
  refine z_aload_n dX7_work_0 rfl rfl ?_
  refine z_iconst (v := nI 0) dX7_work_1 rfl (by decide) ?_
  refine z_putN (e9 := (oMod G code (nI tps) (nI pts) (nI lns) (nI wds) (nI brs) (nI ors) stp hasP fld laid told (nI rws) (nI 0) (nI cmT) cmS isN (nI trs))) tyX7 tyX7_ok nmX7 dX7_work_2 rfl hiX7_work_X7 38 lkX7_work_238 rfl (by decide +kernel) (Nat.le_of_ble_eq_true rfl) rfl rfl (by decide) (Nat.le_of_ble_eq_true rfl) rfl rfl rfl ?_
  refine z_n (L' := [(76, (oMod G code (nI tps) (nI pts) (nI lns) (nI wds) (nI brs) (nI ors) stp hasP fld laid told (nI rws) (nI 0) (nI cmT) cmS isN (nI trs))), (101, (zI G 6 sx))]) rfl ?_
  refine z_aload_n dX7_work_5 rfl rfl ?_
  refine z_iload_n dX7_work_6 rfl rfl ?_
  refine z_iload_n dX7_work_7 rfl rfl ?_
  refine z_iload_n dX7_work_8 rfl rfl ?_
  refine z_iload dX7_work_9 rfl rfl ?_
  refine z_iload dX7_work_11 rfl rfl ?_
  refine z_callVv (c_X7_laySix G ex _ code tps pts lns wds brs ors stp hasP fld laid told rws (nI 0) cmT cmS isN trs sg sx a b c d e (by omega) (by omega) (by omega) (by omega) (by omega) rfl h96 rfl) gX7_work_X7_laySix rfl dX7_work_13 rfl rfl rfl okk_X7_laySix (Nat.le_of_ble_eq_true rfl) rfl rfl ⟨Nat.le_of_ble_eq_true rfl, Nat.le_of_ble_eq_true rfl⟩ ⟨Nat.le_of_ble_eq_true rfl, Nat.le_of_ble_eq_true rfl⟩ (Nat.le_of_ble_eq_true rfl) ?_
  refine z_nn (L' := [(76, (oMod G code (nI tps) (nI pts) (nI lns) (nI wds) (nI brs) (nI ors) stp hasP fld laid told (nI rws) (nI 0) (nI cmT) cmS isN (nI trs))), (101, (zI G 6 (X7_laySix_c101 sg sx a b c d e)))]) rfl ?_
  refine z_iconst (v := nI 0) dX7_work_16 rfl (by decide) ?_
  refine z_istore_6 dX7_work_17 rfl ?_
  refine z_iconst (v := nI 0) dX7_work_19 rfl (by decide) ?_
  refine z_istore_7 dX7_work_20 rfl ?_
  refine z_iconst (v := nI 0) dX7_work_22 rfl (by decide) ?_
  refine z_istore_8 dX7_work_23 rfl ?_
  refine z_forI (head := fun k (st9 : (Nat) × (Nat)) => Z G mX7_work (zrm 3 73) ex _ 25 [some (.ref (zB G + 76)), some (.int (nI a)), some (.int (nI b)), some (.int (nI c)), some (.int (nI d)), some (.int (nI e)), some (.int (nI st9.1)), some (.int (nI st9.2)), some (.int (nI k)), none, none, none, none] [] (zN, zus g [(76, (oMod G code (nI tps) (nI pts) (nI lns) (nI wds) (nI brs) (nI ors) stp hasP fld laid told (nI rws) (nI 0) (nI cmT) cmS isN (nI trs))), (101, (zI G 6 (X7_laySix_c101 sg sx a b c d e)))]) 0 0) (F := (X7_work_L25_F sg sx a b c d e)) (n := 6) (fun _ a => a.2 < 6) (fun i a hi h => by
        unfold X7_work_L25_F
        split
        · exact hi
        · exact h) ?_ 6 0 (0, 0) (by omega) (by decide) ?_
  · intro k a9 hi hI K
    obtain ⟨opn, att⟩ := a9
    refine z_iload dX7_work_25 rfl rfl ?_
    refine z_bipush (v := nI 6) dX7_work_27 rfl (by decide) ?_
    refine z_icmp_ge (tgt := 57) dX7_work_29 rfl (by decide) (fun c29 => ?_) (fun c29 => ?_)
    · exact absurd c29 (nI_ge hi (by omega))
    · refine z_aload_n dX7_work_32 rfl rfl ?_
      refine z_get dX7_work_33 rfl hiX7_work_X7 37 lkX7_work_86 (Nat.le_of_ble_eq_true rfl) rfl rfl (by decide) rfl ?_
      refine z_iload dX7_work_36 rfl rfl ?_
      refine z_ialdN (j := k) dX7_work_38 rfl (Nat.le_of_ble_eq_true rfl) rfl (rfl) (by omega) (by decide) ?_
      refine z_bipush (v := nI 9) dX7_work_39 rfl (by decide) ?_
      refine z_icmp_ne (tgt := 51) dX7_work_41 rfl (by decide) (fun c41 => ?_) (fun c41 => ?_)
      · refine z_iinc_8 (v := nI (k + 1)) dX7_work_51 rfl (zinc _) ?_
        refine z_goto (tgt := 25) dX7_work_54 (by decide) ?_
        have K9 := K
        try simp only [X7_work_L25_F, if_neg c41] at K9
        exact K9
      · refine z_iinc_6 (v := nI (opn + 1)) dX7_work_44 rfl (zinc _) ?_
        refine z_iload dX7_work_47 rfl rfl ?_
        refine z_istore_7 dX7_work_49 rfl ?_
        refine z_iinc_8 (v := nI (k + 1)) dX7_work_51 rfl (zinc _) ?_
        refine z_goto (tgt := 25) dX7_work_54 (by decide) ?_
        have K9 := K
        try simp only [X7_work_L25_F, if_pos c41] at K9
        exact K9
  · generalize hR25 : zfold (X7_work_L25_F sg sx a b c d e) 6 0 (0, 0) = r9
    obtain ⟨opno, atto⟩ := r9
    intro hI
    have hat : atto < 6 := hI
    refine z_iload dX7_work_25 rfl rfl ?_
    refine z_bipush (v := nI 6) dX7_work_27 rfl (by decide) ?_
    refine z_icmp_ge (tgt := 57) dX7_work_29 rfl (by decide) (fun c29 => ?_) (fun c29 => ?_)
    · refine z_iload dX7_work_57 rfl rfl ?_
      refine z_iconst (v := nI 1) dX7_work_59 rfl (by decide) ?_
      refine z_icmp_le (tgt := 64) dX7_work_60 rfl (by decide) (fun c60 => ?_) (fun c60 => ?_)
      · refine z_iconst (v := nI 0) dX7_work_64 rfl (by decide) ?_
        refine z_istore_8 dX7_work_65 rfl ?_
        refine z_iconst (v := nI 0) dX7_work_67 rfl (by decide) ?_
        refine z_istore_9 dX7_work_68 rfl ?_
        refine z_iconst (v := nI 0) dX7_work_70 rfl (by decide) ?_
        refine z_istore_10 dX7_work_71 rfl ?_
        refine z_forI (head := fun j (st9 : (Int32) × (Int32)) => Z G mX7_work (zrm 3 73) ex _ 73 [some (.ref (zB G + 76)), some (.int (nI a)), some (.int (nI b)), some (.int (nI c)), some (.int (nI d)), some (.int (nI e)), some (.int (nI opno)), some (.int (nI atto)), some (.int st9.1), some (.int st9.2), some (.int (nI j)), none, none] [] (zN, zus g [(76, (oMod G code (nI tps) (nI pts) (nI lns) (nI wds) (nI brs) (nI ors) stp hasP fld laid told (nI rws) (nI 0) (nI cmT) cmS isN (nI trs))), (101, (zI G 6 (X7_laySix_c101 sg sx a b c d e)))]) 0 0) (F := (X7_work_L73_F sg sx a b c d e opno atto)) (n := 3) (fun _ _ => True) (fun _ _ _ _ => trivial) ?_ 3 0 (nI 0, nI 0) (by omega) trivial ?_
        · intro j a9 hi _ K
          obtain ⟨ab, be⟩ := a9
          refine z_iload dX7_work_73 rfl rfl ?_
          refine z_iconst (v := nI 3) dX7_work_75 rfl (by decide) ?_
          refine z_icmp_ge (tgt := 137) dX7_work_76 rfl (by decide) (fun c76 => ?_) (fun c76 => ?_)
          · exact absurd c76 (nI_ge hi (by omega))
          · refine z_iload dX7_work_79 rfl rfl ?_
            refine z_if_eq (tgt := 93) dX7_work_81 rfl (by decide) (fun c81 => ?_) (fun c81 => ?_)
            · refine z_iload dX7_work_93 rfl rfl ?_
              refine z_aload_n dX7_work_95 rfl rfl ?_
              refine z_iload dX7_work_96 rfl rfl ?_
              refine z_callVi (c_X7_term G ex _ code tps pts lns wds brs ors stp hasP fld laid told rws (nI 0) cmT cmS isN trs (X7_laySix_c101 sg sx a b c d e) j (by omega) rfl rfl) gX7_work_X7_term rfl dX7_work_98 rfl rfl rfl okk_X7_term (Nat.le_of_ble_eq_true rfl) rfl rfl ⟨Nat.le_of_ble_eq_true rfl, Nat.le_of_ble_eq_true rfl⟩ ⟨Nat.le_of_ble_eq_true rfl, Nat.le_of_ble_eq_true rfl⟩ (Nat.le_of_ble_eq_true rfl) ?_
              refine z_if_le (tgt := 108) dX7_work_101 rfl (by decide) (fun c101 => ?_) (fun c101 => ?_)
              · refine z_iconst (v := nI 0) dX7_work_108 rfl (by decide) ?_
                refine z_iadd dX7_work_109 rfl ?_
                refine z_istore_8 dX7_work_110 rfl ?_
                refine z_iload dX7_work_112 rfl rfl ?_
                refine z_aload_n dX7_work_114 rfl rfl ?_
                refine z_iload dX7_work_115 rfl rfl ?_
                refine z_callVi (c_X7_term G ex _ code tps pts lns wds brs ors stp hasP fld laid told rws (nI 0) cmT cmS isN trs (X7_laySix_c101 sg sx a b c d e) j (by omega) rfl rfl) gX7_work_X7_term rfl dX7_work_117 rfl rfl rfl okk_X7_term (Nat.le_of_ble_eq_true rfl) rfl rfl ⟨Nat.le_of_ble_eq_true rfl, Nat.le_of_ble_eq_true rfl⟩ ⟨Nat.le_of_ble_eq_true rfl, Nat.le_of_ble_eq_true rfl⟩ (Nat.le_of_ble_eq_true rfl) ?_
                refine z_if_ge (tgt := 127) dX7_work_120 rfl (by decide) (fun c120 => ?_) (fun c120 => ?_)
                · refine z_iconst (v := nI 0) dX7_work_127 rfl (by decide) ?_
                  refine z_iadd dX7_work_128 rfl ?_
                  refine z_istore_9 dX7_work_129 rfl ?_
                  refine z_iinc_10 (v := nI (j + 1)) dX7_work_131 rfl (zinc _) ?_
                  refine z_goto (tgt := 73) dX7_work_134 (by decide) ?_
                  have K9 := K
                  try simp only [X7_work_L73_F, if_pos c81, if_pos c101, if_pos c120] at K9
                  exact K9
                · refine z_iconst (v := nI 1) dX7_work_123 rfl (by decide) ?_
                  refine z_goto (tgt := 128) dX7_work_124 (by decide) ?_
                  refine z_iadd dX7_work_128 rfl ?_
                  refine z_istore_9 dX7_work_129 rfl ?_
                  refine z_iinc_10 (v := nI (j + 1)) dX7_work_131 rfl (zinc _) ?_
                  refine z_goto (tgt := 73) dX7_work_134 (by decide) ?_
                  have K9 := K
                  try simp only [X7_work_L73_F, if_pos c81, if_pos c101, if_neg c120] at K9
                  exact K9
              · refine z_iconst (v := nI 1) dX7_work_104 rfl (by decide) ?_
                refine z_goto (tgt := 109) dX7_work_105 (by decide) ?_
                refine z_iadd dX7_work_109 rfl ?_
                refine z_istore_8 dX7_work_110 rfl ?_
                refine z_iload dX7_work_112 rfl rfl ?_
                refine z_aload_n dX7_work_114 rfl rfl ?_
                refine z_iload dX7_work_115 rfl rfl ?_
                refine z_callVi (c_X7_term G ex _ code tps pts lns wds brs ors stp hasP fld laid told rws (nI 0) cmT cmS isN trs (X7_laySix_c101 sg sx a b c d e) j (by omega) rfl rfl) gX7_work_X7_term rfl dX7_work_117 rfl rfl rfl okk_X7_term (Nat.le_of_ble_eq_true rfl) rfl rfl ⟨Nat.le_of_ble_eq_true rfl, Nat.le_of_ble_eq_true rfl⟩ ⟨Nat.le_of_ble_eq_true rfl, Nat.le_of_ble_eq_true rfl⟩ (Nat.le_of_ble_eq_true rfl) ?_
                refine z_if_ge (tgt := 127) dX7_work_120 rfl (by decide) (fun c120 => ?_) (fun c120 => ?_)
                · refine z_iconst (v := nI 0) dX7_work_127 rfl (by decide) ?_
                  refine z_iadd dX7_work_128 rfl ?_
                  refine z_istore_9 dX7_work_129 rfl ?_
                  refine z_iinc_10 (v := nI (j + 1)) dX7_work_131 rfl (zinc _) ?_
                  refine z_goto (tgt := 73) dX7_work_134 (by decide) ?_
                  have K9 := K
                  try simp only [X7_work_L73_F, if_pos c81, if_neg c101, if_pos c120] at K9
                  exact K9
                · refine z_iconst (v := nI 1) dX7_work_123 rfl (by decide) ?_
                  refine z_goto (tgt := 128) dX7_work_124 (by decide) ?_
                  refine z_iadd dX7_work_128 rfl ?_
                  refine z_istore_9 dX7_work_129 rfl ?_
                  refine z_iinc_10 (v := nI (j + 1)) dX7_work_131 rfl (zinc _) ?_
                  refine z_goto (tgt := 73) dX7_work_134 (by decide) ?_
                  have K9 := K
                  try simp only [X7_work_L73_F, if_pos c81, if_neg c101, if_neg c120] at K9
                  exact K9
            · refine z_iload dX7_work_84 rfl rfl ?_
              refine z_iconst (v := nI 2) dX7_work_86 rfl (by decide) ?_
              refine z_idiv dX7_work_87 rfl (by decide) ?_
              refine z_iload dX7_work_88 rfl rfl ?_
              refine z_icmp_eq (tgt := 131) dX7_work_90 rfl (by decide) (fun c90 => ?_) (fun c90 => ?_)
              · refine z_iinc_10 (v := nI (j + 1)) dX7_work_131 rfl (zinc _) ?_
                refine z_goto (tgt := 73) dX7_work_134 (by decide) ?_
                have K9 := K
                try simp only [X7_work_L73_F, if_neg c81, if_pos c90] at K9
                exact K9
              · refine z_iload dX7_work_93 rfl rfl ?_
                refine z_aload_n dX7_work_95 rfl rfl ?_
                refine z_iload dX7_work_96 rfl rfl ?_
                refine z_callVi (c_X7_term G ex _ code tps pts lns wds brs ors stp hasP fld laid told rws (nI 0) cmT cmS isN trs (X7_laySix_c101 sg sx a b c d e) j (by omega) rfl rfl) gX7_work_X7_term rfl dX7_work_98 rfl rfl rfl okk_X7_term (Nat.le_of_ble_eq_true rfl) rfl rfl ⟨Nat.le_of_ble_eq_true rfl, Nat.le_of_ble_eq_true rfl⟩ ⟨Nat.le_of_ble_eq_true rfl, Nat.le_of_ble_eq_true rfl⟩ (Nat.le_of_ble_eq_true rfl) ?_
                refine z_if_le (tgt := 108) dX7_work_101 rfl (by decide) (fun c101 => ?_) (fun c101 => ?_)
                · refine z_iconst (v := nI 0) dX7_work_108 rfl (by decide) ?_
                  refine z_iadd dX7_work_109 rfl ?_
                  refine z_istore_8 dX7_work_110 rfl ?_
                  refine z_iload dX7_work_112 rfl rfl ?_
                  refine z_aload_n dX7_work_114 rfl rfl ?_
                  refine z_iload dX7_work_115 rfl rfl ?_
                  refine z_callVi (c_X7_term G ex _ code tps pts lns wds brs ors stp hasP fld laid told rws (nI 0) cmT cmS isN trs (X7_laySix_c101 sg sx a b c d e) j (by omega) rfl rfl) gX7_work_X7_term rfl dX7_work_117 rfl rfl rfl okk_X7_term (Nat.le_of_ble_eq_true rfl) rfl rfl ⟨Nat.le_of_ble_eq_true rfl, Nat.le_of_ble_eq_true rfl⟩ ⟨Nat.le_of_ble_eq_true rfl, Nat.le_of_ble_eq_true rfl⟩ (Nat.le_of_ble_eq_true rfl) ?_
                  refine z_if_ge (tgt := 127) dX7_work_120 rfl (by decide) (fun c120 => ?_) (fun c120 => ?_)
                  · refine z_iconst (v := nI 0) dX7_work_127 rfl (by decide) ?_
                    refine z_iadd dX7_work_128 rfl ?_
                    refine z_istore_9 dX7_work_129 rfl ?_
                    refine z_iinc_10 (v := nI (j + 1)) dX7_work_131 rfl (zinc _) ?_
                    refine z_goto (tgt := 73) dX7_work_134 (by decide) ?_
                    have K9 := K
                    try simp only [X7_work_L73_F, if_neg c81, if_neg c90, if_pos c101, if_pos c120] at K9
                    exact K9
                  · refine z_iconst (v := nI 1) dX7_work_123 rfl (by decide) ?_
                    refine z_goto (tgt := 128) dX7_work_124 (by decide) ?_
                    refine z_iadd dX7_work_128 rfl ?_
                    refine z_istore_9 dX7_work_129 rfl ?_
                    refine z_iinc_10 (v := nI (j + 1)) dX7_work_131 rfl (zinc _) ?_
                    refine z_goto (tgt := 73) dX7_work_134 (by decide) ?_
                    have K9 := K
                    try simp only [X7_work_L73_F, if_neg c81, if_neg c90, if_pos c101, if_neg c120] at K9
                    exact K9
                · refine z_iconst (v := nI 1) dX7_work_104 rfl (by decide) ?_
                  refine z_goto (tgt := 109) dX7_work_105 (by decide) ?_
                  refine z_iadd dX7_work_109 rfl ?_
                  refine z_istore_8 dX7_work_110 rfl ?_
                  refine z_iload dX7_work_112 rfl rfl ?_
                  refine z_aload_n dX7_work_114 rfl rfl ?_
                  refine z_iload dX7_work_115 rfl rfl ?_
                  refine z_callVi (c_X7_term G ex _ code tps pts lns wds brs ors stp hasP fld laid told rws (nI 0) cmT cmS isN trs (X7_laySix_c101 sg sx a b c d e) j (by omega) rfl rfl) gX7_work_X7_term rfl dX7_work_117 rfl rfl rfl okk_X7_term (Nat.le_of_ble_eq_true rfl) rfl rfl ⟨Nat.le_of_ble_eq_true rfl, Nat.le_of_ble_eq_true rfl⟩ ⟨Nat.le_of_ble_eq_true rfl, Nat.le_of_ble_eq_true rfl⟩ (Nat.le_of_ble_eq_true rfl) ?_
                  refine z_if_ge (tgt := 127) dX7_work_120 rfl (by decide) (fun c120 => ?_) (fun c120 => ?_)
                  · refine z_iconst (v := nI 0) dX7_work_127 rfl (by decide) ?_
                    refine z_iadd dX7_work_128 rfl ?_
                    refine z_istore_9 dX7_work_129 rfl ?_
                    refine z_iinc_10 (v := nI (j + 1)) dX7_work_131 rfl (zinc _) ?_
                    refine z_goto (tgt := 73) dX7_work_134 (by decide) ?_
                    have K9 := K
                    try simp only [X7_work_L73_F, if_neg c81, if_neg c90, if_neg c101, if_pos c120] at K9
                    exact K9
                  · refine z_iconst (v := nI 1) dX7_work_123 rfl (by decide) ?_
                    refine z_goto (tgt := 128) dX7_work_124 (by decide) ?_
                    refine z_iadd dX7_work_128 rfl ?_
                    refine z_istore_9 dX7_work_129 rfl ?_
                    refine z_iinc_10 (v := nI (j + 1)) dX7_work_131 rfl (zinc _) ?_
                    refine z_goto (tgt := 73) dX7_work_134 (by decide) ?_
                    have K9 := K
                    try simp only [X7_work_L73_F, if_neg c81, if_neg c90, if_neg c101, if_neg c120] at K9
                    exact K9
        · generalize hR73 : zfold (X7_work_L73_F sg sx a b c d e opno atto) 3 0 (nI 0, nI 0) = r9
          obtain ⟨abo, beo⟩ := r9
          intro _
          refine z_iload dX7_work_73 rfl rfl ?_
          refine z_iconst (v := nI 3) dX7_work_75 rfl (by decide) ?_
          refine z_icmp_ge (tgt := 137) dX7_work_76 rfl (by decide) (fun c76 => ?_) (fun c76 => ?_)
          · refine z_iload dX7_work_137 rfl rfl ?_
            refine z_if_ne (tgt := 175) dX7_work_139 rfl (by decide) (fun c139 => ?_) (fun c139 => ?_)
            · refine z_aload_n dX7_work_175 rfl rfl ?_
              refine z_get dX7_work_176 rfl hiX7_work_X7 37 lkX7_work_86 (Nat.le_of_ble_eq_true rfl) rfl rfl (by decide) rfl ?_
              refine z_iload dX7_work_179 rfl rfl ?_
              refine z_iconst (v := nI 2) dX7_work_181 rfl (by decide) ?_
              refine z_irem dX7_work_182 rfl (by decide) ?_
              refine z_if_ne (tgt := 193) dX7_work_183 rfl (by decide) (fun c183 => ?_) (fun c183 => ?_)
              · have hat1 : 1 ≤ atto := zat0 c183
                refine z_iload dX7_work_193 rfl rfl ?_
                refine z_iconst (v := nI 1) dX7_work_195 rfl (by decide) ?_
                refine z_isub dX7_work_196 rfl ?_
                refine z_ialdN (j := atto - 1) dX7_work_197 rfl (Nat.le_of_ble_eq_true rfl) rfl ((zq_sub rfl rfl (by omega))) (by first | omega | exact zat1 hat c183) (by decide) ?_
                refine z_istore_10 dX7_work_198 rfl ?_
                refine z_iload dX7_work_200 rfl rfl ?_
                refine z_if_eq (tgt := 215) dX7_work_202 rfl (by decide) (fun c202 => ?_) (fun c202 => ?_)
                · exact z_return dX7_work_215 rfl (Nat.le_refl _) (Nat.le_refl _) (fun _ => rfl) ⟨rfl, by simp only [X7_work_p76_13, X7_work_p76_14, X7_work_p76_15, X7_work_c101, hR25, zlet_e, if_pos c60, hR73, zlet_e, if_neg c139, if_neg c183, if_pos c202]⟩
                · refine z_iload dX7_work_205 rfl rfl ?_
                  refine z_if_le (tgt := 216) dX7_work_207 rfl (by decide) (fun c207 => ?_) (fun c207 => ?_)
                  · refine z_iload dX7_work_216 rfl rfl ?_
                    refine z_if_le (tgt := 225) dX7_work_218 rfl (by decide) (fun c218 => ?_) (fun c218 => ?_)
                    · refine z_iload dX7_work_225 rfl rfl ?_
                      refine z_if_le (tgt := 234) dX7_work_227 rfl (by decide) (fun c227 => ?_) (fun c227 => ?_)
                      · refine z_iconst (v := nI 0) dX7_work_234 rfl (by decide) ?_
                        refine z_istore_11 dX7_work_235 rfl ?_
                        refine z_iload dX7_work_237 rfl rfl ?_
                        refine z_iload dX7_work_239 rfl rfl ?_
                        refine z_imul dX7_work_241 rfl ?_
                        refine z_iload dX7_work_242 rfl rfl ?_
                        refine z_iconst (v := nI 2) dX7_work_244 rfl (by decide) ?_
                        refine z_idiv dX7_work_245 rfl (by decide) ?_
                        refine z_iconst (v := nI 1) dX7_work_246 rfl (by decide) ?_
                        refine z_icmp_ne (tgt := 254) dX7_work_247 rfl (by decide) (fun c247 => ?_) (fun c247 => ?_)
                        · refine z_iconst (v := nI 1) dX7_work_254 rfl (by decide) ?_
                          refine z_imul dX7_work_255 rfl ?_
                          refine z_istore_12 dX7_work_256 rfl ?_
                          refine z_aload_n dX7_work_258 rfl rfl ?_
                          refine z_iconst (v := nI 2) dX7_work_259 rfl (by decide) ?_
                          refine z_putN (e9 := (oMod G code (nI tps) (nI pts) (nI lns) (nI wds) (nI brs) (nI ors) stp hasP fld laid told (nI rws) (nI 2) (nI cmT) cmS isN (nI trs))) tyX7 tyX7_ok nmX7 dX7_work_260 rfl hiX7_work_X7 38 lkX7_work_238 rfl (by decide +kernel) (Nat.le_of_ble_eq_true rfl) rfl rfl (by decide) (Nat.le_of_ble_eq_true rfl) rfl rfl rfl ?_
                          refine z_n (L' := [(76, (oMod G code (nI tps) (nI pts) (nI lns) (nI wds) (nI brs) (nI ors) stp hasP fld laid told (nI rws) (nI 2) (nI cmT) cmS isN (nI trs))), (101, (zI G 6 (X7_laySix_c101 sg sx a b c d e)))]) rfl ?_
                          refine z_aload_n dX7_work_263 rfl rfl ?_
                          refine z_iload dX7_work_264 rfl rfl ?_
                          refine z_iload dX7_work_266 rfl rfl ?_
                          refine z_iload_n dX7_work_268 rfl rfl ?_
                          refine z_iload_n dX7_work_269 rfl rfl ?_
                          refine z_iload_n dX7_work_270 rfl rfl ?_
                          refine z_iload dX7_work_271 rfl rfl ?_
                          refine z_iload dX7_work_273 rfl rfl ?_
                          refine z_callVv (c_X7_tells G ex _ code tps pts lns wds brs ors stp hasP fld laid told rws (nI 2) cmT cmS isN trs atto (((nI 0) * ((X7_laySix_c101 sg sx a b c d e) (atto - 1))) * (nI 1)) a b c d e (by omega) (by omega) (by omega) (by omega) (by omega) rfl) gX7_work_X7_tells rfl dX7_work_275 rfl rfl rfl okk_X7_tells (Nat.le_of_ble_eq_true rfl) rfl rfl ⟨Nat.le_of_ble_eq_true rfl, Nat.le_of_ble_eq_true rfl⟩ ⟨Nat.le_of_ble_eq_true rfl, Nat.le_of_ble_eq_true rfl⟩ (Nat.le_of_ble_eq_true rfl) ?_
                          refine z_nn (L' := [(76, (oMod G code (nI tps) (nI pts) (nI lns) (nI wds) (nI brs) (nI ors) stp hasP fld laid told (nI rws) (nI 2) (nI (X7_tells_p76_14 atto a b c d e)) (X7_tells_p76_15 atto (((nI 0) * ((X7_laySix_c101 sg sx a b c d e) (atto - 1))) * (nI 1)) a b c d e) isN (nI trs))), (101, (zI G 6 (X7_laySix_c101 sg sx a b c d e)))]) rfl ?_
                          exact z_return dX7_work_278 rfl (Nat.le_refl _) (Nat.le_refl _) (fun _ => rfl) ⟨rfl, by simp only [X7_work_p76_13, X7_work_p76_14, X7_work_p76_15, X7_work_c101, hR25, zlet_e, if_pos c60, hR73, zlet_e, if_neg c139, if_neg c183, if_neg c202, if_pos c207, if_pos c227, if_neg c247]⟩
                        · refine z_iconst (v := (-1)) dX7_work_250 rfl (by decide) ?_
                          refine z_goto (tgt := 255) dX7_work_251 (by decide) ?_
                          refine z_imul dX7_work_255 rfl ?_
                          refine z_istore_12 dX7_work_256 rfl ?_
                          refine z_aload_n dX7_work_258 rfl rfl ?_
                          refine z_iconst (v := nI 2) dX7_work_259 rfl (by decide) ?_
                          refine z_putN (e9 := (oMod G code (nI tps) (nI pts) (nI lns) (nI wds) (nI brs) (nI ors) stp hasP fld laid told (nI rws) (nI 2) (nI cmT) cmS isN (nI trs))) tyX7 tyX7_ok nmX7 dX7_work_260 rfl hiX7_work_X7 38 lkX7_work_238 rfl (by decide +kernel) (Nat.le_of_ble_eq_true rfl) rfl rfl (by decide) (Nat.le_of_ble_eq_true rfl) rfl rfl rfl ?_
                          refine z_n (L' := [(76, (oMod G code (nI tps) (nI pts) (nI lns) (nI wds) (nI brs) (nI ors) stp hasP fld laid told (nI rws) (nI 2) (nI cmT) cmS isN (nI trs))), (101, (zI G 6 (X7_laySix_c101 sg sx a b c d e)))]) rfl ?_
                          refine z_aload_n dX7_work_263 rfl rfl ?_
                          refine z_iload dX7_work_264 rfl rfl ?_
                          refine z_iload dX7_work_266 rfl rfl ?_
                          refine z_iload_n dX7_work_268 rfl rfl ?_
                          refine z_iload_n dX7_work_269 rfl rfl ?_
                          refine z_iload_n dX7_work_270 rfl rfl ?_
                          refine z_iload dX7_work_271 rfl rfl ?_
                          refine z_iload dX7_work_273 rfl rfl ?_
                          refine z_callVv (c_X7_tells G ex _ code tps pts lns wds brs ors stp hasP fld laid told rws (nI 2) cmT cmS isN trs atto (((nI 0) * ((X7_laySix_c101 sg sx a b c d e) (atto - 1))) * (-1)) a b c d e (by omega) (by omega) (by omega) (by omega) (by omega) rfl) gX7_work_X7_tells rfl dX7_work_275 rfl rfl rfl okk_X7_tells (Nat.le_of_ble_eq_true rfl) rfl rfl ⟨Nat.le_of_ble_eq_true rfl, Nat.le_of_ble_eq_true rfl⟩ ⟨Nat.le_of_ble_eq_true rfl, Nat.le_of_ble_eq_true rfl⟩ (Nat.le_of_ble_eq_true rfl) ?_
                          refine z_nn (L' := [(76, (oMod G code (nI tps) (nI pts) (nI lns) (nI wds) (nI brs) (nI ors) stp hasP fld laid told (nI rws) (nI 2) (nI (X7_tells_p76_14 atto a b c d e)) (X7_tells_p76_15 atto (((nI 0) * ((X7_laySix_c101 sg sx a b c d e) (atto - 1))) * (-1)) a b c d e) isN (nI trs))), (101, (zI G 6 (X7_laySix_c101 sg sx a b c d e)))]) rfl ?_
                          exact z_return dX7_work_278 rfl (Nat.le_refl _) (Nat.le_refl _) (fun _ => rfl) ⟨rfl, by simp only [X7_work_p76_13, X7_work_p76_14, X7_work_p76_15, X7_work_c101, hR25, zlet_e, if_pos c60, hR73, zlet_e, if_neg c139, if_neg c183, if_neg c202, if_pos c207, if_pos c227, if_pos c247]⟩
                      · refine z_iconst (v := nI 1) dX7_work_230 rfl (by decide) ?_
                        refine z_goto (tgt := 235) dX7_work_231 (by decide) ?_
                        refine z_istore_11 dX7_work_235 rfl ?_
                        refine z_iload dX7_work_237 rfl rfl ?_
                        refine z_iload dX7_work_239 rfl rfl ?_
                        refine z_imul dX7_work_241 rfl ?_
                        refine z_iload dX7_work_242 rfl rfl ?_
                        refine z_iconst (v := nI 2) dX7_work_244 rfl (by decide) ?_
                        refine z_idiv dX7_work_245 rfl (by decide) ?_
                        refine z_iconst (v := nI 1) dX7_work_246 rfl (by decide) ?_
                        refine z_icmp_ne (tgt := 254) dX7_work_247 rfl (by decide) (fun c247 => ?_) (fun c247 => ?_)
                        · refine z_iconst (v := nI 1) dX7_work_254 rfl (by decide) ?_
                          refine z_imul dX7_work_255 rfl ?_
                          refine z_istore_12 dX7_work_256 rfl ?_
                          refine z_aload_n dX7_work_258 rfl rfl ?_
                          refine z_iconst (v := nI 2) dX7_work_259 rfl (by decide) ?_
                          refine z_putN (e9 := (oMod G code (nI tps) (nI pts) (nI lns) (nI wds) (nI brs) (nI ors) stp hasP fld laid told (nI rws) (nI 2) (nI cmT) cmS isN (nI trs))) tyX7 tyX7_ok nmX7 dX7_work_260 rfl hiX7_work_X7 38 lkX7_work_238 rfl (by decide +kernel) (Nat.le_of_ble_eq_true rfl) rfl rfl (by decide) (Nat.le_of_ble_eq_true rfl) rfl rfl rfl ?_
                          refine z_n (L' := [(76, (oMod G code (nI tps) (nI pts) (nI lns) (nI wds) (nI brs) (nI ors) stp hasP fld laid told (nI rws) (nI 2) (nI cmT) cmS isN (nI trs))), (101, (zI G 6 (X7_laySix_c101 sg sx a b c d e)))]) rfl ?_
                          refine z_aload_n dX7_work_263 rfl rfl ?_
                          refine z_iload dX7_work_264 rfl rfl ?_
                          refine z_iload dX7_work_266 rfl rfl ?_
                          refine z_iload_n dX7_work_268 rfl rfl ?_
                          refine z_iload_n dX7_work_269 rfl rfl ?_
                          refine z_iload_n dX7_work_270 rfl rfl ?_
                          refine z_iload dX7_work_271 rfl rfl ?_
                          refine z_iload dX7_work_273 rfl rfl ?_
                          refine z_callVv (c_X7_tells G ex _ code tps pts lns wds brs ors stp hasP fld laid told rws (nI 2) cmT cmS isN trs atto (((nI 1) * ((X7_laySix_c101 sg sx a b c d e) (atto - 1))) * (nI 1)) a b c d e (by omega) (by omega) (by omega) (by omega) (by omega) rfl) gX7_work_X7_tells rfl dX7_work_275 rfl rfl rfl okk_X7_tells (Nat.le_of_ble_eq_true rfl) rfl rfl ⟨Nat.le_of_ble_eq_true rfl, Nat.le_of_ble_eq_true rfl⟩ ⟨Nat.le_of_ble_eq_true rfl, Nat.le_of_ble_eq_true rfl⟩ (Nat.le_of_ble_eq_true rfl) ?_
                          refine z_nn (L' := [(76, (oMod G code (nI tps) (nI pts) (nI lns) (nI wds) (nI brs) (nI ors) stp hasP fld laid told (nI rws) (nI 2) (nI (X7_tells_p76_14 atto a b c d e)) (X7_tells_p76_15 atto (((nI 1) * ((X7_laySix_c101 sg sx a b c d e) (atto - 1))) * (nI 1)) a b c d e) isN (nI trs))), (101, (zI G 6 (X7_laySix_c101 sg sx a b c d e)))]) rfl ?_
                          exact z_return dX7_work_278 rfl (Nat.le_refl _) (Nat.le_refl _) (fun _ => rfl) ⟨rfl, by simp only [X7_work_p76_13, X7_work_p76_14, X7_work_p76_15, X7_work_c101, hR25, zlet_e, if_pos c60, hR73, zlet_e, if_neg c139, if_neg c183, if_neg c202, if_pos c207, if_neg c227, if_neg c247]⟩
                        · refine z_iconst (v := (-1)) dX7_work_250 rfl (by decide) ?_
                          refine z_goto (tgt := 255) dX7_work_251 (by decide) ?_
                          refine z_imul dX7_work_255 rfl ?_
                          refine z_istore_12 dX7_work_256 rfl ?_
                          refine z_aload_n dX7_work_258 rfl rfl ?_
                          refine z_iconst (v := nI 2) dX7_work_259 rfl (by decide) ?_
                          refine z_putN (e9 := (oMod G code (nI tps) (nI pts) (nI lns) (nI wds) (nI brs) (nI ors) stp hasP fld laid told (nI rws) (nI 2) (nI cmT) cmS isN (nI trs))) tyX7 tyX7_ok nmX7 dX7_work_260 rfl hiX7_work_X7 38 lkX7_work_238 rfl (by decide +kernel) (Nat.le_of_ble_eq_true rfl) rfl rfl (by decide) (Nat.le_of_ble_eq_true rfl) rfl rfl rfl ?_
                          refine z_n (L' := [(76, (oMod G code (nI tps) (nI pts) (nI lns) (nI wds) (nI brs) (nI ors) stp hasP fld laid told (nI rws) (nI 2) (nI cmT) cmS isN (nI trs))), (101, (zI G 6 (X7_laySix_c101 sg sx a b c d e)))]) rfl ?_
                          refine z_aload_n dX7_work_263 rfl rfl ?_
                          refine z_iload dX7_work_264 rfl rfl ?_
                          refine z_iload dX7_work_266 rfl rfl ?_
                          refine z_iload_n dX7_work_268 rfl rfl ?_
                          refine z_iload_n dX7_work_269 rfl rfl ?_
                          refine z_iload_n dX7_work_270 rfl rfl ?_
                          refine z_iload dX7_work_271 rfl rfl ?_
                          refine z_iload dX7_work_273 rfl rfl ?_
                          refine z_callVv (c_X7_tells G ex _ code tps pts lns wds brs ors stp hasP fld laid told rws (nI 2) cmT cmS isN trs atto (((nI 1) * ((X7_laySix_c101 sg sx a b c d e) (atto - 1))) * (-1)) a b c d e (by omega) (by omega) (by omega) (by omega) (by omega) rfl) gX7_work_X7_tells rfl dX7_work_275 rfl rfl rfl okk_X7_tells (Nat.le_of_ble_eq_true rfl) rfl rfl ⟨Nat.le_of_ble_eq_true rfl, Nat.le_of_ble_eq_true rfl⟩ ⟨Nat.le_of_ble_eq_true rfl, Nat.le_of_ble_eq_true rfl⟩ (Nat.le_of_ble_eq_true rfl) ?_
                          refine z_nn (L' := [(76, (oMod G code (nI tps) (nI pts) (nI lns) (nI wds) (nI brs) (nI ors) stp hasP fld laid told (nI rws) (nI 2) (nI (X7_tells_p76_14 atto a b c d e)) (X7_tells_p76_15 atto (((nI 1) * ((X7_laySix_c101 sg sx a b c d e) (atto - 1))) * (-1)) a b c d e) isN (nI trs))), (101, (zI G 6 (X7_laySix_c101 sg sx a b c d e)))]) rfl ?_
                          exact z_return dX7_work_278 rfl (Nat.le_refl _) (Nat.le_refl _) (fun _ => rfl) ⟨rfl, by simp only [X7_work_p76_13, X7_work_p76_14, X7_work_p76_15, X7_work_c101, hR25, zlet_e, if_pos c60, hR73, zlet_e, if_neg c139, if_neg c183, if_neg c202, if_pos c207, if_neg c227, if_pos c247]⟩
                    · exact absurd c207 c218
                  · refine z_iload dX7_work_210 rfl rfl ?_
                    refine z_if_le (tgt := 216) dX7_work_212 rfl (by decide) (fun c212 => ?_) (fun c212 => ?_)
                    · refine z_iload dX7_work_216 rfl rfl ?_
                      refine z_if_le (tgt := 225) dX7_work_218 rfl (by decide) (fun c218 => ?_) (fun c218 => ?_)
                      · exact absurd c218 c207
                      · refine z_iconst (v := (-1)) dX7_work_221 rfl (by decide) ?_
                        refine z_goto (tgt := 235) dX7_work_222 (by decide) ?_
                        refine z_istore_11 dX7_work_235 rfl ?_
                        refine z_iload dX7_work_237 rfl rfl ?_
                        refine z_iload dX7_work_239 rfl rfl ?_
                        refine z_imul dX7_work_241 rfl ?_
                        refine z_iload dX7_work_242 rfl rfl ?_
                        refine z_iconst (v := nI 2) dX7_work_244 rfl (by decide) ?_
                        refine z_idiv dX7_work_245 rfl (by decide) ?_
                        refine z_iconst (v := nI 1) dX7_work_246 rfl (by decide) ?_
                        refine z_icmp_ne (tgt := 254) dX7_work_247 rfl (by decide) (fun c247 => ?_) (fun c247 => ?_)
                        · refine z_iconst (v := nI 1) dX7_work_254 rfl (by decide) ?_
                          refine z_imul dX7_work_255 rfl ?_
                          refine z_istore_12 dX7_work_256 rfl ?_
                          refine z_aload_n dX7_work_258 rfl rfl ?_
                          refine z_iconst (v := nI 2) dX7_work_259 rfl (by decide) ?_
                          refine z_putN (e9 := (oMod G code (nI tps) (nI pts) (nI lns) (nI wds) (nI brs) (nI ors) stp hasP fld laid told (nI rws) (nI 2) (nI cmT) cmS isN (nI trs))) tyX7 tyX7_ok nmX7 dX7_work_260 rfl hiX7_work_X7 38 lkX7_work_238 rfl (by decide +kernel) (Nat.le_of_ble_eq_true rfl) rfl rfl (by decide) (Nat.le_of_ble_eq_true rfl) rfl rfl rfl ?_
                          refine z_n (L' := [(76, (oMod G code (nI tps) (nI pts) (nI lns) (nI wds) (nI brs) (nI ors) stp hasP fld laid told (nI rws) (nI 2) (nI cmT) cmS isN (nI trs))), (101, (zI G 6 (X7_laySix_c101 sg sx a b c d e)))]) rfl ?_
                          refine z_aload_n dX7_work_263 rfl rfl ?_
                          refine z_iload dX7_work_264 rfl rfl ?_
                          refine z_iload dX7_work_266 rfl rfl ?_
                          refine z_iload_n dX7_work_268 rfl rfl ?_
                          refine z_iload_n dX7_work_269 rfl rfl ?_
                          refine z_iload_n dX7_work_270 rfl rfl ?_
                          refine z_iload dX7_work_271 rfl rfl ?_
                          refine z_iload dX7_work_273 rfl rfl ?_
                          refine z_callVv (c_X7_tells G ex _ code tps pts lns wds brs ors stp hasP fld laid told rws (nI 2) cmT cmS isN trs atto (((-1) * ((X7_laySix_c101 sg sx a b c d e) (atto - 1))) * (nI 1)) a b c d e (by omega) (by omega) (by omega) (by omega) (by omega) rfl) gX7_work_X7_tells rfl dX7_work_275 rfl rfl rfl okk_X7_tells (Nat.le_of_ble_eq_true rfl) rfl rfl ⟨Nat.le_of_ble_eq_true rfl, Nat.le_of_ble_eq_true rfl⟩ ⟨Nat.le_of_ble_eq_true rfl, Nat.le_of_ble_eq_true rfl⟩ (Nat.le_of_ble_eq_true rfl) ?_
                          refine z_nn (L' := [(76, (oMod G code (nI tps) (nI pts) (nI lns) (nI wds) (nI brs) (nI ors) stp hasP fld laid told (nI rws) (nI 2) (nI (X7_tells_p76_14 atto a b c d e)) (X7_tells_p76_15 atto (((-1) * ((X7_laySix_c101 sg sx a b c d e) (atto - 1))) * (nI 1)) a b c d e) isN (nI trs))), (101, (zI G 6 (X7_laySix_c101 sg sx a b c d e)))]) rfl ?_
                          exact z_return dX7_work_278 rfl (Nat.le_refl _) (Nat.le_refl _) (fun _ => rfl) ⟨rfl, by simp only [X7_work_p76_13, X7_work_p76_14, X7_work_p76_15, X7_work_c101, hR25, zlet_e, if_pos c60, hR73, zlet_e, if_neg c139, if_neg c183, if_neg c202, if_neg c207, if_pos c212, if_neg c247]⟩
                        · refine z_iconst (v := (-1)) dX7_work_250 rfl (by decide) ?_
                          refine z_goto (tgt := 255) dX7_work_251 (by decide) ?_
                          refine z_imul dX7_work_255 rfl ?_
                          refine z_istore_12 dX7_work_256 rfl ?_
                          refine z_aload_n dX7_work_258 rfl rfl ?_
                          refine z_iconst (v := nI 2) dX7_work_259 rfl (by decide) ?_
                          refine z_putN (e9 := (oMod G code (nI tps) (nI pts) (nI lns) (nI wds) (nI brs) (nI ors) stp hasP fld laid told (nI rws) (nI 2) (nI cmT) cmS isN (nI trs))) tyX7 tyX7_ok nmX7 dX7_work_260 rfl hiX7_work_X7 38 lkX7_work_238 rfl (by decide +kernel) (Nat.le_of_ble_eq_true rfl) rfl rfl (by decide) (Nat.le_of_ble_eq_true rfl) rfl rfl rfl ?_
                          refine z_n (L' := [(76, (oMod G code (nI tps) (nI pts) (nI lns) (nI wds) (nI brs) (nI ors) stp hasP fld laid told (nI rws) (nI 2) (nI cmT) cmS isN (nI trs))), (101, (zI G 6 (X7_laySix_c101 sg sx a b c d e)))]) rfl ?_
                          refine z_aload_n dX7_work_263 rfl rfl ?_
                          refine z_iload dX7_work_264 rfl rfl ?_
                          refine z_iload dX7_work_266 rfl rfl ?_
                          refine z_iload_n dX7_work_268 rfl rfl ?_
                          refine z_iload_n dX7_work_269 rfl rfl ?_
                          refine z_iload_n dX7_work_270 rfl rfl ?_
                          refine z_iload dX7_work_271 rfl rfl ?_
                          refine z_iload dX7_work_273 rfl rfl ?_
                          refine z_callVv (c_X7_tells G ex _ code tps pts lns wds brs ors stp hasP fld laid told rws (nI 2) cmT cmS isN trs atto (((-1) * ((X7_laySix_c101 sg sx a b c d e) (atto - 1))) * (-1)) a b c d e (by omega) (by omega) (by omega) (by omega) (by omega) rfl) gX7_work_X7_tells rfl dX7_work_275 rfl rfl rfl okk_X7_tells (Nat.le_of_ble_eq_true rfl) rfl rfl ⟨Nat.le_of_ble_eq_true rfl, Nat.le_of_ble_eq_true rfl⟩ ⟨Nat.le_of_ble_eq_true rfl, Nat.le_of_ble_eq_true rfl⟩ (Nat.le_of_ble_eq_true rfl) ?_
                          refine z_nn (L' := [(76, (oMod G code (nI tps) (nI pts) (nI lns) (nI wds) (nI brs) (nI ors) stp hasP fld laid told (nI rws) (nI 2) (nI (X7_tells_p76_14 atto a b c d e)) (X7_tells_p76_15 atto (((-1) * ((X7_laySix_c101 sg sx a b c d e) (atto - 1))) * (-1)) a b c d e) isN (nI trs))), (101, (zI G 6 (X7_laySix_c101 sg sx a b c d e)))]) rfl ?_
                          exact z_return dX7_work_278 rfl (Nat.le_refl _) (Nat.le_refl _) (fun _ => rfl) ⟨rfl, by simp only [X7_work_p76_13, X7_work_p76_14, X7_work_p76_15, X7_work_c101, hR25, zlet_e, if_pos c60, hR73, zlet_e, if_neg c139, if_neg c183, if_neg c202, if_neg c207, if_pos c212, if_pos c247]⟩
                    · exact z_return dX7_work_215 rfl (Nat.le_refl _) (Nat.le_refl _) (fun _ => rfl) ⟨rfl, by simp only [X7_work_p76_13, X7_work_p76_14, X7_work_p76_15, X7_work_c101, hR25, zlet_e, if_pos c60, hR73, zlet_e, if_neg c139, if_neg c183, if_neg c202, if_neg c207, if_neg c212]⟩
              · refine z_iload dX7_work_186 rfl rfl ?_
                refine z_iconst (v := nI 1) dX7_work_188 rfl (by decide) ?_
                refine z_iadd dX7_work_189 rfl ?_
                refine z_goto (tgt := 197) dX7_work_190 (by decide) ?_
                refine z_ialdN (j := atto + 1) dX7_work_197 rfl (Nat.le_of_ble_eq_true rfl) rfl ((zq_add rfl rfl)) (by first | omega | exact zat1 hat c183) (by decide) ?_
                refine z_istore_10 dX7_work_198 rfl ?_
                refine z_iload dX7_work_200 rfl rfl ?_
                refine z_if_eq (tgt := 215) dX7_work_202 rfl (by decide) (fun c202 => ?_) (fun c202 => ?_)
                · exact z_return dX7_work_215 rfl (Nat.le_refl _) (Nat.le_refl _) (fun _ => rfl) ⟨rfl, by simp only [X7_work_p76_13, X7_work_p76_14, X7_work_p76_15, X7_work_c101, hR25, zlet_e, if_pos c60, hR73, zlet_e, if_neg c139, if_pos c183, if_pos c202]⟩
                · refine z_iload dX7_work_205 rfl rfl ?_
                  refine z_if_le (tgt := 216) dX7_work_207 rfl (by decide) (fun c207 => ?_) (fun c207 => ?_)
                  · refine z_iload dX7_work_216 rfl rfl ?_
                    refine z_if_le (tgt := 225) dX7_work_218 rfl (by decide) (fun c218 => ?_) (fun c218 => ?_)
                    · refine z_iload dX7_work_225 rfl rfl ?_
                      refine z_if_le (tgt := 234) dX7_work_227 rfl (by decide) (fun c227 => ?_) (fun c227 => ?_)
                      · refine z_iconst (v := nI 0) dX7_work_234 rfl (by decide) ?_
                        refine z_istore_11 dX7_work_235 rfl ?_
                        refine z_iload dX7_work_237 rfl rfl ?_
                        refine z_iload dX7_work_239 rfl rfl ?_
                        refine z_imul dX7_work_241 rfl ?_
                        refine z_iload dX7_work_242 rfl rfl ?_
                        refine z_iconst (v := nI 2) dX7_work_244 rfl (by decide) ?_
                        refine z_idiv dX7_work_245 rfl (by decide) ?_
                        refine z_iconst (v := nI 1) dX7_work_246 rfl (by decide) ?_
                        refine z_icmp_ne (tgt := 254) dX7_work_247 rfl (by decide) (fun c247 => ?_) (fun c247 => ?_)
                        · refine z_iconst (v := nI 1) dX7_work_254 rfl (by decide) ?_
                          refine z_imul dX7_work_255 rfl ?_
                          refine z_istore_12 dX7_work_256 rfl ?_
                          refine z_aload_n dX7_work_258 rfl rfl ?_
                          refine z_iconst (v := nI 2) dX7_work_259 rfl (by decide) ?_
                          refine z_putN (e9 := (oMod G code (nI tps) (nI pts) (nI lns) (nI wds) (nI brs) (nI ors) stp hasP fld laid told (nI rws) (nI 2) (nI cmT) cmS isN (nI trs))) tyX7 tyX7_ok nmX7 dX7_work_260 rfl hiX7_work_X7 38 lkX7_work_238 rfl (by decide +kernel) (Nat.le_of_ble_eq_true rfl) rfl rfl (by decide) (Nat.le_of_ble_eq_true rfl) rfl rfl rfl ?_
                          refine z_n (L' := [(76, (oMod G code (nI tps) (nI pts) (nI lns) (nI wds) (nI brs) (nI ors) stp hasP fld laid told (nI rws) (nI 2) (nI cmT) cmS isN (nI trs))), (101, (zI G 6 (X7_laySix_c101 sg sx a b c d e)))]) rfl ?_
                          refine z_aload_n dX7_work_263 rfl rfl ?_
                          refine z_iload dX7_work_264 rfl rfl ?_
                          refine z_iload dX7_work_266 rfl rfl ?_
                          refine z_iload_n dX7_work_268 rfl rfl ?_
                          refine z_iload_n dX7_work_269 rfl rfl ?_
                          refine z_iload_n dX7_work_270 rfl rfl ?_
                          refine z_iload dX7_work_271 rfl rfl ?_
                          refine z_iload dX7_work_273 rfl rfl ?_
                          refine z_callVv (c_X7_tells G ex _ code tps pts lns wds brs ors stp hasP fld laid told rws (nI 2) cmT cmS isN trs atto (((nI 0) * ((X7_laySix_c101 sg sx a b c d e) (atto + 1))) * (nI 1)) a b c d e (by omega) (by omega) (by omega) (by omega) (by omega) rfl) gX7_work_X7_tells rfl dX7_work_275 rfl rfl rfl okk_X7_tells (Nat.le_of_ble_eq_true rfl) rfl rfl ⟨Nat.le_of_ble_eq_true rfl, Nat.le_of_ble_eq_true rfl⟩ ⟨Nat.le_of_ble_eq_true rfl, Nat.le_of_ble_eq_true rfl⟩ (Nat.le_of_ble_eq_true rfl) ?_
                          refine z_nn (L' := [(76, (oMod G code (nI tps) (nI pts) (nI lns) (nI wds) (nI brs) (nI ors) stp hasP fld laid told (nI rws) (nI 2) (nI (X7_tells_p76_14 atto a b c d e)) (X7_tells_p76_15 atto (((nI 0) * ((X7_laySix_c101 sg sx a b c d e) (atto + 1))) * (nI 1)) a b c d e) isN (nI trs))), (101, (zI G 6 (X7_laySix_c101 sg sx a b c d e)))]) rfl ?_
                          exact z_return dX7_work_278 rfl (Nat.le_refl _) (Nat.le_refl _) (fun _ => rfl) ⟨rfl, by simp only [X7_work_p76_13, X7_work_p76_14, X7_work_p76_15, X7_work_c101, hR25, zlet_e, if_pos c60, hR73, zlet_e, if_neg c139, if_pos c183, if_neg c202, if_pos c207, if_pos c227, if_neg c247]⟩
                        · refine z_iconst (v := (-1)) dX7_work_250 rfl (by decide) ?_
                          refine z_goto (tgt := 255) dX7_work_251 (by decide) ?_
                          refine z_imul dX7_work_255 rfl ?_
                          refine z_istore_12 dX7_work_256 rfl ?_
                          refine z_aload_n dX7_work_258 rfl rfl ?_
                          refine z_iconst (v := nI 2) dX7_work_259 rfl (by decide) ?_
                          refine z_putN (e9 := (oMod G code (nI tps) (nI pts) (nI lns) (nI wds) (nI brs) (nI ors) stp hasP fld laid told (nI rws) (nI 2) (nI cmT) cmS isN (nI trs))) tyX7 tyX7_ok nmX7 dX7_work_260 rfl hiX7_work_X7 38 lkX7_work_238 rfl (by decide +kernel) (Nat.le_of_ble_eq_true rfl) rfl rfl (by decide) (Nat.le_of_ble_eq_true rfl) rfl rfl rfl ?_
                          refine z_n (L' := [(76, (oMod G code (nI tps) (nI pts) (nI lns) (nI wds) (nI brs) (nI ors) stp hasP fld laid told (nI rws) (nI 2) (nI cmT) cmS isN (nI trs))), (101, (zI G 6 (X7_laySix_c101 sg sx a b c d e)))]) rfl ?_
                          refine z_aload_n dX7_work_263 rfl rfl ?_
                          refine z_iload dX7_work_264 rfl rfl ?_
                          refine z_iload dX7_work_266 rfl rfl ?_
                          refine z_iload_n dX7_work_268 rfl rfl ?_
                          refine z_iload_n dX7_work_269 rfl rfl ?_
                          refine z_iload_n dX7_work_270 rfl rfl ?_
                          refine z_iload dX7_work_271 rfl rfl ?_
                          refine z_iload dX7_work_273 rfl rfl ?_
                          refine z_callVv (c_X7_tells G ex _ code tps pts lns wds brs ors stp hasP fld laid told rws (nI 2) cmT cmS isN trs atto (((nI 0) * ((X7_laySix_c101 sg sx a b c d e) (atto + 1))) * (-1)) a b c d e (by omega) (by omega) (by omega) (by omega) (by omega) rfl) gX7_work_X7_tells rfl dX7_work_275 rfl rfl rfl okk_X7_tells (Nat.le_of_ble_eq_true rfl) rfl rfl ⟨Nat.le_of_ble_eq_true rfl, Nat.le_of_ble_eq_true rfl⟩ ⟨Nat.le_of_ble_eq_true rfl, Nat.le_of_ble_eq_true rfl⟩ (Nat.le_of_ble_eq_true rfl) ?_
                          refine z_nn (L' := [(76, (oMod G code (nI tps) (nI pts) (nI lns) (nI wds) (nI brs) (nI ors) stp hasP fld laid told (nI rws) (nI 2) (nI (X7_tells_p76_14 atto a b c d e)) (X7_tells_p76_15 atto (((nI 0) * ((X7_laySix_c101 sg sx a b c d e) (atto + 1))) * (-1)) a b c d e) isN (nI trs))), (101, (zI G 6 (X7_laySix_c101 sg sx a b c d e)))]) rfl ?_
                          exact z_return dX7_work_278 rfl (Nat.le_refl _) (Nat.le_refl _) (fun _ => rfl) ⟨rfl, by simp only [X7_work_p76_13, X7_work_p76_14, X7_work_p76_15, X7_work_c101, hR25, zlet_e, if_pos c60, hR73, zlet_e, if_neg c139, if_pos c183, if_neg c202, if_pos c207, if_pos c227, if_pos c247]⟩
                      · refine z_iconst (v := nI 1) dX7_work_230 rfl (by decide) ?_
                        refine z_goto (tgt := 235) dX7_work_231 (by decide) ?_
                        refine z_istore_11 dX7_work_235 rfl ?_
                        refine z_iload dX7_work_237 rfl rfl ?_
                        refine z_iload dX7_work_239 rfl rfl ?_
                        refine z_imul dX7_work_241 rfl ?_
                        refine z_iload dX7_work_242 rfl rfl ?_
                        refine z_iconst (v := nI 2) dX7_work_244 rfl (by decide) ?_
                        refine z_idiv dX7_work_245 rfl (by decide) ?_
                        refine z_iconst (v := nI 1) dX7_work_246 rfl (by decide) ?_
                        refine z_icmp_ne (tgt := 254) dX7_work_247 rfl (by decide) (fun c247 => ?_) (fun c247 => ?_)
                        · refine z_iconst (v := nI 1) dX7_work_254 rfl (by decide) ?_
                          refine z_imul dX7_work_255 rfl ?_
                          refine z_istore_12 dX7_work_256 rfl ?_
                          refine z_aload_n dX7_work_258 rfl rfl ?_
                          refine z_iconst (v := nI 2) dX7_work_259 rfl (by decide) ?_
                          refine z_putN (e9 := (oMod G code (nI tps) (nI pts) (nI lns) (nI wds) (nI brs) (nI ors) stp hasP fld laid told (nI rws) (nI 2) (nI cmT) cmS isN (nI trs))) tyX7 tyX7_ok nmX7 dX7_work_260 rfl hiX7_work_X7 38 lkX7_work_238 rfl (by decide +kernel) (Nat.le_of_ble_eq_true rfl) rfl rfl (by decide) (Nat.le_of_ble_eq_true rfl) rfl rfl rfl ?_
                          refine z_n (L' := [(76, (oMod G code (nI tps) (nI pts) (nI lns) (nI wds) (nI brs) (nI ors) stp hasP fld laid told (nI rws) (nI 2) (nI cmT) cmS isN (nI trs))), (101, (zI G 6 (X7_laySix_c101 sg sx a b c d e)))]) rfl ?_
                          refine z_aload_n dX7_work_263 rfl rfl ?_
                          refine z_iload dX7_work_264 rfl rfl ?_
                          refine z_iload dX7_work_266 rfl rfl ?_
                          refine z_iload_n dX7_work_268 rfl rfl ?_
                          refine z_iload_n dX7_work_269 rfl rfl ?_
                          refine z_iload_n dX7_work_270 rfl rfl ?_
                          refine z_iload dX7_work_271 rfl rfl ?_
                          refine z_iload dX7_work_273 rfl rfl ?_
                          refine z_callVv (c_X7_tells G ex _ code tps pts lns wds brs ors stp hasP fld laid told rws (nI 2) cmT cmS isN trs atto (((nI 1) * ((X7_laySix_c101 sg sx a b c d e) (atto + 1))) * (nI 1)) a b c d e (by omega) (by omega) (by omega) (by omega) (by omega) rfl) gX7_work_X7_tells rfl dX7_work_275 rfl rfl rfl okk_X7_tells (Nat.le_of_ble_eq_true rfl) rfl rfl ⟨Nat.le_of_ble_eq_true rfl, Nat.le_of_ble_eq_true rfl⟩ ⟨Nat.le_of_ble_eq_true rfl, Nat.le_of_ble_eq_true rfl⟩ (Nat.le_of_ble_eq_true rfl) ?_
                          refine z_nn (L' := [(76, (oMod G code (nI tps) (nI pts) (nI lns) (nI wds) (nI brs) (nI ors) stp hasP fld laid told (nI rws) (nI 2) (nI (X7_tells_p76_14 atto a b c d e)) (X7_tells_p76_15 atto (((nI 1) * ((X7_laySix_c101 sg sx a b c d e) (atto + 1))) * (nI 1)) a b c d e) isN (nI trs))), (101, (zI G 6 (X7_laySix_c101 sg sx a b c d e)))]) rfl ?_
                          exact z_return dX7_work_278 rfl (Nat.le_refl _) (Nat.le_refl _) (fun _ => rfl) ⟨rfl, by simp only [X7_work_p76_13, X7_work_p76_14, X7_work_p76_15, X7_work_c101, hR25, zlet_e, if_pos c60, hR73, zlet_e, if_neg c139, if_pos c183, if_neg c202, if_pos c207, if_neg c227, if_neg c247]⟩
                        · refine z_iconst (v := (-1)) dX7_work_250 rfl (by decide) ?_
                          refine z_goto (tgt := 255) dX7_work_251 (by decide) ?_
                          refine z_imul dX7_work_255 rfl ?_
                          refine z_istore_12 dX7_work_256 rfl ?_
                          refine z_aload_n dX7_work_258 rfl rfl ?_
                          refine z_iconst (v := nI 2) dX7_work_259 rfl (by decide) ?_
                          refine z_putN (e9 := (oMod G code (nI tps) (nI pts) (nI lns) (nI wds) (nI brs) (nI ors) stp hasP fld laid told (nI rws) (nI 2) (nI cmT) cmS isN (nI trs))) tyX7 tyX7_ok nmX7 dX7_work_260 rfl hiX7_work_X7 38 lkX7_work_238 rfl (by decide +kernel) (Nat.le_of_ble_eq_true rfl) rfl rfl (by decide) (Nat.le_of_ble_eq_true rfl) rfl rfl rfl ?_
                          refine z_n (L' := [(76, (oMod G code (nI tps) (nI pts) (nI lns) (nI wds) (nI brs) (nI ors) stp hasP fld laid told (nI rws) (nI 2) (nI cmT) cmS isN (nI trs))), (101, (zI G 6 (X7_laySix_c101 sg sx a b c d e)))]) rfl ?_
                          refine z_aload_n dX7_work_263 rfl rfl ?_
                          refine z_iload dX7_work_264 rfl rfl ?_
                          refine z_iload dX7_work_266 rfl rfl ?_
                          refine z_iload_n dX7_work_268 rfl rfl ?_
                          refine z_iload_n dX7_work_269 rfl rfl ?_
                          refine z_iload_n dX7_work_270 rfl rfl ?_
                          refine z_iload dX7_work_271 rfl rfl ?_
                          refine z_iload dX7_work_273 rfl rfl ?_
                          refine z_callVv (c_X7_tells G ex _ code tps pts lns wds brs ors stp hasP fld laid told rws (nI 2) cmT cmS isN trs atto (((nI 1) * ((X7_laySix_c101 sg sx a b c d e) (atto + 1))) * (-1)) a b c d e (by omega) (by omega) (by omega) (by omega) (by omega) rfl) gX7_work_X7_tells rfl dX7_work_275 rfl rfl rfl okk_X7_tells (Nat.le_of_ble_eq_true rfl) rfl rfl ⟨Nat.le_of_ble_eq_true rfl, Nat.le_of_ble_eq_true rfl⟩ ⟨Nat.le_of_ble_eq_true rfl, Nat.le_of_ble_eq_true rfl⟩ (Nat.le_of_ble_eq_true rfl) ?_
                          refine z_nn (L' := [(76, (oMod G code (nI tps) (nI pts) (nI lns) (nI wds) (nI brs) (nI ors) stp hasP fld laid told (nI rws) (nI 2) (nI (X7_tells_p76_14 atto a b c d e)) (X7_tells_p76_15 atto (((nI 1) * ((X7_laySix_c101 sg sx a b c d e) (atto + 1))) * (-1)) a b c d e) isN (nI trs))), (101, (zI G 6 (X7_laySix_c101 sg sx a b c d e)))]) rfl ?_
                          exact z_return dX7_work_278 rfl (Nat.le_refl _) (Nat.le_refl _) (fun _ => rfl) ⟨rfl, by simp only [X7_work_p76_13, X7_work_p76_14, X7_work_p76_15, X7_work_c101, hR25, zlet_e, if_pos c60, hR73, zlet_e, if_neg c139, if_pos c183, if_neg c202, if_pos c207, if_neg c227, if_pos c247]⟩
                    · exact absurd c207 c218
                  · refine z_iload dX7_work_210 rfl rfl ?_
                    refine z_if_le (tgt := 216) dX7_work_212 rfl (by decide) (fun c212 => ?_) (fun c212 => ?_)
                    · refine z_iload dX7_work_216 rfl rfl ?_
                      refine z_if_le (tgt := 225) dX7_work_218 rfl (by decide) (fun c218 => ?_) (fun c218 => ?_)
                      · exact absurd c218 c207
                      · refine z_iconst (v := (-1)) dX7_work_221 rfl (by decide) ?_
                        refine z_goto (tgt := 235) dX7_work_222 (by decide) ?_
                        refine z_istore_11 dX7_work_235 rfl ?_
                        refine z_iload dX7_work_237 rfl rfl ?_
                        refine z_iload dX7_work_239 rfl rfl ?_
                        refine z_imul dX7_work_241 rfl ?_
                        refine z_iload dX7_work_242 rfl rfl ?_
                        refine z_iconst (v := nI 2) dX7_work_244 rfl (by decide) ?_
                        refine z_idiv dX7_work_245 rfl (by decide) ?_
                        refine z_iconst (v := nI 1) dX7_work_246 rfl (by decide) ?_
                        refine z_icmp_ne (tgt := 254) dX7_work_247 rfl (by decide) (fun c247 => ?_) (fun c247 => ?_)
                        · refine z_iconst (v := nI 1) dX7_work_254 rfl (by decide) ?_
                          refine z_imul dX7_work_255 rfl ?_
                          refine z_istore_12 dX7_work_256 rfl ?_
                          refine z_aload_n dX7_work_258 rfl rfl ?_
                          refine z_iconst (v := nI 2) dX7_work_259 rfl (by decide) ?_
                          refine z_putN (e9 := (oMod G code (nI tps) (nI pts) (nI lns) (nI wds) (nI brs) (nI ors) stp hasP fld laid told (nI rws) (nI 2) (nI cmT) cmS isN (nI trs))) tyX7 tyX7_ok nmX7 dX7_work_260 rfl hiX7_work_X7 38 lkX7_work_238 rfl (by decide +kernel) (Nat.le_of_ble_eq_true rfl) rfl rfl (by decide) (Nat.le_of_ble_eq_true rfl) rfl rfl rfl ?_
                          refine z_n (L' := [(76, (oMod G code (nI tps) (nI pts) (nI lns) (nI wds) (nI brs) (nI ors) stp hasP fld laid told (nI rws) (nI 2) (nI cmT) cmS isN (nI trs))), (101, (zI G 6 (X7_laySix_c101 sg sx a b c d e)))]) rfl ?_
                          refine z_aload_n dX7_work_263 rfl rfl ?_
                          refine z_iload dX7_work_264 rfl rfl ?_
                          refine z_iload dX7_work_266 rfl rfl ?_
                          refine z_iload_n dX7_work_268 rfl rfl ?_
                          refine z_iload_n dX7_work_269 rfl rfl ?_
                          refine z_iload_n dX7_work_270 rfl rfl ?_
                          refine z_iload dX7_work_271 rfl rfl ?_
                          refine z_iload dX7_work_273 rfl rfl ?_
                          refine z_callVv (c_X7_tells G ex _ code tps pts lns wds brs ors stp hasP fld laid told rws (nI 2) cmT cmS isN trs atto (((-1) * ((X7_laySix_c101 sg sx a b c d e) (atto + 1))) * (nI 1)) a b c d e (by omega) (by omega) (by omega) (by omega) (by omega) rfl) gX7_work_X7_tells rfl dX7_work_275 rfl rfl rfl okk_X7_tells (Nat.le_of_ble_eq_true rfl) rfl rfl ⟨Nat.le_of_ble_eq_true rfl, Nat.le_of_ble_eq_true rfl⟩ ⟨Nat.le_of_ble_eq_true rfl, Nat.le_of_ble_eq_true rfl⟩ (Nat.le_of_ble_eq_true rfl) ?_
                          refine z_nn (L' := [(76, (oMod G code (nI tps) (nI pts) (nI lns) (nI wds) (nI brs) (nI ors) stp hasP fld laid told (nI rws) (nI 2) (nI (X7_tells_p76_14 atto a b c d e)) (X7_tells_p76_15 atto (((-1) * ((X7_laySix_c101 sg sx a b c d e) (atto + 1))) * (nI 1)) a b c d e) isN (nI trs))), (101, (zI G 6 (X7_laySix_c101 sg sx a b c d e)))]) rfl ?_
                          exact z_return dX7_work_278 rfl (Nat.le_refl _) (Nat.le_refl _) (fun _ => rfl) ⟨rfl, by simp only [X7_work_p76_13, X7_work_p76_14, X7_work_p76_15, X7_work_c101, hR25, zlet_e, if_pos c60, hR73, zlet_e, if_neg c139, if_pos c183, if_neg c202, if_neg c207, if_pos c212, if_neg c247]⟩
                        · refine z_iconst (v := (-1)) dX7_work_250 rfl (by decide) ?_
                          refine z_goto (tgt := 255) dX7_work_251 (by decide) ?_
                          refine z_imul dX7_work_255 rfl ?_
                          refine z_istore_12 dX7_work_256 rfl ?_
                          refine z_aload_n dX7_work_258 rfl rfl ?_
                          refine z_iconst (v := nI 2) dX7_work_259 rfl (by decide) ?_
                          refine z_putN (e9 := (oMod G code (nI tps) (nI pts) (nI lns) (nI wds) (nI brs) (nI ors) stp hasP fld laid told (nI rws) (nI 2) (nI cmT) cmS isN (nI trs))) tyX7 tyX7_ok nmX7 dX7_work_260 rfl hiX7_work_X7 38 lkX7_work_238 rfl (by decide +kernel) (Nat.le_of_ble_eq_true rfl) rfl rfl (by decide) (Nat.le_of_ble_eq_true rfl) rfl rfl rfl ?_
                          refine z_n (L' := [(76, (oMod G code (nI tps) (nI pts) (nI lns) (nI wds) (nI brs) (nI ors) stp hasP fld laid told (nI rws) (nI 2) (nI cmT) cmS isN (nI trs))), (101, (zI G 6 (X7_laySix_c101 sg sx a b c d e)))]) rfl ?_
                          refine z_aload_n dX7_work_263 rfl rfl ?_
                          refine z_iload dX7_work_264 rfl rfl ?_
                          refine z_iload dX7_work_266 rfl rfl ?_
                          refine z_iload_n dX7_work_268 rfl rfl ?_
                          refine z_iload_n dX7_work_269 rfl rfl ?_
                          refine z_iload_n dX7_work_270 rfl rfl ?_
                          refine z_iload dX7_work_271 rfl rfl ?_
                          refine z_iload dX7_work_273 rfl rfl ?_
                          refine z_callVv (c_X7_tells G ex _ code tps pts lns wds brs ors stp hasP fld laid told rws (nI 2) cmT cmS isN trs atto (((-1) * ((X7_laySix_c101 sg sx a b c d e) (atto + 1))) * (-1)) a b c d e (by omega) (by omega) (by omega) (by omega) (by omega) rfl) gX7_work_X7_tells rfl dX7_work_275 rfl rfl rfl okk_X7_tells (Nat.le_of_ble_eq_true rfl) rfl rfl ⟨Nat.le_of_ble_eq_true rfl, Nat.le_of_ble_eq_true rfl⟩ ⟨Nat.le_of_ble_eq_true rfl, Nat.le_of_ble_eq_true rfl⟩ (Nat.le_of_ble_eq_true rfl) ?_
                          refine z_nn (L' := [(76, (oMod G code (nI tps) (nI pts) (nI lns) (nI wds) (nI brs) (nI ors) stp hasP fld laid told (nI rws) (nI 2) (nI (X7_tells_p76_14 atto a b c d e)) (X7_tells_p76_15 atto (((-1) * ((X7_laySix_c101 sg sx a b c d e) (atto + 1))) * (-1)) a b c d e) isN (nI trs))), (101, (zI G 6 (X7_laySix_c101 sg sx a b c d e)))]) rfl ?_
                          exact z_return dX7_work_278 rfl (Nat.le_refl _) (Nat.le_refl _) (fun _ => rfl) ⟨rfl, by simp only [X7_work_p76_13, X7_work_p76_14, X7_work_p76_15, X7_work_c101, hR25, zlet_e, if_pos c60, hR73, zlet_e, if_neg c139, if_pos c183, if_neg c202, if_neg c207, if_pos c212, if_pos c247]⟩
                    · exact z_return dX7_work_215 rfl (Nat.le_refl _) (Nat.le_refl _) (fun _ => rfl) ⟨rfl, by simp only [X7_work_p76_13, X7_work_p76_14, X7_work_p76_15, X7_work_c101, hR25, zlet_e, if_pos c60, hR73, zlet_e, if_neg c139, if_pos c183, if_neg c202, if_neg c207, if_neg c212]⟩
            · refine z_aload_n dX7_work_142 rfl rfl ?_
              refine z_iload dX7_work_143 rfl rfl ?_
              refine z_if_ne (tgt := 152) dX7_work_145 rfl (by decide) (fun c145 => ?_) (fun c145 => ?_)
              · refine z_iconst (v := nI 0) dX7_work_152 rfl (by decide) ?_
                refine z_iload dX7_work_153 rfl rfl ?_
                refine z_if_ne (tgt := 162) dX7_work_155 rfl (by decide) (fun c155 => ?_) (fun c155 => ?_)
                · refine z_iconst (v := nI 0) dX7_work_162 rfl (by decide) ?_
                  refine z_icmp_eq (tgt := 170) dX7_work_163 rfl (by decide) (fun c163 => ?_) (fun c163 => ?_)
                  · refine z_iconst (v := nI 0) dX7_work_170 rfl (by decide) ?_
                    refine z_putN (e9 := (oMod G code (nI tps) (nI pts) (nI lns) (nI wds) (nI brs) (nI ors) stp hasP fld laid told (nI rws) (nI 0) (nI cmT) cmS isN (nI trs))) tyX7 tyX7_ok nmX7 dX7_work_171 rfl hiX7_work_X7 38 lkX7_work_238 rfl (by decide +kernel) (Nat.le_of_ble_eq_true rfl) rfl rfl (by decide) (Nat.le_of_ble_eq_true rfl) rfl rfl rfl ?_
                    refine z_n (L' := [(76, (oMod G code (nI tps) (nI pts) (nI lns) (nI wds) (nI brs) (nI ors) stp hasP fld laid told (nI rws) (nI 0) (nI cmT) cmS isN (nI trs))), (101, (zI G 6 (X7_laySix_c101 sg sx a b c d e)))]) rfl ?_
                    exact z_return dX7_work_174 rfl (Nat.le_refl _) (Nat.le_refl _) (fun _ => rfl) ⟨rfl, by simp only [X7_work_p76_13, X7_work_p76_14, X7_work_p76_15, X7_work_c101, hR25, zlet_e, if_pos c60, hR73, zlet_e, if_pos c139, if_neg c145, if_neg c155]⟩
                  · exact absurd (by decide) c163
                · refine z_iconst (v := nI 1) dX7_work_158 rfl (by decide) ?_
                  refine z_goto (tgt := 163) dX7_work_159 (by decide) ?_
                  refine z_icmp_eq (tgt := 170) dX7_work_163 rfl (by decide) (fun c163 => ?_) (fun c163 => ?_)
                  · exact absurd c163 (by decide)
                  · refine z_iconst (v := nI 1) dX7_work_166 rfl (by decide) ?_
                    refine z_goto (tgt := 171) dX7_work_167 (by decide) ?_
                    refine z_putN (e9 := (oMod G code (nI tps) (nI pts) (nI lns) (nI wds) (nI brs) (nI ors) stp hasP fld laid told (nI rws) (nI 1) (nI cmT) cmS isN (nI trs))) tyX7 tyX7_ok nmX7 dX7_work_171 rfl hiX7_work_X7 38 lkX7_work_238 rfl (by decide +kernel) (Nat.le_of_ble_eq_true rfl) rfl rfl (by decide) (Nat.le_of_ble_eq_true rfl) rfl rfl rfl ?_
                    refine z_n (L' := [(76, (oMod G code (nI tps) (nI pts) (nI lns) (nI wds) (nI brs) (nI ors) stp hasP fld laid told (nI rws) (nI 1) (nI cmT) cmS isN (nI trs))), (101, (zI G 6 (X7_laySix_c101 sg sx a b c d e)))]) rfl ?_
                    exact z_return dX7_work_174 rfl (Nat.le_refl _) (Nat.le_refl _) (fun _ => rfl) ⟨rfl, by simp only [X7_work_p76_13, X7_work_p76_14, X7_work_p76_15, X7_work_c101, hR25, zlet_e, if_pos c60, hR73, zlet_e, if_pos c139, if_neg c145, if_pos c155]⟩
              · refine z_iconst (v := nI 1) dX7_work_148 rfl (by decide) ?_
                refine z_goto (tgt := 153) dX7_work_149 (by decide) ?_
                refine z_iload dX7_work_153 rfl rfl ?_
                refine z_if_ne (tgt := 162) dX7_work_155 rfl (by decide) (fun c155 => ?_) (fun c155 => ?_)
                · refine z_iconst (v := nI 0) dX7_work_162 rfl (by decide) ?_
                  refine z_icmp_eq (tgt := 170) dX7_work_163 rfl (by decide) (fun c163 => ?_) (fun c163 => ?_)
                  · exact absurd c163 (by decide)
                  · refine z_iconst (v := nI 1) dX7_work_166 rfl (by decide) ?_
                    refine z_goto (tgt := 171) dX7_work_167 (by decide) ?_
                    refine z_putN (e9 := (oMod G code (nI tps) (nI pts) (nI lns) (nI wds) (nI brs) (nI ors) stp hasP fld laid told (nI rws) (nI 1) (nI cmT) cmS isN (nI trs))) tyX7 tyX7_ok nmX7 dX7_work_171 rfl hiX7_work_X7 38 lkX7_work_238 rfl (by decide +kernel) (Nat.le_of_ble_eq_true rfl) rfl rfl (by decide) (Nat.le_of_ble_eq_true rfl) rfl rfl rfl ?_
                    refine z_n (L' := [(76, (oMod G code (nI tps) (nI pts) (nI lns) (nI wds) (nI brs) (nI ors) stp hasP fld laid told (nI rws) (nI 1) (nI cmT) cmS isN (nI trs))), (101, (zI G 6 (X7_laySix_c101 sg sx a b c d e)))]) rfl ?_
                    exact z_return dX7_work_174 rfl (Nat.le_refl _) (Nat.le_refl _) (fun _ => rfl) ⟨rfl, by simp only [X7_work_p76_13, X7_work_p76_14, X7_work_p76_15, X7_work_c101, hR25, zlet_e, if_pos c60, hR73, zlet_e, if_pos c139, if_pos c145, if_neg c155]⟩
                · refine z_iconst (v := nI 1) dX7_work_158 rfl (by decide) ?_
                  refine z_goto (tgt := 163) dX7_work_159 (by decide) ?_
                  refine z_icmp_eq (tgt := 170) dX7_work_163 rfl (by decide) (fun c163 => ?_) (fun c163 => ?_)
                  · refine z_iconst (v := nI 0) dX7_work_170 rfl (by decide) ?_
                    refine z_putN (e9 := (oMod G code (nI tps) (nI pts) (nI lns) (nI wds) (nI brs) (nI ors) stp hasP fld laid told (nI rws) (nI 0) (nI cmT) cmS isN (nI trs))) tyX7 tyX7_ok nmX7 dX7_work_171 rfl hiX7_work_X7 38 lkX7_work_238 rfl (by decide +kernel) (Nat.le_of_ble_eq_true rfl) rfl rfl (by decide) (Nat.le_of_ble_eq_true rfl) rfl rfl rfl ?_
                    refine z_n (L' := [(76, (oMod G code (nI tps) (nI pts) (nI lns) (nI wds) (nI brs) (nI ors) stp hasP fld laid told (nI rws) (nI 0) (nI cmT) cmS isN (nI trs))), (101, (zI G 6 (X7_laySix_c101 sg sx a b c d e)))]) rfl ?_
                    exact z_return dX7_work_174 rfl (Nat.le_refl _) (Nat.le_refl _) (fun _ => rfl) ⟨rfl, by simp only [X7_work_p76_13, X7_work_p76_14, X7_work_p76_15, X7_work_c101, hR25, zlet_e, if_pos c60, hR73, zlet_e, if_pos c139, if_pos c145, if_pos c155]⟩
                  · exact absurd (by decide) c163
          · exact absurd (nI_le (Nat.le_refl _) (by omega)) c76
      · exact z_return dX7_work_63 rfl (Nat.le_refl _) (Nat.le_refl _) (fun _ => rfl) ⟨rfl, by simp only [X7_work_p76_13, X7_work_p76_14, X7_work_p76_15, X7_work_c101, hR25, zlet_e, if_neg c60]⟩
    · exact absurd (nI_le (Nat.le_refl _) (by omega)) c29
abbrev mX7_goes : zM := (cX7_goes, 7, (some .boolean), RX7, wsX7_goes, "goes")
theorem hiX7_goes_X7 : ∀ w ∈ wsX70, w ∈ wsX7_goes := fun w h => List.mem_cons_of_mem _ (List.mem_append_right _ h)
theorem lkX7_goes_52 : Cond.fieldLink RX7 52 "ConfigSearchModel" "spot" "[I" ∈ wsX7_goes := by decide +kernel
theorem okk_X7_isRight : zOk yX7_isRight 7 := by unfold zOk; decide +kernel
def X7_goes_L41_F (fs : Nat → Int32) (sc : Nat → Int32) (th : Nat → Int32) (wn : Nat → Int32) (spo : Nat → Int32) (f : Int32) (pt : Nat) (pl : Nat) (a : Nat) (b : Nat) (a9 : (Int32)) : (Int32) := if a9 = 0 then a9 else (X7_isRight_v fs sc th wn f a b pt ((spo a).toNatClampNeg) ((spo b).toNatClampNeg) pl)
def X7_goes_L41_B (b : Nat) (a9 : (Int32)) : Option ((Int32)) := if a9 = 0 then (some a9) else none
def X7_goes_L41v2_F (fs : Nat → Int32) (sc : Nat → Int32) (th : Nat → Int32) (wn : Nat → Int32) (spo : Nat → Int32) (f : Int32) (pt : Nat) (pl : Nat) (a : Nat) (b : Nat) (a9 : (Int32)) : (Int32) := if a9 = 0 then a9 else (X7_isRight_v fs sc th wn f a b pt ((spo a).toNatClampNeg) ((spo b).toNatClampNeg) pl)
def X7_goes_L41v2_B (b : Nat) (a9 : (Int32)) : Option ((Int32)) := if a9 = 0 then (some a9) else none
def X7_goes_L6_F (fs : Nat → Int32) (sc : Nat → Int32) (th : Nat → Int32) (wn : Nat → Int32) (spo : Nat → Int32) (f : Int32) (pt : Nat) (pl : Nat) (a : Nat) (a9 : (Int32)) : (Int32) := if a9 = 0 then a9 else (if (spo a) = (nI pl) then ((zfoldX (X7_goes_L41_B) (X7_goes_L41_F fs sc th wn spo f pt pl a) (pt - (a + 1)) (a + 1) (nI 0)).2) else ((zfoldX (X7_goes_L41v2_B) (X7_goes_L41v2_F fs sc th wn spo f pt pl a) (pt - (a + 1)) (a + 1) (nI 1)).2))
def X7_goes_L6_B (spo : Nat → Int32) (pl : Nat) (a : Nat) (a9 : (Int32)) : Option ((Int32)) := if a9 = 0 then (some a9) else (if (spo a) = (nI pl) then none else none)
def X7_goes_v (fs sc th wn spo : Nat → Int32) (f : Int32) (pt pl : Nat) : Int32 := (zfoldX (X7_goes_L6_B spo pl) (X7_goes_L6_F fs sc th wn spo f pt pl) pt 0 (nI 1)).2
set_option maxRecDepth 100000 in
set_option maxHeartbeats 4000000 in
theorem c_X7_goes (G : zG) (ex : Bool) (g : Nat → va_E) (code : Int32) (tps pts lns wds brs ors : Nat) (stp hasP fld laid told : Int32) (rws : Nat) (cms : Int32) (cmT : Nat) (cmS isN : Int32) (trs : Nat) (fs sc th wn spo : Nat → Int32) (f : Int32) (pt pl : Nat) (hpt : pt < 10) (hpl : pl < 183) (hsp : ∀ j, j < pt → vp_in (spo j) 183) (h76 : g 76 = (oMod G code (nI tps) (nI pts) (nI lns) (nI wds) (nI brs) (nI ors) stp hasP fld laid told (nI rws) cms (nI cmT) cmS isN (nI trs))) (h92 : g 92 = (zI G 183 fs)) (h93 : g 93 = (zI G 183 sc)) (h94 : g 94 = (zI G 183 th)) (h95 : g 95 = (zI G 1000 wn)) (h91 : g 91 = (zI G 10 spo)) : zC G yX7_goes wsX7_goes (zrm 2 54) ex [.ref (zB G + 76), .int f, .int (nI pt), .int (nI pl)] (zN, g) (fun r h => r = some (.int (X7_goes_v fs sc th wn spo f pt pl)) ∧ h = (zN, g)) := by
  refine zC_of mX7_goes (lv := [some (.ref (zB G + 76)), some (.int f), some (.int (nI pt)), some (.int (nI pl)), none, none, none]) rfl rfl (by decide) (by intro v hv; simp at hv; rcases hv with rfl | rfl | rfl | rfl <;> rfl) (Nat.le_of_ble_eq_true rfl) rfl ?_
  refine z_0 ?_
  refine z_iconst (v := nI 1) dX7_goes_0 rfl (by decide) ?_
  refine z_istore_4 dX7_goes_1 rfl ?_
  refine z_iconst (v := nI 0) dX7_goes_3 rfl (by decide) ?_
  refine z_istore_5 dX7_goes_4 rfl ?_
  refine z_forX (head := fun a (st9 : (Int32)) => ∀ y6 : Option Value, Z G mX7_goes (zrm 2 54) ex _ 6 [some (.ref (zB G + 76)), some (.int f), some (.int (nI pt)), some (.int (nI pl)), some (.int st9), some (.int (nI a)), y6] [] (zN, zus g []) 0 0) (out := fun a (st9 : (Int32)) => ∀ y6 : Option Value, Z G mX7_goes (zrm 2 54) ex (fun r h => r = some (.int (X7_goes_v fs sc th wn spo f pt pl)) ∧ h = (zN, g)) 91 [some (.ref (zB G + 76)), some (.int f), some (.int (nI pt)), some (.int (nI pl)), some (.int st9), some (.int (nI a)), y6] [] (zN, zus g []) 0 0) (B := (X7_goes_L6_B spo pl)) (F := (X7_goes_L6_F fs sc th wn spo f pt pl)) (n := pt) (fun _ a => a = nI 0 ∨ a = nI 1) (fun _ a => a = nI 0 ∨ a = nI 1) (fun i a hi h _ => by
        unfold X7_goes_L6_F
        repeat' split
        all_goals first | exact h | exact Or.inl rfl | exact Or.inr rfl | (refine zfoldX_P (fun a => a = nI 0 ∨ a = nI 1) (fun i a h => ?_) (fun i a b h hB => ?_) _ _ _ (by first | exact Or.inl rfl | exact Or.inr rfl))
        · unfold X7_goes_L41_F; split; exact h; exact isRight01
        · unfold X7_goes_L41_B at hB; split at hB <;> cases hB; exact h
        · unfold X7_goes_L41v2_F; split; exact h; exact isRight01
        · unfold X7_goes_L41v2_B at hB; split at hB <;> cases hB; exact h) (fun i a b hi h hB => by
        unfold X7_goes_L6_B at hB
        repeat' split at hB
        all_goals (cases hB <;> first | exact h | exact Or.inl rfl | exact Or.inr rfl)) (fun _ h => h) ?_ ?_ pt 0 (nI 1) (by omega) (by first | exact Or.inl rfl | exact Or.inr rfl) ?_ _
  · intro a can1 hi hI Ko K
    intro y6
    have ha : a < pt := hi
    refine z_iload dX7_goes_6 rfl rfl ?_
    refine z_iload_n dX7_goes_8 rfl rfl ?_
    refine z_icmp_ge (tgt := 91) dX7_goes_9 rfl (by decide) (fun c9 => ?_) (fun c9 => ?_)
    · exact absurd c9 (nI_ge hi (by omega))
    · refine z_iload dX7_goes_12 rfl rfl ?_
      refine z_if_eq (tgt := 91) dX7_goes_14 rfl (by decide) (fun c14 => ?_) (fun c14 => ?_)
      · exact Ko can1 (by simp only [X7_goes_L6_B, if_pos c14]) _
      · refine z_aload_n dX7_goes_17 rfl rfl ?_
        refine z_get dX7_goes_18 rfl hiX7_goes_X7 24 lkX7_goes_52 (Nat.le_of_ble_eq_true rfl) h76 rfl (by decide) rfl ?_
        refine z_iload dX7_goes_21 rfl rfl ?_
        refine z_ialdN (j := a) dX7_goes_23 rfl (Nat.le_of_ble_eq_true rfl) h91 (rfl) (by omega) (by decide) ?_
        refine z_iload_n dX7_goes_24 rfl rfl ?_
        refine z_icmp_eq (tgt := 32) dX7_goes_25 rfl (by decide) (fun c25 => ?_) (fun c25 => ?_)
        · refine z_iconst (v := nI 0) dX7_goes_32 rfl (by decide) ?_
          refine z_istore_4 dX7_goes_33 rfl ?_
          refine z_iload dX7_goes_35 rfl rfl ?_
          refine z_iconst (v := nI 1) dX7_goes_37 rfl (by decide) ?_
          refine z_iadd dX7_goes_38 rfl ?_
          refine z_top (show (nI a) + (nI 1) = nI (a + 1) from (zq_add rfl rfl)) ?_
          refine z_istore_6 dX7_goes_39 rfl ?_
          refine z_forX (head := fun b (st9 : (Int32)) => Z G mX7_goes (zrm 2 54) ex _ 41 [some (.ref (zB G + 76)), some (.int f), some (.int (nI pt)), some (.int (nI pl)), some (.int st9), some (.int (nI a)), some (.int (nI b))] [] (zN, zus g []) 0 0) (out := fun b (st9 : (Int32)) => Z G mX7_goes (zrm 2 54) ex (fun r h => r = some (.int (X7_goes_v fs sc th wn spo f pt pl)) ∧ h = (zN, g)) 85 [some (.ref (zB G + 76)), some (.int f), some (.int (nI pt)), some (.int (nI pl)), some (.int st9), some (.int (nI a)), some (.int (nI b))] [] (zN, zus g []) 0 0) (B := (X7_goes_L41_B)) (F := (X7_goes_L41_F fs sc th wn spo f pt pl a)) (n := pt) (fun _ a => a = nI 0 ∨ a = nI 1) (fun _ a => a = nI 0 ∨ a = nI 1) (fun i a hi h _ => by
                unfold X7_goes_L41_F
                split
                · exact h
                · exact isRight01) (fun i a b hi h hB => by
                unfold X7_goes_L41_B at hB
                repeat' split at hB
                all_goals (cases hB <;> first | exact h | exact Or.inl rfl | exact Or.inr rfl)) (fun _ h => h) ?_ ?_ (pt - (a + 1)) (a + 1) (nI 0) (by omega) (by first | exact Or.inl rfl | exact Or.inr rfl) ?_
          · intro b can2 hi hI Ko K
            have hb9 : b < pt := hi
            refine z_iload dX7_goes_41 rfl rfl ?_
            refine z_iload_n dX7_goes_43 rfl rfl ?_
            refine z_icmp_ge (tgt := 85) dX7_goes_44 rfl (by decide) (fun c44 => ?_) (fun c44 => ?_)
            · exact absurd c44 (nI_ge hi (by omega))
            · refine z_iload dX7_goes_47 rfl rfl ?_
              refine z_if_eq (tgt := 85) dX7_goes_49 rfl (by decide) (fun c49 => ?_) (fun c49 => ?_)
              · exact Ko can2 (by simp only [X7_goes_L41_B, if_pos c49])
              · refine z_aload_n dX7_goes_52 rfl rfl ?_
                refine z_iload_n dX7_goes_53 rfl rfl ?_
                refine z_iload dX7_goes_54 rfl rfl ?_
                refine z_iload dX7_goes_56 rfl rfl ?_
                refine z_iload_n dX7_goes_58 rfl rfl ?_
                refine z_aload_n dX7_goes_59 rfl rfl ?_
                refine z_get dX7_goes_60 rfl hiX7_goes_X7 24 lkX7_goes_52 (Nat.le_of_ble_eq_true rfl) h76 rfl (by decide) rfl ?_
                refine z_iload dX7_goes_63 rfl rfl ?_
                refine z_ialdN (j := a) dX7_goes_65 rfl (Nat.le_of_ble_eq_true rfl) h91 (rfl) (by omega) (by decide) ?_
                refine z_top (show spo a = nI ((spo a).toNatClampNeg) from zvin (hsp _ (by omega))) ?_
                refine z_aload_n dX7_goes_66 rfl rfl ?_
                refine z_get dX7_goes_67 rfl hiX7_goes_X7 24 lkX7_goes_52 (Nat.le_of_ble_eq_true rfl) h76 rfl (by decide) rfl ?_
                refine z_iload dX7_goes_70 rfl rfl ?_
                refine z_ialdN (j := b) dX7_goes_72 rfl (Nat.le_of_ble_eq_true rfl) h91 (rfl) (by omega) (by decide) ?_
                refine z_top (show spo b = nI ((spo b).toNatClampNeg) from zvin (hsp _ (by omega))) ?_
                refine z_iload_n dX7_goes_73 rfl rfl ?_
                refine z_callVi (c_X7_isRight G ex _ code tps pts lns wds brs ors stp hasP fld laid told rws cms cmT cmS isN trs fs sc th wn f a b pt ((spo a).toNatClampNeg) ((spo b).toNatClampNeg) pl (by omega) (by omega) (by omega) (zvlt (hsp _ (by omega))) (zvlt (hsp _ (by omega))) (by omega) h76 h92 h93 h94 h95) gX7_goes_X7_isRight rfl dX7_goes_74 rfl rfl rfl okk_X7_isRight (Nat.le_of_ble_eq_true rfl) h76 rfl ⟨Nat.le_of_ble_eq_true rfl, Nat.le_of_ble_eq_true rfl⟩ ⟨Nat.le_of_ble_eq_true rfl, Nat.le_of_ble_eq_true rfl⟩ (Nat.le_of_ble_eq_true rfl) ?_
                refine z_istore_4 dX7_goes_77 rfl ?_
                refine z_iinc_6 (v := nI (b + 1)) dX7_goes_79 rfl (zinc _) ?_
                refine z_goto (tgt := 41) dX7_goes_82 (by decide) ?_
                have K9 := (K (by simp only [X7_goes_L41_B, if_neg c49]))
                try simp only [X7_goes_L41_F, if_neg c49] at K9
                exact K9
          · intro can2 hI K
            refine z_iload dX7_goes_41 rfl rfl ?_
            refine z_iload_n dX7_goes_43 rfl rfl ?_
            refine z_icmp_ge (tgt := 85) dX7_goes_44 rfl (by decide) (fun c44 => ?_) (fun c44 => ?_)
            · exact K
            · exact absurd (nI_le (Nat.le_refl _) (by omega)) c44
          · intro hJ41 hle41
            refine z_iinc_5 (v := nI (a + 1)) dX7_goes_85 rfl (zinc _) ?_
            refine z_goto (tgt := 6) dX7_goes_88 (by decide) ?_
            have K9 := (K (by simp only [X7_goes_L6_B, if_neg c14, if_pos c25]))
            try simp only [X7_goes_L6_F, if_neg c14, if_pos c25] at K9
            exact K9 _
        · refine z_iconst (v := nI 1) dX7_goes_28 rfl (by decide) ?_
          refine z_goto (tgt := 33) dX7_goes_29 (by decide) ?_
          refine z_istore_4 dX7_goes_33 rfl ?_
          refine z_iload dX7_goes_35 rfl rfl ?_
          refine z_iconst (v := nI 1) dX7_goes_37 rfl (by decide) ?_
          refine z_iadd dX7_goes_38 rfl ?_
          refine z_top (show (nI a) + (nI 1) = nI (a + 1) from (zq_add rfl rfl)) ?_
          refine z_istore_6 dX7_goes_39 rfl ?_
          refine z_forX (head := fun b (st9 : (Int32)) => Z G mX7_goes (zrm 2 54) ex _ 41 [some (.ref (zB G + 76)), some (.int f), some (.int (nI pt)), some (.int (nI pl)), some (.int st9), some (.int (nI a)), some (.int (nI b))] [] (zN, zus g []) 0 0) (out := fun b (st9 : (Int32)) => Z G mX7_goes (zrm 2 54) ex (fun r h => r = some (.int (X7_goes_v fs sc th wn spo f pt pl)) ∧ h = (zN, g)) 85 [some (.ref (zB G + 76)), some (.int f), some (.int (nI pt)), some (.int (nI pl)), some (.int st9), some (.int (nI a)), some (.int (nI b))] [] (zN, zus g []) 0 0) (B := (X7_goes_L41v2_B)) (F := (X7_goes_L41v2_F fs sc th wn spo f pt pl a)) (n := pt) (fun _ a => a = nI 0 ∨ a = nI 1) (fun _ a => a = nI 0 ∨ a = nI 1) (fun i a hi h _ => by
                unfold X7_goes_L41v2_F
                split
                · exact h
                · exact isRight01) (fun i a b hi h hB => by
                unfold X7_goes_L41v2_B at hB
                repeat' split at hB
                all_goals (cases hB <;> first | exact h | exact Or.inl rfl | exact Or.inr rfl)) (fun _ h => h) ?_ ?_ (pt - (a + 1)) (a + 1) (nI 1) (by omega) (by first | exact Or.inl rfl | exact Or.inr rfl) ?_
          · intro b can2 hi hI Ko K
            have hb9 : b < pt := hi
            refine z_iload dX7_goes_41 rfl rfl ?_
            refine z_iload_n dX7_goes_43 rfl rfl ?_
            refine z_icmp_ge (tgt := 85) dX7_goes_44 rfl (by decide) (fun c44 => ?_) (fun c44 => ?_)
            · exact absurd c44 (nI_ge hi (by omega))
            · refine z_iload dX7_goes_47 rfl rfl ?_
              refine z_if_eq (tgt := 85) dX7_goes_49 rfl (by decide) (fun c49 => ?_) (fun c49 => ?_)
              · exact Ko can2 (by simp only [X7_goes_L41v2_B, if_pos c49])
              · refine z_aload_n dX7_goes_52 rfl rfl ?_
                refine z_iload_n dX7_goes_53 rfl rfl ?_
                refine z_iload dX7_goes_54 rfl rfl ?_
                refine z_iload dX7_goes_56 rfl rfl ?_
                refine z_iload_n dX7_goes_58 rfl rfl ?_
                refine z_aload_n dX7_goes_59 rfl rfl ?_
                refine z_get dX7_goes_60 rfl hiX7_goes_X7 24 lkX7_goes_52 (Nat.le_of_ble_eq_true rfl) h76 rfl (by decide) rfl ?_
                refine z_iload dX7_goes_63 rfl rfl ?_
                refine z_ialdN (j := a) dX7_goes_65 rfl (Nat.le_of_ble_eq_true rfl) h91 (rfl) (by omega) (by decide) ?_
                refine z_top (show spo a = nI ((spo a).toNatClampNeg) from zvin (hsp _ (by omega))) ?_
                refine z_aload_n dX7_goes_66 rfl rfl ?_
                refine z_get dX7_goes_67 rfl hiX7_goes_X7 24 lkX7_goes_52 (Nat.le_of_ble_eq_true rfl) h76 rfl (by decide) rfl ?_
                refine z_iload dX7_goes_70 rfl rfl ?_
                refine z_ialdN (j := b) dX7_goes_72 rfl (Nat.le_of_ble_eq_true rfl) h91 (rfl) (by omega) (by decide) ?_
                refine z_top (show spo b = nI ((spo b).toNatClampNeg) from zvin (hsp _ (by omega))) ?_
                refine z_iload_n dX7_goes_73 rfl rfl ?_
                refine z_callVi (c_X7_isRight G ex _ code tps pts lns wds brs ors stp hasP fld laid told rws cms cmT cmS isN trs fs sc th wn f a b pt ((spo a).toNatClampNeg) ((spo b).toNatClampNeg) pl (by omega) (by omega) (by omega) (zvlt (hsp _ (by omega))) (zvlt (hsp _ (by omega))) (by omega) h76 h92 h93 h94 h95) gX7_goes_X7_isRight rfl dX7_goes_74 rfl rfl rfl okk_X7_isRight (Nat.le_of_ble_eq_true rfl) h76 rfl ⟨Nat.le_of_ble_eq_true rfl, Nat.le_of_ble_eq_true rfl⟩ ⟨Nat.le_of_ble_eq_true rfl, Nat.le_of_ble_eq_true rfl⟩ (Nat.le_of_ble_eq_true rfl) ?_
                refine z_istore_4 dX7_goes_77 rfl ?_
                refine z_iinc_6 (v := nI (b + 1)) dX7_goes_79 rfl (zinc _) ?_
                refine z_goto (tgt := 41) dX7_goes_82 (by decide) ?_
                have K9 := (K (by simp only [X7_goes_L41v2_B, if_neg c49]))
                try simp only [X7_goes_L41v2_F, if_neg c49] at K9
                exact K9
          · intro can2 hI K
            refine z_iload dX7_goes_41 rfl rfl ?_
            refine z_iload_n dX7_goes_43 rfl rfl ?_
            refine z_icmp_ge (tgt := 85) dX7_goes_44 rfl (by decide) (fun c44 => ?_) (fun c44 => ?_)
            · exact K
            · exact absurd (nI_le (Nat.le_refl _) (by omega)) c44
          · intro hJ41 hle41
            refine z_iinc_5 (v := nI (a + 1)) dX7_goes_85 rfl (zinc _) ?_
            refine z_goto (tgt := 6) dX7_goes_88 (by decide) ?_
            have K9 := (K (by simp only [X7_goes_L6_B, if_neg c14, if_neg c25]))
            try simp only [X7_goes_L6_F, if_neg c14, if_neg c25] at K9
            exact K9 _
  · intro can1 hI K y6
    refine z_iload dX7_goes_6 rfl rfl ?_
    refine z_iload_n dX7_goes_8 rfl rfl ?_
    refine z_icmp_ge (tgt := 91) dX7_goes_9 rfl (by decide) (fun c9 => ?_) (fun c9 => ?_)
    · exact K _
    · exact absurd (nI_le (Nat.le_refl _) (by omega)) c9
  · intro hJ6 hle6 y6
    refine z_iload dX7_goes_91 rfl rfl ?_
    exact z_ireturn dX7_goes_93 rfl (zb01 hJ6) (Nat.le_refl _) (Nat.le_refl _) (fun _ => rfl) ⟨by simp only [X7_goes_v], rfl⟩
abbrev mX7_makeRow : zM := (cX7_makeRow, 6, none, RX7, wsX7_makeRow, "makeRow")
theorem hiX7_makeRow_X7 : ∀ w ∈ wsX70, w ∈ wsX7_makeRow := fun w h => List.mem_cons_of_mem _ (List.mem_append_right _ h)
theorem lkX7_makeRow_74 : Cond.fieldLink RX7 74 "ConfigSearchModel" "rowKind" "[I" ∈ wsX7_makeRow := by decide +kernel
theorem lkX7_makeRow_155 : Cond.fieldLink RX7 155 "ConfigSearchModel" "rows" "I" ∈ wsX7_makeRow := by decide +kernel
theorem okk_X7_kindThen : zOk yX7_kindThen 0 := by unfold zOk; decide +kernel
theorem lkX7_makeRow_77 : Cond.fieldLink RX7 77 "ConfigSearchModel" "rowFive" "[I" ∈ wsX7_makeRow := by decide +kernel
theorem lkX7_makeRow_80 : Cond.fieldLink RX7 80 "ConfigSearchModel" "rowTriple" "[I" ∈ wsX7_makeRow := by decide +kernel
theorem lkX7_makeRow_238 : Cond.fieldLink RX7 238 "ConfigSearchModel" "comes" "I" ∈ wsX7_makeRow := by decide +kernel
theorem lkX7_makeRow_252 : Cond.fieldLink RX7 252 "ConfigSearchModel" "comesTriple" "I" ∈ wsX7_makeRow := by decide +kernel
theorem lkX7_makeRow_83 : Cond.fieldLink RX7 83 "ConfigSearchModel" "rowSign" "[I" ∈ wsX7_makeRow := by decide +kernel
theorem lkX7_makeRow_255 : Cond.fieldLink RX7 255 "ConfigSearchModel" "comesSign" "I" ∈ wsX7_makeRow := by decide +kernel
def X7_makeRow_p76_12 (rws : Nat) (cms : Int32) : Nat := if cms = (nI 1) then (rws + 1) else (rws + 1)
def X7_makeRow_c96 (brs : Nat) (rws : Nat) (cms : Int32) (cmT : Nat) (cmS : Int32) (bm sg rk rt rs : Nat → Int32) : Nat → Int32 := if cms = (nI 1) then (X7_layRow_c96 sg (upd rk rws (nI (X7_kindThen_n brs cms cmT cmS bm))) (upd rt rws (-4)) (upd rs rws (nI 0)) rws) else (X7_layRow_c96 sg (upd rk rws (nI (X7_kindThen_n brs cms cmT cmS bm))) (upd rt rws (nI cmT)) (upd rs rws cmS) rws)
def X7_makeRow_c97 (brs : Nat) (rws : Nat) (cms : Int32) (cmT : Nat) (cmS : Int32) (bm rk : Nat → Int32) : Nat → Int32 := if cms = (nI 1) then (upd rk rws (nI (X7_kindThen_n brs cms cmT cmS bm))) else (upd rk rws (nI (X7_kindThen_n brs cms cmT cmS bm)))
def X7_makeRow_c98 (rws : Nat) (cms : Int32) (rf : Nat → Int32) (a b c d e : Nat) : Nat → Int32 := if cms = (nI 1) then (upd (upd (upd (upd (upd rf (5 * rws) (nI a)) ((5 * rws) + 1) (nI b)) ((5 * rws) + 2) (nI c)) ((5 * rws) + 3) (nI d)) ((5 * rws) + 4) (nI e)) else (upd (upd (upd (upd (upd rf (5 * rws) (nI a)) ((5 * rws) + 1) (nI b)) ((5 * rws) + 2) (nI c)) ((5 * rws) + 3) (nI d)) ((5 * rws) + 4) (nI e))
def X7_makeRow_c99 (rws : Nat) (cms : Int32) (cmT : Nat) (rt : Nat → Int32) : Nat → Int32 := if cms = (nI 1) then (upd rt rws (-4)) else (upd rt rws (nI cmT))
def X7_makeRow_c100 (rws : Nat) (cms : Int32) (cmS : Int32) (rs : Nat → Int32) : Nat → Int32 := if cms = (nI 1) then (upd rs rws (nI 0)) else (upd rs rws cmS)
set_option maxRecDepth 100000 in
set_option maxHeartbeats 4000000 in
theorem c_X7_makeRow (G : zG) (ex : Bool) (g : Nat → va_E) (code : Int32) (tps pts lns wds brs ors : Nat) (stp hasP fld laid told : Int32) (rws : Nat) (cms : Int32) (cmT : Nat) (cmS isN : Int32) (trs : Nat) (bm sg rk rt rs rf : Nat → Int32) (a b c d e : Nat) (hb9 : brs ≤ 20) (hw : rws < 60) (hcm : cmT < 1000) (h76 : g 76 = (oMod G code (nI tps) (nI pts) (nI lns) (nI wds) (nI brs) (nI ors) stp hasP fld laid told (nI rws) cms (nI cmT) cmS isN (nI trs))) (h86 : g 86 = (zI G 20 bm)) (h96 : g 96 = (zI G 1000 sg)) (h97 : g 97 = (zI G 60 rk)) (h99 : g 99 = (zI G 60 rt)) (h100 : g 100 = (zI G 60 rs)) (h98 : g 98 = (zI G 300 rf)) : zC G yX7_makeRow wsX7_makeRow (zrm 3 62) ex [.ref (zB G + 76), .int (nI a), .int (nI b), .int (nI c), .int (nI d), .int (nI e)] (zN, g) (fun r h => r = none ∧ h = (zN, zus g [(76, (oMod G code (nI tps) (nI pts) (nI lns) (nI wds) (nI brs) (nI ors) stp hasP fld laid told (nI (X7_makeRow_p76_12 rws cms)) cms (nI cmT) cmS isN (nI trs))), (96, zI G 1000 (X7_makeRow_c96 brs rws cms cmT cmS bm sg rk rt rs)), (97, zI G 60 (X7_makeRow_c97 brs rws cms cmT cmS bm rk)), (98, zI G 300 (X7_makeRow_c98 rws cms rf a b c d e)), (99, zI G 60 (X7_makeRow_c99 rws cms cmT rt)), (100, zI G 60 (X7_makeRow_c100 rws cms cmS rs))])) := by
  refine zC_of mX7_makeRow (lv := [some (.ref (zB G + 76)), some (.int (nI a)), some (.int (nI b)), some (.int (nI c)), some (.int (nI d)), some (.int (nI e))]) rfl rfl (by decide) (by intro v hv; simp at hv; rcases hv with rfl | rfl | rfl | rfl | rfl | rfl <;> rfl) (Nat.le_of_ble_eq_true rfl) rfl ?_
  refine z_0 ?_
  refine z_heap (g' := zu (zus g []) 76 (oMod G code (nI tps) (nI pts) (nI lns) (nI wds) (nI brs) (nI ors) stp hasP fld laid told (nI rws) cms (nI cmT) cmS isN (nI trs))) (zu_self (zus g []) 76 _ h76).symm ?_
  refine z_n (L' := [(76, (oMod G code (nI tps) (nI pts) (nI lns) (nI wds) (nI brs) (nI ors) stp hasP fld laid told (nI rws) cms (nI cmT) cmS isN (nI trs)))]) rfl ?_
  refine z_heap (g' := zu (zus g [(76, (oMod G code (nI tps) (nI pts) (nI lns) (nI wds) (nI brs) (nI ors) stp hasP fld laid told (nI rws) cms (nI cmT) cmS isN (nI trs)))]) 96 (zI G 1000 sg)) (zu_self (zus g [(76, (oMod G code (nI tps) (nI pts) (nI lns) (nI wds) (nI brs) (nI ors) stp hasP fld laid told (nI rws) cms (nI cmT) cmS isN (nI trs)))]) 96 _ h96).symm ?_
  refine z_n (L' := [(76, (oMod G code (nI tps) (nI pts) (nI lns) (nI wds) (nI brs) (nI ors) stp hasP fld laid told (nI rws) cms (nI cmT) cmS isN (nI trs))), (96, (zI G 1000 sg))]) rfl ?_
  refine z_heap (g' := zu (zus g [(76, (oMod G code (nI tps) (nI pts) (nI lns) (nI wds) (nI brs) (nI ors) stp hasP fld laid told (nI rws) cms (nI cmT) cmS isN (nI trs))), (96, (zI G 1000 sg))]) 97 (zI G 60 rk)) (zu_self (zus g [(76, (oMod G code (nI tps) (nI pts) (nI lns) (nI wds) (nI brs) (nI ors) stp hasP fld laid told (nI rws) cms (nI cmT) cmS isN (nI trs))), (96, (zI G 1000 sg))]) 97 _ h97).symm ?_
  refine z_n (L' := [(76, (oMod G code (nI tps) (nI pts) (nI lns) (nI wds) (nI brs) (nI ors) stp hasP fld laid told (nI rws) cms (nI cmT) cmS isN (nI trs))), (96, (zI G 1000 sg)), (97, (zI G 60 rk))]) rfl ?_
  refine z_heap (g' := zu (zus g [(76, (oMod G code (nI tps) (nI pts) (nI lns) (nI wds) (nI brs) (nI ors) stp hasP fld laid told (nI rws) cms (nI cmT) cmS isN (nI trs))), (96, (zI G 1000 sg)), (97, (zI G 60 rk))]) 98 (zI G 300 rf)) (zu_self (zus g [(76, (oMod G code (nI tps) (nI pts) (nI lns) (nI wds) (nI brs) (nI ors) stp hasP fld laid told (nI rws) cms (nI cmT) cmS isN (nI trs))), (96, (zI G 1000 sg)), (97, (zI G 60 rk))]) 98 _ h98).symm ?_
  refine z_n (L' := [(76, (oMod G code (nI tps) (nI pts) (nI lns) (nI wds) (nI brs) (nI ors) stp hasP fld laid told (nI rws) cms (nI cmT) cmS isN (nI trs))), (96, (zI G 1000 sg)), (97, (zI G 60 rk)), (98, (zI G 300 rf))]) rfl ?_
  refine z_heap (g' := zu (zus g [(76, (oMod G code (nI tps) (nI pts) (nI lns) (nI wds) (nI brs) (nI ors) stp hasP fld laid told (nI rws) cms (nI cmT) cmS isN (nI trs))), (96, (zI G 1000 sg)), (97, (zI G 60 rk)), (98, (zI G 300 rf))]) 99 (zI G 60 rt)) (zu_self (zus g [(76, (oMod G code (nI tps) (nI pts) (nI lns) (nI wds) (nI brs) (nI ors) stp hasP fld laid told (nI rws) cms (nI cmT) cmS isN (nI trs))), (96, (zI G 1000 sg)), (97, (zI G 60 rk)), (98, (zI G 300 rf))]) 99 _ h99).symm ?_
  refine z_n (L' := [(76, (oMod G code (nI tps) (nI pts) (nI lns) (nI wds) (nI brs) (nI ors) stp hasP fld laid told (nI rws) cms (nI cmT) cmS isN (nI trs))), (96, (zI G 1000 sg)), (97, (zI G 60 rk)), (98, (zI G 300 rf)), (99, (zI G 60 rt))]) rfl ?_
  refine z_heap (g' := zu (zus g [(76, (oMod G code (nI tps) (nI pts) (nI lns) (nI wds) (nI brs) (nI ors) stp hasP fld laid told (nI rws) cms (nI cmT) cmS isN (nI trs))), (96, (zI G 1000 sg)), (97, (zI G 60 rk)), (98, (zI G 300 rf)), (99, (zI G 60 rt))]) 100 (zI G 60 rs)) (zu_self (zus g [(76, (oMod G code (nI tps) (nI pts) (nI lns) (nI wds) (nI brs) (nI ors) stp hasP fld laid told (nI rws) cms (nI cmT) cmS isN (nI trs))), (96, (zI G 1000 sg)), (97, (zI G 60 rk)), (98, (zI G 300 rf)), (99, (zI G 60 rt))]) 100 _ h100).symm ?_
  refine z_n (L' := [(76, (oMod G code (nI tps) (nI pts) (nI lns) (nI wds) (nI brs) (nI ors) stp hasP fld laid told (nI rws) cms (nI cmT) cmS isN (nI trs))), (96, (zI G 1000 sg)), (97, (zI G 60 rk)), (98, (zI G 300 rf)), (99, (zI G 60 rt)), (100, (zI G 60 rs))]) rfl ?_
  refine z_aload_n dX7_makeRow_0 rfl rfl ?_
  refine z_get dX7_makeRow_1 rfl hiX7_makeRow_X7 33 lkX7_makeRow_74 (Nat.le_of_ble_eq_true rfl) rfl rfl (by decide) rfl ?_
  refine z_aload_n dX7_makeRow_4 rfl rfl ?_
  refine z_get dX7_makeRow_5 rfl hiX7_makeRow_X7 32 lkX7_makeRow_155 (Nat.le_of_ble_eq_true rfl) rfl rfl (by decide) rfl ?_
  refine z_aload_n dX7_makeRow_8 rfl rfl ?_
  refine z_callVi (c_X7_kindThen G ex _ code tps pts lns wds brs ors stp hasP fld laid told rws cms cmT cmS isN trs bm (by omega) rfl h86) gX7_makeRow_X7_kindThen rfl dX7_makeRow_9 rfl rfl rfl okk_X7_kindThen (Nat.le_of_ble_eq_true rfl) rfl rfl ⟨Nat.le_of_ble_eq_true rfl, Nat.le_of_ble_eq_true rfl⟩ ⟨Nat.le_of_ble_eq_true rfl, Nat.le_of_ble_eq_true rfl⟩ (Nat.le_of_ble_eq_true rfl) ?_
  refine z_iastN (j := rws) dX7_makeRow_12 rfl (Nat.le_of_ble_eq_true rfl) rfl (rfl) (by omega) (by decide) ?_
  refine z_n (L' := [(76, (oMod G code (nI tps) (nI pts) (nI lns) (nI wds) (nI brs) (nI ors) stp hasP fld laid told (nI rws) cms (nI cmT) cmS isN (nI trs))), (96, (zI G 1000 sg)), (97, (zI G 60 (upd rk rws (nI (X7_kindThen_n brs cms cmT cmS bm))))), (98, (zI G 300 rf)), (99, (zI G 60 rt)), (100, (zI G 60 rs))]) rfl ?_
  refine z_aload_n dX7_makeRow_13 rfl rfl ?_
  refine z_get dX7_makeRow_14 rfl hiX7_makeRow_X7 34 lkX7_makeRow_77 (Nat.le_of_ble_eq_true rfl) rfl rfl (by decide) rfl ?_
  refine z_iconst (v := nI 5) dX7_makeRow_17 rfl (by decide) ?_
  refine z_aload_n dX7_makeRow_18 rfl rfl ?_
  refine z_get dX7_makeRow_19 rfl hiX7_makeRow_X7 32 lkX7_makeRow_155 (Nat.le_of_ble_eq_true rfl) rfl rfl (by decide) rfl ?_
  refine z_imul dX7_makeRow_22 rfl ?_
  refine z_iload_n dX7_makeRow_23 rfl rfl ?_
  refine z_iastN (j := 5 * rws) dX7_makeRow_24 rfl (Nat.le_of_ble_eq_true rfl) rfl ((zq_mul rfl rfl)) (by omega) (by decide) ?_
  refine z_n (L' := [(76, (oMod G code (nI tps) (nI pts) (nI lns) (nI wds) (nI brs) (nI ors) stp hasP fld laid told (nI rws) cms (nI cmT) cmS isN (nI trs))), (96, (zI G 1000 sg)), (97, (zI G 60 (upd rk rws (nI (X7_kindThen_n brs cms cmT cmS bm))))), (98, (zI G 300 (upd rf (5 * rws) (nI a)))), (99, (zI G 60 rt)), (100, (zI G 60 rs))]) rfl ?_
  refine z_aload_n dX7_makeRow_25 rfl rfl ?_
  refine z_get dX7_makeRow_26 rfl hiX7_makeRow_X7 34 lkX7_makeRow_77 (Nat.le_of_ble_eq_true rfl) rfl rfl (by decide) rfl ?_
  refine z_iconst (v := nI 5) dX7_makeRow_29 rfl (by decide) ?_
  refine z_aload_n dX7_makeRow_30 rfl rfl ?_
  refine z_get dX7_makeRow_31 rfl hiX7_makeRow_X7 32 lkX7_makeRow_155 (Nat.le_of_ble_eq_true rfl) rfl rfl (by decide) rfl ?_
  refine z_imul dX7_makeRow_34 rfl ?_
  refine z_iconst (v := nI 1) dX7_makeRow_35 rfl (by decide) ?_
  refine z_iadd dX7_makeRow_36 rfl ?_
  refine z_iload_n dX7_makeRow_37 rfl rfl ?_
  refine z_iastN (j := (5 * rws) + 1) dX7_makeRow_38 rfl (Nat.le_of_ble_eq_true rfl) rfl ((zq_add (zq_mul rfl rfl) rfl)) (by omega) (by decide) ?_
  refine z_n (L' := [(76, (oMod G code (nI tps) (nI pts) (nI lns) (nI wds) (nI brs) (nI ors) stp hasP fld laid told (nI rws) cms (nI cmT) cmS isN (nI trs))), (96, (zI G 1000 sg)), (97, (zI G 60 (upd rk rws (nI (X7_kindThen_n brs cms cmT cmS bm))))), (98, (zI G 300 (upd (upd rf (5 * rws) (nI a)) ((5 * rws) + 1) (nI b)))), (99, (zI G 60 rt)), (100, (zI G 60 rs))]) rfl ?_
  refine z_aload_n dX7_makeRow_39 rfl rfl ?_
  refine z_get dX7_makeRow_40 rfl hiX7_makeRow_X7 34 lkX7_makeRow_77 (Nat.le_of_ble_eq_true rfl) rfl rfl (by decide) rfl ?_
  refine z_iconst (v := nI 5) dX7_makeRow_43 rfl (by decide) ?_
  refine z_aload_n dX7_makeRow_44 rfl rfl ?_
  refine z_get dX7_makeRow_45 rfl hiX7_makeRow_X7 32 lkX7_makeRow_155 (Nat.le_of_ble_eq_true rfl) rfl rfl (by decide) rfl ?_
  refine z_imul dX7_makeRow_48 rfl ?_
  refine z_iconst (v := nI 2) dX7_makeRow_49 rfl (by decide) ?_
  refine z_iadd dX7_makeRow_50 rfl ?_
  refine z_iload_n dX7_makeRow_51 rfl rfl ?_
  refine z_iastN (j := (5 * rws) + 2) dX7_makeRow_52 rfl (Nat.le_of_ble_eq_true rfl) rfl ((zq_add (zq_mul rfl rfl) rfl)) (by omega) (by decide) ?_
  refine z_n (L' := [(76, (oMod G code (nI tps) (nI pts) (nI lns) (nI wds) (nI brs) (nI ors) stp hasP fld laid told (nI rws) cms (nI cmT) cmS isN (nI trs))), (96, (zI G 1000 sg)), (97, (zI G 60 (upd rk rws (nI (X7_kindThen_n brs cms cmT cmS bm))))), (98, (zI G 300 (upd (upd (upd rf (5 * rws) (nI a)) ((5 * rws) + 1) (nI b)) ((5 * rws) + 2) (nI c)))), (99, (zI G 60 rt)), (100, (zI G 60 rs))]) rfl ?_
  refine z_aload_n dX7_makeRow_53 rfl rfl ?_
  refine z_get dX7_makeRow_54 rfl hiX7_makeRow_X7 34 lkX7_makeRow_77 (Nat.le_of_ble_eq_true rfl) rfl rfl (by decide) rfl ?_
  refine z_iconst (v := nI 5) dX7_makeRow_57 rfl (by decide) ?_
  refine z_aload_n dX7_makeRow_58 rfl rfl ?_
  refine z_get dX7_makeRow_59 rfl hiX7_makeRow_X7 32 lkX7_makeRow_155 (Nat.le_of_ble_eq_true rfl) rfl rfl (by decide) rfl ?_
  refine z_imul dX7_makeRow_62 rfl ?_
  refine z_iconst (v := nI 3) dX7_makeRow_63 rfl (by decide) ?_
  refine z_iadd dX7_makeRow_64 rfl ?_
  refine z_iload dX7_makeRow_65 rfl rfl ?_
  refine z_iastN (j := (5 * rws) + 3) dX7_makeRow_67 rfl (Nat.le_of_ble_eq_true rfl) rfl ((zq_add (zq_mul rfl rfl) rfl)) (by omega) (by decide) ?_
  refine z_n (L' := [(76, (oMod G code (nI tps) (nI pts) (nI lns) (nI wds) (nI brs) (nI ors) stp hasP fld laid told (nI rws) cms (nI cmT) cmS isN (nI trs))), (96, (zI G 1000 sg)), (97, (zI G 60 (upd rk rws (nI (X7_kindThen_n brs cms cmT cmS bm))))), (98, (zI G 300 (upd (upd (upd (upd rf (5 * rws) (nI a)) ((5 * rws) + 1) (nI b)) ((5 * rws) + 2) (nI c)) ((5 * rws) + 3) (nI d)))), (99, (zI G 60 rt)), (100, (zI G 60 rs))]) rfl ?_
  refine z_aload_n dX7_makeRow_68 rfl rfl ?_
  refine z_get dX7_makeRow_69 rfl hiX7_makeRow_X7 34 lkX7_makeRow_77 (Nat.le_of_ble_eq_true rfl) rfl rfl (by decide) rfl ?_
  refine z_iconst (v := nI 5) dX7_makeRow_72 rfl (by decide) ?_
  refine z_aload_n dX7_makeRow_73 rfl rfl ?_
  refine z_get dX7_makeRow_74 rfl hiX7_makeRow_X7 32 lkX7_makeRow_155 (Nat.le_of_ble_eq_true rfl) rfl rfl (by decide) rfl ?_
  refine z_imul dX7_makeRow_77 rfl ?_
  refine z_iconst (v := nI 4) dX7_makeRow_78 rfl (by decide) ?_
  refine z_iadd dX7_makeRow_79 rfl ?_
  refine z_iload dX7_makeRow_80 rfl rfl ?_
  refine z_iastN (j := (5 * rws) + 4) dX7_makeRow_82 rfl (Nat.le_of_ble_eq_true rfl) rfl ((zq_add (zq_mul rfl rfl) rfl)) (by omega) (by decide) ?_
  refine z_n (L' := [(76, (oMod G code (nI tps) (nI pts) (nI lns) (nI wds) (nI brs) (nI ors) stp hasP fld laid told (nI rws) cms (nI cmT) cmS isN (nI trs))), (96, (zI G 1000 sg)), (97, (zI G 60 (upd rk rws (nI (X7_kindThen_n brs cms cmT cmS bm))))), (98, (zI G 300 (upd (upd (upd (upd (upd rf (5 * rws) (nI a)) ((5 * rws) + 1) (nI b)) ((5 * rws) + 2) (nI c)) ((5 * rws) + 3) (nI d)) ((5 * rws) + 4) (nI e)))), (99, (zI G 60 rt)), (100, (zI G 60 rs))]) rfl ?_
  refine z_aload_n dX7_makeRow_83 rfl rfl ?_
  refine z_get dX7_makeRow_84 rfl hiX7_makeRow_X7 35 lkX7_makeRow_80 (Nat.le_of_ble_eq_true rfl) rfl rfl (by decide) rfl ?_
  refine z_aload_n dX7_makeRow_87 rfl rfl ?_
  refine z_get dX7_makeRow_88 rfl hiX7_makeRow_X7 32 lkX7_makeRow_155 (Nat.le_of_ble_eq_true rfl) rfl rfl (by decide) rfl ?_
  refine z_aload_n dX7_makeRow_91 rfl rfl ?_
  refine z_get dX7_makeRow_92 rfl hiX7_makeRow_X7 38 lkX7_makeRow_238 (Nat.le_of_ble_eq_true rfl) rfl rfl (by decide) rfl ?_
  refine z_iconst (v := nI 1) dX7_makeRow_95 rfl (by decide) ?_
  refine z_icmp_ne (tgt := 104) dX7_makeRow_96 rfl (by decide) (fun c96 => ?_) (fun c96 => ?_)
  · refine z_aload_n dX7_makeRow_104 rfl rfl ?_
    refine z_get dX7_makeRow_105 rfl hiX7_makeRow_X7 39 lkX7_makeRow_252 (Nat.le_of_ble_eq_true rfl) rfl rfl (by decide) rfl ?_
    refine z_iastN (j := rws) dX7_makeRow_108 rfl (Nat.le_of_ble_eq_true rfl) rfl (rfl) (by omega) (by decide) ?_
    refine z_n (L' := [(76, (oMod G code (nI tps) (nI pts) (nI lns) (nI wds) (nI brs) (nI ors) stp hasP fld laid told (nI rws) cms (nI cmT) cmS isN (nI trs))), (96, (zI G 1000 sg)), (97, (zI G 60 (upd rk rws (nI (X7_kindThen_n brs cms cmT cmS bm))))), (98, (zI G 300 (upd (upd (upd (upd (upd rf (5 * rws) (nI a)) ((5 * rws) + 1) (nI b)) ((5 * rws) + 2) (nI c)) ((5 * rws) + 3) (nI d)) ((5 * rws) + 4) (nI e)))), (99, (zI G 60 (upd rt rws (nI cmT)))), (100, (zI G 60 rs))]) rfl ?_
    refine z_aload_n dX7_makeRow_109 rfl rfl ?_
    refine z_get dX7_makeRow_110 rfl hiX7_makeRow_X7 36 lkX7_makeRow_83 (Nat.le_of_ble_eq_true rfl) rfl rfl (by decide) rfl ?_
    refine z_aload_n dX7_makeRow_113 rfl rfl ?_
    refine z_get dX7_makeRow_114 rfl hiX7_makeRow_X7 32 lkX7_makeRow_155 (Nat.le_of_ble_eq_true rfl) rfl rfl (by decide) rfl ?_
    refine z_aload_n dX7_makeRow_117 rfl rfl ?_
    refine z_get dX7_makeRow_118 rfl hiX7_makeRow_X7 38 lkX7_makeRow_238 (Nat.le_of_ble_eq_true rfl) rfl rfl (by decide) rfl ?_
    refine z_iconst (v := nI 1) dX7_makeRow_121 rfl (by decide) ?_
    refine z_icmp_ne (tgt := 129) dX7_makeRow_122 rfl (by decide) (fun c122 => ?_) (fun c122 => ?_)
    · refine z_aload_n dX7_makeRow_129 rfl rfl ?_
      refine z_get dX7_makeRow_130 rfl hiX7_makeRow_X7 40 lkX7_makeRow_255 (Nat.le_of_ble_eq_true rfl) rfl rfl (by decide) rfl ?_
      refine z_iastN (j := rws) dX7_makeRow_133 rfl (Nat.le_of_ble_eq_true rfl) rfl (rfl) (by omega) (by decide) ?_
      refine z_n (L' := [(76, (oMod G code (nI tps) (nI pts) (nI lns) (nI wds) (nI brs) (nI ors) stp hasP fld laid told (nI rws) cms (nI cmT) cmS isN (nI trs))), (96, (zI G 1000 sg)), (97, (zI G 60 (upd rk rws (nI (X7_kindThen_n brs cms cmT cmS bm))))), (98, (zI G 300 (upd (upd (upd (upd (upd rf (5 * rws) (nI a)) ((5 * rws) + 1) (nI b)) ((5 * rws) + 2) (nI c)) ((5 * rws) + 3) (nI d)) ((5 * rws) + 4) (nI e)))), (99, (zI G 60 (upd rt rws (nI cmT)))), (100, (zI G 60 (upd rs rws cmS)))]) rfl ?_
      refine z_aload_n dX7_makeRow_134 rfl rfl ?_
      refine z_aload_n dX7_makeRow_135 rfl rfl ?_
      refine z_get dX7_makeRow_136 rfl hiX7_makeRow_X7 32 lkX7_makeRow_155 (Nat.le_of_ble_eq_true rfl) rfl rfl (by decide) rfl ?_
      refine z_callVv (c_X7_layRow G ex _ code tps pts lns wds brs ors stp hasP fld laid told rws cms cmT cmS isN trs sg (upd rk rws (nI (X7_kindThen_n brs cms cmT cmS bm))) (upd rt rws (nI cmT)) (upd rs rws cmS) rws (by omega) (fun q => by first | (rw [pk_us]; exact vp_in_nI hcm (by decide)) | (rw [pk_us] at q; exact absurd (by simp only [X7_kindThen_n, if_pos c96]) q)) rfl rfl rfl rfl rfl) gX7_makeRow_X7_layRow rfl dX7_makeRow_139 rfl rfl rfl okk_X7_layRow (Nat.le_of_ble_eq_true rfl) rfl rfl ⟨Nat.le_of_ble_eq_true rfl, Nat.le_of_ble_eq_true rfl⟩ ⟨Nat.le_of_ble_eq_true rfl, Nat.le_of_ble_eq_true rfl⟩ (Nat.le_of_ble_eq_true rfl) ?_
      refine z_nn (L' := [(76, (oMod G code (nI tps) (nI pts) (nI lns) (nI wds) (nI brs) (nI ors) stp hasP fld laid told (nI rws) cms (nI cmT) cmS isN (nI trs))), (96, (zI G 1000 (X7_layRow_c96 sg (upd rk rws (nI (X7_kindThen_n brs cms cmT cmS bm))) (upd rt rws (nI cmT)) (upd rs rws cmS) rws))), (97, (zI G 60 (upd rk rws (nI (X7_kindThen_n brs cms cmT cmS bm))))), (98, (zI G 300 (upd (upd (upd (upd (upd rf (5 * rws) (nI a)) ((5 * rws) + 1) (nI b)) ((5 * rws) + 2) (nI c)) ((5 * rws) + 3) (nI d)) ((5 * rws) + 4) (nI e)))), (99, (zI G 60 (upd rt rws (nI cmT)))), (100, (zI G 60 (upd rs rws cmS)))]) rfl ?_
      refine z_aload_n dX7_makeRow_142 rfl rfl ?_
      refine z_dup dX7_makeRow_143 rfl rfl ?_
      refine z_get dX7_makeRow_144 rfl hiX7_makeRow_X7 32 lkX7_makeRow_155 (Nat.le_of_ble_eq_true rfl) rfl rfl (by decide) rfl ?_
      refine z_iconst (v := nI 1) dX7_makeRow_147 rfl (by decide) ?_
      refine z_iadd dX7_makeRow_148 rfl ?_
      refine z_top (show (nI rws) + (nI 1) = nI (rws + 1) from (zq_add rfl rfl)) ?_
      refine z_putN (e9 := (oMod G code (nI tps) (nI pts) (nI lns) (nI wds) (nI brs) (nI ors) stp hasP fld laid told (nI (rws + 1)) cms (nI cmT) cmS isN (nI trs))) tyX7 tyX7_ok nmX7 dX7_makeRow_149 rfl hiX7_makeRow_X7 32 lkX7_makeRow_155 rfl (by decide +kernel) (Nat.le_of_ble_eq_true rfl) rfl rfl (by decide) (Nat.le_of_ble_eq_true rfl) rfl rfl rfl ?_
      refine z_n (L' := [(76, (oMod G code (nI tps) (nI pts) (nI lns) (nI wds) (nI brs) (nI ors) stp hasP fld laid told (nI (rws + 1)) cms (nI cmT) cmS isN (nI trs))), (96, (zI G 1000 (X7_layRow_c96 sg (upd rk rws (nI (X7_kindThen_n brs cms cmT cmS bm))) (upd rt rws (nI cmT)) (upd rs rws cmS) rws))), (97, (zI G 60 (upd rk rws (nI (X7_kindThen_n brs cms cmT cmS bm))))), (98, (zI G 300 (upd (upd (upd (upd (upd rf (5 * rws) (nI a)) ((5 * rws) + 1) (nI b)) ((5 * rws) + 2) (nI c)) ((5 * rws) + 3) (nI d)) ((5 * rws) + 4) (nI e)))), (99, (zI G 60 (upd rt rws (nI cmT)))), (100, (zI G 60 (upd rs rws cmS)))]) rfl ?_
      exact z_return dX7_makeRow_152 rfl (Nat.le_refl _) (Nat.le_refl _) (fun _ => rfl) ⟨rfl, by simp only [X7_makeRow_p76_12, X7_makeRow_c96, X7_makeRow_c97, X7_makeRow_c98, X7_makeRow_c99, X7_makeRow_c100, if_neg c96]⟩
    · exact absurd c122 c96
  · refine z_bipush (v := (-4)) dX7_makeRow_99 rfl (by decide) ?_
    refine z_goto (tgt := 108) dX7_makeRow_101 (by decide) ?_
    refine z_iastN (j := rws) dX7_makeRow_108 rfl (Nat.le_of_ble_eq_true rfl) rfl (rfl) (by omega) (by decide) ?_
    refine z_n (L' := [(76, (oMod G code (nI tps) (nI pts) (nI lns) (nI wds) (nI brs) (nI ors) stp hasP fld laid told (nI rws) cms (nI cmT) cmS isN (nI trs))), (96, (zI G 1000 sg)), (97, (zI G 60 (upd rk rws (nI (X7_kindThen_n brs cms cmT cmS bm))))), (98, (zI G 300 (upd (upd (upd (upd (upd rf (5 * rws) (nI a)) ((5 * rws) + 1) (nI b)) ((5 * rws) + 2) (nI c)) ((5 * rws) + 3) (nI d)) ((5 * rws) + 4) (nI e)))), (99, (zI G 60 (upd rt rws (-4)))), (100, (zI G 60 rs))]) rfl ?_
    refine z_aload_n dX7_makeRow_109 rfl rfl ?_
    refine z_get dX7_makeRow_110 rfl hiX7_makeRow_X7 36 lkX7_makeRow_83 (Nat.le_of_ble_eq_true rfl) rfl rfl (by decide) rfl ?_
    refine z_aload_n dX7_makeRow_113 rfl rfl ?_
    refine z_get dX7_makeRow_114 rfl hiX7_makeRow_X7 32 lkX7_makeRow_155 (Nat.le_of_ble_eq_true rfl) rfl rfl (by decide) rfl ?_
    refine z_aload_n dX7_makeRow_117 rfl rfl ?_
    refine z_get dX7_makeRow_118 rfl hiX7_makeRow_X7 38 lkX7_makeRow_238 (Nat.le_of_ble_eq_true rfl) rfl rfl (by decide) rfl ?_
    refine z_iconst (v := nI 1) dX7_makeRow_121 rfl (by decide) ?_
    refine z_icmp_ne (tgt := 129) dX7_makeRow_122 rfl (by decide) (fun c122 => ?_) (fun c122 => ?_)
    · exact absurd c96 c122
    · refine z_iconst (v := nI 0) dX7_makeRow_125 rfl (by decide) ?_
      refine z_goto (tgt := 133) dX7_makeRow_126 (by decide) ?_
      refine z_iastN (j := rws) dX7_makeRow_133 rfl (Nat.le_of_ble_eq_true rfl) rfl (rfl) (by omega) (by decide) ?_
      refine z_n (L' := [(76, (oMod G code (nI tps) (nI pts) (nI lns) (nI wds) (nI brs) (nI ors) stp hasP fld laid told (nI rws) cms (nI cmT) cmS isN (nI trs))), (96, (zI G 1000 sg)), (97, (zI G 60 (upd rk rws (nI (X7_kindThen_n brs cms cmT cmS bm))))), (98, (zI G 300 (upd (upd (upd (upd (upd rf (5 * rws) (nI a)) ((5 * rws) + 1) (nI b)) ((5 * rws) + 2) (nI c)) ((5 * rws) + 3) (nI d)) ((5 * rws) + 4) (nI e)))), (99, (zI G 60 (upd rt rws (-4)))), (100, (zI G 60 (upd rs rws (nI 0))))]) rfl ?_
      refine z_aload_n dX7_makeRow_134 rfl rfl ?_
      refine z_aload_n dX7_makeRow_135 rfl rfl ?_
      refine z_get dX7_makeRow_136 rfl hiX7_makeRow_X7 32 lkX7_makeRow_155 (Nat.le_of_ble_eq_true rfl) rfl rfl (by decide) rfl ?_
      refine z_callVv (c_X7_layRow G ex _ code tps pts lns wds brs ors stp hasP fld laid told rws cms cmT cmS isN trs sg (upd rk rws (nI (X7_kindThen_n brs cms cmT cmS bm))) (upd rt rws (-4)) (upd rs rws (nI 0)) rws (by omega) (fun q => by first | (rw [pk_us]; exact vp_in_nI hcm (by decide)) | (rw [pk_us] at q; exact absurd (by simp only [X7_kindThen_n, if_pos c96]) q)) rfl rfl rfl rfl rfl) gX7_makeRow_X7_layRow rfl dX7_makeRow_139 rfl rfl rfl okk_X7_layRow (Nat.le_of_ble_eq_true rfl) rfl rfl ⟨Nat.le_of_ble_eq_true rfl, Nat.le_of_ble_eq_true rfl⟩ ⟨Nat.le_of_ble_eq_true rfl, Nat.le_of_ble_eq_true rfl⟩ (Nat.le_of_ble_eq_true rfl) ?_
      refine z_nn (L' := [(76, (oMod G code (nI tps) (nI pts) (nI lns) (nI wds) (nI brs) (nI ors) stp hasP fld laid told (nI rws) cms (nI cmT) cmS isN (nI trs))), (96, (zI G 1000 (X7_layRow_c96 sg (upd rk rws (nI (X7_kindThen_n brs cms cmT cmS bm))) (upd rt rws (-4)) (upd rs rws (nI 0)) rws))), (97, (zI G 60 (upd rk rws (nI (X7_kindThen_n brs cms cmT cmS bm))))), (98, (zI G 300 (upd (upd (upd (upd (upd rf (5 * rws) (nI a)) ((5 * rws) + 1) (nI b)) ((5 * rws) + 2) (nI c)) ((5 * rws) + 3) (nI d)) ((5 * rws) + 4) (nI e)))), (99, (zI G 60 (upd rt rws (-4)))), (100, (zI G 60 (upd rs rws (nI 0))))]) rfl ?_
      refine z_aload_n dX7_makeRow_142 rfl rfl ?_
      refine z_dup dX7_makeRow_143 rfl rfl ?_
      refine z_get dX7_makeRow_144 rfl hiX7_makeRow_X7 32 lkX7_makeRow_155 (Nat.le_of_ble_eq_true rfl) rfl rfl (by decide) rfl ?_
      refine z_iconst (v := nI 1) dX7_makeRow_147 rfl (by decide) ?_
      refine z_iadd dX7_makeRow_148 rfl ?_
      refine z_top (show (nI rws) + (nI 1) = nI (rws + 1) from (zq_add rfl rfl)) ?_
      refine z_putN (e9 := (oMod G code (nI tps) (nI pts) (nI lns) (nI wds) (nI brs) (nI ors) stp hasP fld laid told (nI (rws + 1)) cms (nI cmT) cmS isN (nI trs))) tyX7 tyX7_ok nmX7 dX7_makeRow_149 rfl hiX7_makeRow_X7 32 lkX7_makeRow_155 rfl (by decide +kernel) (Nat.le_of_ble_eq_true rfl) rfl rfl (by decide) (Nat.le_of_ble_eq_true rfl) rfl rfl rfl ?_
      refine z_n (L' := [(76, (oMod G code (nI tps) (nI pts) (nI lns) (nI wds) (nI brs) (nI ors) stp hasP fld laid told (nI (rws + 1)) cms (nI cmT) cmS isN (nI trs))), (96, (zI G 1000 (X7_layRow_c96 sg (upd rk rws (nI (X7_kindThen_n brs cms cmT cmS bm))) (upd rt rws (-4)) (upd rs rws (nI 0)) rws))), (97, (zI G 60 (upd rk rws (nI (X7_kindThen_n brs cms cmT cmS bm))))), (98, (zI G 300 (upd (upd (upd (upd (upd rf (5 * rws) (nI a)) ((5 * rws) + 1) (nI b)) ((5 * rws) + 2) (nI c)) ((5 * rws) + 3) (nI d)) ((5 * rws) + 4) (nI e)))), (99, (zI G 60 (upd rt rws (-4)))), (100, (zI G 60 (upd rs rws (nI 0))))]) rfl ?_
      exact z_return dX7_makeRow_152 rfl (Nat.le_refl _) (Nat.le_refl _) (fun _ => rfl) ⟨rfl, by simp only [X7_makeRow_p76_12, X7_makeRow_c96, X7_makeRow_c97, X7_makeRow_c98, X7_makeRow_c99, X7_makeRow_c100, if_pos c96]⟩
abbrev mX7_on : zM := (cX7_on, 3, (some .int), RX7, wsX7_on, "on")
theorem hiX7_on_X7 : ∀ w ∈ wsX70, w ∈ wsX7_on := fun w h => List.mem_cons_of_mem _ (List.mem_append_right _ h)
theorem lkX7_on_46 : Cond.fieldLink RX7 46 "ConfigSearchModel" "placeOf" "[I" ∈ wsX7_on := by decide +kernel
theorem lkX7_on_22 : Cond.fieldLink RX7 22 "ConfigSearchModel" "linePoint" "[I" ∈ wsX7_on := by decide +kernel
def X7_on_v (po lp : Nat → Int32) (l i : Nat) : Int32 := po (lp ((5 * l) + i)).toNatClampNeg
set_option maxRecDepth 100000 in
set_option maxHeartbeats 4000000 in
theorem c_X7_on (G : zG) (ex : Bool) (g : Nat → va_E) (code : Int32) (tps pts lns wds brs ors : Nat) (stp hasP fld laid told : Int32) (rws : Nat) (cms : Int32) (cmT : Nat) (cmS isN : Int32) (trs : Nat) (po lp : Nat → Int32) (l i : Nat) (hl : l < 12) (hi : i < 5) (hlp : vp_in (lp (5 * l + i)) 10) (h76 : g 76 = (oMod G code (nI tps) (nI pts) (nI lns) (nI wds) (nI brs) (nI ors) stp hasP fld laid told (nI rws) cms (nI cmT) cmS isN (nI trs))) (h89 : g 89 = (zI G 10 po)) (h81 : g 81 = (zI G 60 lp)) : zC G yX7_on wsX7_on (zrm 0 0) ex [.ref (zB G + 76), .int (nI l), .int (nI i)] (zN, g) (fun r h => r = some (.int (X7_on_v po lp l i)) ∧ h = (zN, g)) := by
  refine zC_of mX7_on (lv := [some (.ref (zB G + 76)), some (.int (nI l)), some (.int (nI i))]) rfl rfl (by decide) (by intro v hv; simp at hv; rcases hv with rfl | rfl | rfl <;> rfl) (Nat.le_of_ble_eq_true rfl) rfl ?_
  refine z_0 ?_
  refine z_aload_n dX7_on_0 rfl rfl ?_
  refine z_get dX7_on_1 rfl hiX7_on_X7 22 lkX7_on_46 (Nat.le_of_ble_eq_true rfl) h76 rfl (by decide) rfl ?_
  refine z_aload_n dX7_on_4 rfl rfl ?_
  refine z_get dX7_on_5 rfl hiX7_on_X7 8 lkX7_on_22 (Nat.le_of_ble_eq_true rfl) h76 rfl (by decide) rfl ?_
  refine z_iconst (v := nI 5) dX7_on_8 rfl (by decide) ?_
  refine z_iload_n dX7_on_9 rfl rfl ?_
  refine z_imul dX7_on_10 rfl ?_
  refine z_iload_n dX7_on_11 rfl rfl ?_
  refine z_iadd dX7_on_12 rfl ?_
  refine z_ialdN (j := (5 * l) + i) dX7_on_13 rfl (Nat.le_of_ble_eq_true rfl) h81 ((zq_add (zq_mul rfl rfl) rfl)) (by omega) (by decide) ?_
  refine z_iald dX7_on_14 rfl (Nat.le_of_ble_eq_true rfl) h89 hlp ?_
  exact z_ireturn dX7_on_15 rfl rfl (Nat.le_refl _) (Nat.le_refl _) (fun _ => rfl) ⟨by simp only [X7_on_v], rfl⟩
abbrev mX7_factorial : zM := (cX7_factorial, 3, (some .int), RX7, wsX7_factorial, "factorial")
def X7_factorial_L4_F (k : Nat) (a9 : (Nat)) : (Nat) := a9 * k
def X7_factorial_n (n : Nat) : Nat := (zfold (X7_factorial_L4_F) (max (n + 1) 2 - 2) 2 1)
set_option maxRecDepth 100000 in
set_option maxHeartbeats 4000000 in
theorem c_X7_factorial (G : zG) (ex : Bool) (g : Nat → va_E) (n : Nat) (h2 : n ≤ 7)  : zC G yX7_factorial wsX7_factorial (zrm 0 0) ex [.int (nI n)] (zN, g) (fun r h => r = some (.int (nI (X7_factorial_n n))) ∧ h = (zN, g)) := by
  refine zC_of mX7_factorial (lv := [some (.int (nI n)), none, none]) rfl rfl (by decide) (by intro v hv; simp at hv; subst hv; rfl) (Nat.le_of_ble_eq_true rfl) rfl ?_
  refine z_0 ?_
  refine z_iconst (v := nI 1) dX7_factorial_0 rfl (by decide) ?_
  refine z_istore_1 dX7_factorial_1 rfl ?_
  refine z_iconst (v := nI 2) dX7_factorial_2 rfl (by decide) ?_
  refine z_istore_2 dX7_factorial_3 rfl ?_
  refine z_forI (head := fun k (st9 : (Nat)) => Z G mX7_factorial (zrm 0 0) ex _ 4 [some (.int (nI n)), some (.int (nI st9)), some (.int (nI k))] [] (zN, zus g []) 0 0) (F := (X7_factorial_L4_F)) (n := max (n + 1) 2) (fun k _ => 2 ≤ k) (fun _ _ _ h => Nat.le_succ_of_le h) ?_ (max (n + 1) 2 - 2) 2 1 (by omega) (Nat.le_refl _) ?_
  · intro k p hi hI K
    have hk2 : 2 ≤ k := hI
    refine z_iload_n dX7_factorial_4 rfl rfl ?_
    refine z_iload_n dX7_factorial_5 rfl rfl ?_
    refine z_icmp_gt (tgt := 19) dX7_factorial_6 rfl (by decide) (fun c6 => ?_) (fun c6 => ?_)
    · exact absurd c6 (nI_nlt (by omega) (by omega))
    · refine z_iload_n dX7_factorial_9 rfl rfl ?_
      refine z_iload_n dX7_factorial_10 rfl rfl ?_
      refine z_imul dX7_factorial_11 rfl ?_
      refine z_top (show (nI p) * (nI k) = nI (p * k) from (zq_mul rfl rfl)) ?_
      refine z_istore_1 dX7_factorial_12 rfl ?_
      refine z_iinc_2 (v := nI (k + 1)) dX7_factorial_13 rfl (zinc _) ?_
      refine z_goto (tgt := 4) dX7_factorial_16 (by decide) ?_
      exact K
  · intro hI
    refine z_iload_n dX7_factorial_4 rfl rfl ?_
    refine z_iload_n dX7_factorial_5 rfl rfl ?_
    refine z_icmp_gt (tgt := 19) dX7_factorial_6 rfl (by decide) (fun c6 => ?_) (fun c6 => ?_)
    · refine z_iload_n dX7_factorial_19 rfl rfl ?_
      exact z_ireturn dX7_factorial_20 rfl rfl (Nat.le_refl _) (Nat.le_refl _) (fun _ => rfl) ⟨by simp only [X7_factorial_n], rfl⟩
    · exact absurd (nI_lt (by omega) (by omega)) c6
abbrev mX7_renamed : zM := (cX7_renamed, 5, (some .int), RX7, wsX7_renamed, "renamed")
theorem hiX7_renamed_X7 : ∀ w ∈ wsX70, w ∈ wsX7_renamed := fun w h => List.mem_cons_of_mem _ (List.mem_append_right _ h)
theorem lkX7_renamed_89 : Cond.fieldLink RX7 89 "ConfigSearchModel" "name" "[I" ∈ wsX7_renamed := by decide +kernel
def X7_renamed_L5_F (nm : Nat → Int32) (mk : Int32) (k : Nat) (a9 : (Int32)) : (Int32) := a9 ||| (((mk >>> ((nI k) &&& 31)) &&& (nI 1)) <<< ((nm k) &&& 31))
def X7_renamed_v (nm : Nat → Int32) (mk : Int32) (n : Nat) : Int32 := (zfold (X7_renamed_L5_F nm mk) n 0 (nI 0))
set_option maxRecDepth 100000 in
set_option maxHeartbeats 4000000 in
theorem c_X7_renamed (G : zG) (ex : Bool) (g : Nat → va_E) (code : Int32) (tps pts lns wds brs ors : Nat) (stp hasP fld laid told : Int32) (rws : Nat) (cms : Int32) (cmT : Nat) (cmS isN : Int32) (trs : Nat) (nm : Nat → Int32) (mk : Int32) (n : Nat) (hn : n ≤ 7) (h76 : g 76 = (oMod G code (nI tps) (nI pts) (nI lns) (nI wds) (nI brs) (nI ors) stp hasP fld laid told (nI rws) cms (nI cmT) cmS isN (nI trs))) (h102 : g 102 = (zI G 7 nm)) : zC G yX7_renamed wsX7_renamed (zrm 0 0) ex [.ref (zB G + 76), .int mk, .int (nI n)] (zN, g) (fun r h => r = some (.int (X7_renamed_v nm mk n)) ∧ h = (zN, g)) := by
  refine zC_of mX7_renamed (lv := [some (.ref (zB G + 76)), some (.int mk), some (.int (nI n)), none, none]) rfl rfl (by decide) (by intro v hv; simp at hv; rcases hv with rfl | rfl | rfl <;> rfl) (Nat.le_of_ble_eq_true rfl) rfl ?_
  refine z_0 ?_
  refine z_iconst (v := nI 0) dX7_renamed_0 rfl (by decide) ?_
  refine z_istore_3 dX7_renamed_1 rfl ?_
  refine z_iconst (v := nI 0) dX7_renamed_2 rfl (by decide) ?_
  refine z_istore_4 dX7_renamed_3 rfl ?_
  refine z_forI (head := fun k (st9 : (Int32)) => Z G mX7_renamed (zrm 0 0) ex _ 5 [some (.ref (zB G + 76)), some (.int mk), some (.int (nI n)), some (.int st9), some (.int (nI k))] [] (zN, zus g []) 0 0) (F := (X7_renamed_L5_F nm mk)) (n := n) (fun _ _ => True) (fun _ _ _ _ => trivial) ?_ n 0 (nI 0) (by omega) trivial ?_
  · intro k to1 hi _ K
    refine z_iload dX7_renamed_5 rfl rfl ?_
    refine z_iload_n dX7_renamed_7 rfl rfl ?_
    refine z_icmp_ge (tgt := 34) dX7_renamed_8 rfl (by decide) (fun c8 => ?_) (fun c8 => ?_)
    · exact absurd c8 (nI_ge hi (by omega))
    · refine z_iload_n dX7_renamed_11 rfl rfl ?_
      refine z_iload_n dX7_renamed_12 rfl rfl ?_
      refine z_iload dX7_renamed_13 rfl rfl ?_
      refine z_ishr dX7_renamed_15 rfl ?_
      refine z_iconst (v := nI 1) dX7_renamed_16 rfl (by decide) ?_
      refine z_iand dX7_renamed_17 rfl ?_
      refine z_aload_n dX7_renamed_18 rfl rfl ?_
      refine z_get dX7_renamed_19 rfl hiX7_renamed_X7 41 lkX7_renamed_89 (Nat.le_of_ble_eq_true rfl) h76 rfl (by decide) rfl ?_
      refine z_iload dX7_renamed_22 rfl rfl ?_
      refine z_ialdN (j := k) dX7_renamed_24 rfl (Nat.le_of_ble_eq_true rfl) h102 (rfl) (by omega) (by decide) ?_
      refine z_ishl dX7_renamed_25 rfl ?_
      refine z_ior dX7_renamed_26 rfl ?_
      refine z_istore_3 dX7_renamed_27 rfl ?_
      refine z_iinc_4 (v := nI (k + 1)) dX7_renamed_28 rfl (zinc _) ?_
      refine z_goto (tgt := 5) dX7_renamed_31 (by decide) ?_
      exact K
  · intro _
    refine z_iload dX7_renamed_5 rfl rfl ?_
    refine z_iload_n dX7_renamed_7 rfl rfl ?_
    refine z_icmp_ge (tgt := 34) dX7_renamed_8 rfl (by decide) (fun c8 => ?_) (fun c8 => ?_)
    · refine z_iload_n dX7_renamed_34 rfl rfl ?_
      exact z_ireturn dX7_renamed_35 rfl rfl (Nat.le_refl _) (Nat.le_refl _) (fun _ => rfl) ⟨by simp only [X7_renamed_v], rfl⟩
    · exact absurd (nI_le (Nat.le_refl _) (by omega)) c8
abbrev mX7_compareForm : zM := (cX7_compareForm, 5, (some .int), RX7, wsX7_compareForm, "compareForm")
theorem hiX7_compareForm_X7 : ∀ w ∈ wsX70, w ∈ wsX7_compareForm := fun w h => List.mem_cons_of_mem _ (List.mem_append_right _ h)
theorem lkX7_compareForm_98 : Cond.fieldLink RX7 98 "ConfigSearchModel" "form" "[I" ∈ wsX7_compareForm := by decide +kernel
def X7_compareForm_L5_F (fm : Nat → Int32) (wf : Nat → Int32) (k : Nat) (a9 : (Int32)) : (Int32) := if a9 = 0 then (if (wf k) ≤ (fm k) then (if (fm k) ≤ (wf k) then (nI 0) else (nI 1)) else (-1)) else a9
def X7_compareForm_L5_B (fm : Nat → Int32) (wf : Nat → Int32) (k : Nat) (a9 : (Int32)) : Option ((Int32)) := if a9 = 0 then (if (wf k) ≤ (fm k) then (if (fm k) ≤ (wf k) then none else none) else none) else (some a9)
def X7_compareForm_v (fm wf : Nat → Int32) (n : Nat) : Int32 := (zfoldX (X7_compareForm_L5_B fm wf) (X7_compareForm_L5_F fm wf) n 0 (nI 0)).2
set_option maxRecDepth 100000 in
set_option maxHeartbeats 4000000 in
theorem c_X7_compareForm (G : zG) (ex : Bool) (g : Nat → va_E) (code : Int32) (tps pts lns wds brs ors : Nat) (stp hasP fld laid told : Int32) (rws : Nat) (cms : Int32) (cmT : Nat) (cmS isN : Int32) (trs : Nat) (kb : Nat) (fm wf : Nat → Int32) (n : Nat) (hk_kb : kb < zN) (hn : n ≤ 12) (h76 : g 76 = (oMod G code (nI tps) (nI pts) (nI lns) (nI wds) (nI brs) (nI ors) stp hasP fld laid told (nI rws) cms (nI cmT) cmS isN (nI trs))) (h105 : g 105 = (zI G 12 fm)) (hkb : g kb = (zI G 12 wf)) : zC G yX7_compareForm wsX7_compareForm (zrm 0 0) ex [.ref (zB G + 76), .ref (zB G + kb), .int (nI n)] (zN, g) (fun r h => r = some (.int (X7_compareForm_v fm wf n)) ∧ h = (zN, g)) := by
  refine zC_of mX7_compareForm (lv := [some (.ref (zB G + 76)), some (.ref (zB G + kb)), some (.int (nI n)), none, none]) rfl rfl (by decide) (by intro v hv; simp at hv; rcases hv with rfl | rfl | rfl <;> rfl) (Nat.le_of_ble_eq_true rfl) rfl ?_
  refine z_0 ?_
  refine z_iconst (v := nI 0) dX7_compareForm_0 rfl (by decide) ?_
  refine z_istore_3 dX7_compareForm_1 rfl ?_
  refine z_iconst (v := nI 0) dX7_compareForm_2 rfl (by decide) ?_
  refine z_istore_4 dX7_compareForm_3 rfl ?_
  refine z_forX (head := fun k (st9 : (Int32)) => Z G mX7_compareForm (zrm 0 0) ex _ 5 [some (.ref (zB G + 76)), some (.ref (zB G + kb)), some (.int (nI n)), some (.int st9), some (.int (nI k))] [] (zN, zus g []) 0 0) (out := fun k (st9 : (Int32)) => Z G mX7_compareForm (zrm 0 0) ex (fun r h => r = some (.int (X7_compareForm_v fm wf n)) ∧ h = (zN, g)) 59 [some (.ref (zB G + 76)), some (.ref (zB G + kb)), some (.int (nI n)), some (.int st9), some (.int (nI k))] [] (zN, zus g []) 0 0) (B := (X7_compareForm_L5_B fm wf)) (F := (X7_compareForm_L5_F fm wf)) (n := n) (fun _ _ => True) (fun _ _ => True) (fun _ _ _ _ _ => trivial) (fun _ _ _ _ _ _ => trivial) (fun _ _ => trivial) ?_ ?_ n 0 (nI 0) (by omega) trivial ?_
  · intro k c1 hi _ Ko K
    refine z_iload dX7_compareForm_5 rfl rfl ?_
    refine z_iload_n dX7_compareForm_7 rfl rfl ?_
    refine z_icmp_ge (tgt := 59) dX7_compareForm_8 rfl (by decide) (fun c8 => ?_) (fun c8 => ?_)
    · exact absurd c8 (nI_ge hi (by omega))
    · refine z_iload_n dX7_compareForm_11 rfl rfl ?_
      refine z_if_ne (tgt := 59) dX7_compareForm_12 rfl (by decide) (fun c12 => ?_) (fun c12 => ?_)
      · exact Ko c1 (by simp only [X7_compareForm_L5_B, if_neg c12])
      · refine z_aload_n dX7_compareForm_15 rfl rfl ?_
        refine z_get dX7_compareForm_16 rfl hiX7_compareForm_X7 44 lkX7_compareForm_98 (Nat.le_of_ble_eq_true rfl) h76 rfl (by decide) rfl ?_
        refine z_iload dX7_compareForm_19 rfl rfl ?_
        refine z_ialdN (j := k) dX7_compareForm_21 rfl (Nat.le_of_ble_eq_true rfl) h105 (rfl) (by omega) (by decide) ?_
        refine z_aload_n dX7_compareForm_22 rfl rfl ?_
        refine z_iload dX7_compareForm_23 rfl rfl ?_
        refine z_ialdN (j := k) dX7_compareForm_25 rfl hk_kb hkb (rfl) (by omega) (by decide) ?_
        refine z_icmp_ge (tgt := 33) dX7_compareForm_26 rfl (by decide) (fun c26 => ?_) (fun c26 => ?_)
        · refine z_aload_n dX7_compareForm_33 rfl rfl ?_
          refine z_get dX7_compareForm_34 rfl hiX7_compareForm_X7 44 lkX7_compareForm_98 (Nat.le_of_ble_eq_true rfl) h76 rfl (by decide) rfl ?_
          refine z_iload dX7_compareForm_37 rfl rfl ?_
          refine z_ialdN (j := k) dX7_compareForm_39 rfl (Nat.le_of_ble_eq_true rfl) h105 (rfl) (by omega) (by decide) ?_
          refine z_aload_n dX7_compareForm_40 rfl rfl ?_
          refine z_iload dX7_compareForm_41 rfl rfl ?_
          refine z_ialdN (j := k) dX7_compareForm_43 rfl hk_kb hkb (rfl) (by omega) (by decide) ?_
          refine z_icmp_le (tgt := 51) dX7_compareForm_44 rfl (by decide) (fun c44 => ?_) (fun c44 => ?_)
          · refine z_iconst (v := nI 0) dX7_compareForm_51 rfl (by decide) ?_
            refine z_istore_3 dX7_compareForm_52 rfl ?_
            refine z_iinc_4 (v := nI (k + 1)) dX7_compareForm_53 rfl (zinc _) ?_
            refine z_goto (tgt := 5) dX7_compareForm_56 (by decide) ?_
            have K9 := (K (by simp only [X7_compareForm_L5_B, if_pos c12, if_pos c26, if_pos c44]))
            try simp only [X7_compareForm_L5_F, if_pos c12, if_pos c26, if_pos c44] at K9
            exact K9
          · refine z_iconst (v := nI 1) dX7_compareForm_47 rfl (by decide) ?_
            refine z_goto (tgt := 52) dX7_compareForm_48 (by decide) ?_
            refine z_istore_3 dX7_compareForm_52 rfl ?_
            refine z_iinc_4 (v := nI (k + 1)) dX7_compareForm_53 rfl (zinc _) ?_
            refine z_goto (tgt := 5) dX7_compareForm_56 (by decide) ?_
            have K9 := (K (by simp only [X7_compareForm_L5_B, if_pos c12, if_pos c26, if_neg c44]))
            try simp only [X7_compareForm_L5_F, if_pos c12, if_pos c26, if_neg c44] at K9
            exact K9
        · refine z_iconst (v := (-1)) dX7_compareForm_29 rfl (by decide) ?_
          refine z_goto (tgt := 52) dX7_compareForm_30 (by decide) ?_
          refine z_istore_3 dX7_compareForm_52 rfl ?_
          refine z_iinc_4 (v := nI (k + 1)) dX7_compareForm_53 rfl (zinc _) ?_
          refine z_goto (tgt := 5) dX7_compareForm_56 (by decide) ?_
          have K9 := (K (by simp only [X7_compareForm_L5_B, if_pos c12, if_neg c26]))
          try simp only [X7_compareForm_L5_F, if_pos c12, if_neg c26] at K9
          exact K9
  · intro c1 _ K
    refine z_iload dX7_compareForm_5 rfl rfl ?_
    refine z_iload_n dX7_compareForm_7 rfl rfl ?_
    refine z_icmp_ge (tgt := 59) dX7_compareForm_8 rfl (by decide) (fun c8 => ?_) (fun c8 => ?_)
    · exact K
    · exact absurd (nI_le (Nat.le_refl _) (by omega)) c8
  · intro hJ5 hle5
    refine z_iload_n dX7_compareForm_59 rfl rfl ?_
    exact z_ireturn dX7_compareForm_60 rfl rfl (Nat.le_refl _) (Nat.le_refl _) (fun _ => rfl) ⟨by simp only [X7_compareForm_v], rfl⟩
abbrev mX7_isApart : zM := (cX7_isApart, 3, (some .boolean), RX7, wsX7_isApart, "isApart")
def X7_isApart_v (a b : Int32) : Int32 := if ((a &&& b) &&& ((a &&& b) - (nI 1))) = 0 then (nI 1) else (nI 0)
set_option maxRecDepth 100000 in
set_option maxHeartbeats 4000000 in
theorem c_X7_isApart (G : zG) (ex : Bool) (g : Nat → va_E) (a b : Int32)   : zC G yX7_isApart wsX7_isApart (zrm 0 0) ex [.int a, .int b] (zN, g) (fun r h => r = some (.int (X7_isApart_v a b)) ∧ h = (zN, g)) := by
  refine zC_of mX7_isApart (lv := [some (.int a), some (.int b), none]) rfl rfl (by decide) (by intro v hv; simp at hv; rcases hv with rfl | rfl <;> rfl) (Nat.le_of_ble_eq_true rfl) rfl ?_
  refine z_0 ?_
  refine z_iload_n dX7_isApart_0 rfl rfl ?_
  refine z_iload_n dX7_isApart_1 rfl rfl ?_
  refine z_iand dX7_isApart_2 rfl ?_
  refine z_istore_2 dX7_isApart_3 rfl ?_
  refine z_iload_n dX7_isApart_4 rfl rfl ?_
  refine z_iload_n dX7_isApart_5 rfl rfl ?_
  refine z_iconst (v := nI 1) dX7_isApart_6 rfl (by decide) ?_
  refine z_isub dX7_isApart_7 rfl ?_
  refine z_iand dX7_isApart_8 rfl ?_
  refine z_if_ne (tgt := 16) dX7_isApart_9 rfl (by decide) (fun c9 => ?_) (fun c9 => ?_)
  · refine z_iconst (v := nI 0) dX7_isApart_16 rfl (by decide) ?_
    exact z_ireturn dX7_isApart_17 rfl rfl (Nat.le_refl _) (Nat.le_refl _) (fun _ => rfl) ⟨by simp only [X7_isApart_v, if_neg c9], rfl⟩
  · refine z_iconst (v := nI 1) dX7_isApart_12 rfl (by decide) ?_
    refine z_goto (tgt := 17) dX7_isApart_13 (by decide) ?_
    exact z_ireturn dX7_isApart_17 rfl rfl (Nat.le_refl _) (Nat.le_refl _) (fun _ => rfl) ⟨by simp only [X7_isApart_v, if_pos c9], rfl⟩
