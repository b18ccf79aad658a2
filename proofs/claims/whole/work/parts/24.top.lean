theorem zge0 {x : Int32} (h : ¬ x < 0) : x = nI x.toNatClampNeg := zvin (n := 2147483648) (fun q => q.elim h (fun z => by have := Int32.toNatClampNeg_lt x; omega))
theorem zlt_in {x : Int32} {n : Nat} (h0 : ¬ x < 0) (h : ¬ nI n ≤ x) (hn : n < 2147483648) : vp_in x n := fun q => by
  rcases q with q | q
  · exact h0 q
  · refine h ?_
    rw [zge0 h0]
    exact nI_le q (by have := Int32.toNatClampNeg_lt x; omega)
theorem zle_in {x : Int32} {n : Nat} (h0 : ¬ x < 0) (h : x ≤ nI n) (hn : n < 2147483647) : vp_in x (n + 1) := fun q => by
  rcases q with q | q
  · exact h0 q
  · rw [zge0 h0] at h
    exact absurd h (nI_ge (by omega) (by have := Int32.toNatClampNeg_lt x; omega))
theorem hasPoint_in {pts : Nat} {p : Int32} (h : ¬ X4_hasPoint_v pts p = 0) (hp : pts ≤ 10) : vp_in p pts := by
  unfold X4_hasPoint_v at h
  split at h
  · exact absurd rfl h
  · split at h
    · exact absurd rfl h
    · rename_i c1 c2
      exact zlt_in c1 c2 (by omega)
theorem hasLine_in {lns : Nat} {p : Int32} (h : ¬ X4_hasLine_v lns p = 0) (hp : lns ≤ 12) : vp_in p lns := by
  unfold X4_hasLine_v at h
  split at h
  · exact absurd rfl h
  · split at h
    · exact absurd rfl h
    · rename_i c1 c2
      exact zlt_in c1 c2 (by omega)
theorem vp_mn {x : Int32} {n m : Nat} (h : vp_in x n) (hm : n ≤ m) : vp_in x m := fun q => h (q.elim Or.inl (fun z => Or.inr (by omega)))
theorem vp_ne {x y : Int32} {n m : Nat} (h : vp_in x n) (h' : vp_in y m) (hx : ¬ x = y) : x.toNatClampNeg ≠ y.toNatClampNeg := fun q => hx (by rw [zvin h, zvin h', q])
theorem isTriple_in {pts : Nat} {a b c : Int32} (h : ¬ X4_isTriple_v pts a b c = 0) (hp : pts ≤ 10) : vp_in a pts ∧ vp_in b pts ∧ vp_in c pts ∧ ¬ a = b ∧ ¬ a = c ∧ ¬ b = c := by
  unfold X4_isTriple_v at h
  repeat' split at h
  all_goals first | exact absurd rfl h | skip
  rename_i c1 c2 c3 c4 c5 c6
  exact ⟨hasPoint_in c1 hp, hasPoint_in c2 hp, hasPoint_in c3 hp, c4, c5, c6⟩
theorem hasRow_in {rw : Nat} {i : Int32} (h : ¬ X0_hasRow_v (nI rw) i = 0) (hr : rw ≤ 60) : vp_in i rw := by
  unfold X0_hasRow_v at h
  repeat' split at h
  all_goals first | exact absurd rfl h | skip
  rename_i c1 c2
  exact zlt_in c1 c2 (by omega)
/-- the numbers of a point's place, and the place -/
def numN (n0 n1 n2 plc : Nat → Int32) (pt q : Nat) : Int32 := if q = 0 then X3_numberOf_v_0 n0 plc pt else if q = 1 then X3_numberOf_v_1 n1 plc pt else if q = 2 then X3_numberOf_v_2 n2 plc pt else X3_numberOf_v_3 plc pt
theorem c_X3_numberOf_N (G : zG) (ex : Bool) (g : Nat → va_E) (fnd stp : Int32) (fld : Int32) (psz : Nat) (n0 n1 n2 plc : Nat → Int32) (pt q : Nat) (hpt : pt < 10) (hq : q < 4) (hpc : vp_in (plc pt) 183) (h40 : g 40 = (oSch G fnd stp)) (h41 : g 41 = (oPln G fld (nI psz))) (h42 : g 42 = (zR G 3 (zrw G 3 43))) (h43 : g 43 = (zI G 183 n0)) (h44 : g 44 = (zI G 183 n1)) (h45 : g 45 = (zI G 183 n2)) (h46 : g 46 = (zI G 10 plc)) : zC G yX3_numberOf wsX3_numberOf (zrm 0 0) ex [.ref (zB G + 40), .int (nI pt), .int (nI q)] (zN, g) (fun r h => r = some (.int (numN n0 n1 n2 plc pt q)) ∧ h = (zN, g)) := by
  rcases (show q = 0 ∨ q = 1 ∨ q = 2 ∨ q = 3 by omega) with rfl | rfl | rfl | rfl
  · exact c_X3_numberOf_0 G ex g fnd stp fld psz n0 n1 n2 plc pt hpt hpc h40 h41 h42 h43 h44 h45 h46
  · exact c_X3_numberOf_1 G ex g fnd stp fld psz n0 n1 n2 plc pt hpt hpc h40 h41 h42 h43 h44 h45 h46
  · exact c_X3_numberOf_2 G ex g fnd stp fld psz n0 n1 n2 plc pt hpt hpc h40 h41 h42 h43 h44 h45 h46
  · exact c_X3_numberOf_3 G ex g fnd stp fld psz n0 n1 n2 plc pt hpt hpc h40 h41 h42 h43 h44 h45 h46
abbrev mX6_isPrime : zM := (cX6_isPrime, 5, (some .boolean), RX6, wsX6_isPrime, "isPrime")
theorem lkX6_isPrime_225 : Cond.fieldLink RX6 225 "ConfigSearch" "PRIMES" "[I" ∈ wsX6_isPrime := by decide +kernel
def X6_isPrime_v (p : Int32) : Int32 := if (nI (prN 0)) = p then (nI 1) else (if (nI (prN 1)) = p then (nI 1) else (if (nI (prN 2)) = p then (nI 1) else (if (nI (prN 3)) = p then (nI 1) else (if (nI (prN 4)) = p then (nI 1) else (if (nI (prN 5)) = p then (nI 1) else (nI 0))))))
set_option maxRecDepth 100000 in
set_option maxHeartbeats 4000000 in
theorem c_X6_isPrime (G : zG) (ex : Bool) (g : Nat → va_E) (p : Int32)   : zC G yX6_isPrime wsX6_isPrime (zrm 0 0) ex [.int p] (zN, g) (fun r h => r = some (.int (X6_isPrime_v p)) ∧ h = (zN, g)) := by
  refine zC_of mX6_isPrime (lv := [some (.int p), none, none, none, none]) rfl rfl (by decide) (by intro v hv; simp at hv; subst hv; rfl) (Nat.le_of_ble_eq_true rfl) rfl ?_
  refine z_0 ?_
  refine z_gsP dX6_isPrime_0 rfl lkX6_isPrime_225 ?_
  refine z_astore_1 dX6_isPrime_3 rfl ?_
  refine z_aload_n dX6_isPrime_4 rfl rfl ?_
  refine z_tlenP dX6_isPrime_5 rfl ?_
  refine z_istore_2 dX6_isPrime_6 rfl ?_
  refine z_iconst (v := nI 0) dX6_isPrime_7 rfl (by decide) ?_
  refine z_istore_3 dX6_isPrime_8 rfl ?_
  refine z_iload_n dX6_isPrime_9 rfl rfl ?_
  refine z_iload_n dX6_isPrime_10 rfl rfl ?_
  refine z_icmp_ge (tgt := 33) dX6_isPrime_11 rfl (by decide) (fun c11 => ?_) (fun c11 => ?_)
  · exact absurd c11 (by decide)
  · refine z_aload_n dX6_isPrime_14 rfl rfl ?_
    refine z_iload_n dX6_isPrime_15 rfl rfl ?_
    refine z_tPN (j := 0) dX6_isPrime_16 rfl (rfl) (by omega) ?_
    refine z_istore_4 dX6_isPrime_17 rfl ?_
    refine z_iload dX6_isPrime_19 rfl rfl ?_
    refine z_iload_n dX6_isPrime_21 rfl rfl ?_
    refine z_icmp_ne (tgt := 27) dX6_isPrime_22 rfl (by decide) (fun c22 => ?_) (fun c22 => ?_)
    · refine z_iinc_3 (v := nI 1) dX6_isPrime_27 rfl (zinc _) ?_
      refine z_goto (tgt := 9) dX6_isPrime_30 (by decide) ?_
      refine z_iload_n dX6_isPrime_9 rfl rfl ?_
      refine z_iload_n dX6_isPrime_10 rfl rfl ?_
      refine z_icmp_ge (tgt := 33) dX6_isPrime_11 rfl (by decide) (fun c11_2 => ?_) (fun c11_2 => ?_)
      · exact absurd c11_2 (by decide)
      · refine z_aload_n dX6_isPrime_14 rfl rfl ?_
        refine z_iload_n dX6_isPrime_15 rfl rfl ?_
        refine z_tPN (j := 1) dX6_isPrime_16 rfl (rfl) (by omega) ?_
        refine z_istore_4 dX6_isPrime_17 rfl ?_
        refine z_iload dX6_isPrime_19 rfl rfl ?_
        refine z_iload_n dX6_isPrime_21 rfl rfl ?_
        refine z_icmp_ne (tgt := 27) dX6_isPrime_22 rfl (by decide) (fun c22_2 => ?_) (fun c22_2 => ?_)
        · refine z_iinc_3 (v := nI 2) dX6_isPrime_27 rfl (zinc _) ?_
          refine z_goto (tgt := 9) dX6_isPrime_30 (by decide) ?_
          refine z_iload_n dX6_isPrime_9 rfl rfl ?_
          refine z_iload_n dX6_isPrime_10 rfl rfl ?_
          refine z_icmp_ge (tgt := 33) dX6_isPrime_11 rfl (by decide) (fun c11_3 => ?_) (fun c11_3 => ?_)
          · exact absurd c11_3 (by decide)
          · refine z_aload_n dX6_isPrime_14 rfl rfl ?_
            refine z_iload_n dX6_isPrime_15 rfl rfl ?_
            refine z_tPN (j := 2) dX6_isPrime_16 rfl (rfl) (by omega) ?_
            refine z_istore_4 dX6_isPrime_17 rfl ?_
            refine z_iload dX6_isPrime_19 rfl rfl ?_
            refine z_iload_n dX6_isPrime_21 rfl rfl ?_
            refine z_icmp_ne (tgt := 27) dX6_isPrime_22 rfl (by decide) (fun c22_3 => ?_) (fun c22_3 => ?_)
            · refine z_iinc_3 (v := nI 3) dX6_isPrime_27 rfl (zinc _) ?_
              refine z_goto (tgt := 9) dX6_isPrime_30 (by decide) ?_
              refine z_iload_n dX6_isPrime_9 rfl rfl ?_
              refine z_iload_n dX6_isPrime_10 rfl rfl ?_
              refine z_icmp_ge (tgt := 33) dX6_isPrime_11 rfl (by decide) (fun c11_4 => ?_) (fun c11_4 => ?_)
              · exact absurd c11_4 (by decide)
              · refine z_aload_n dX6_isPrime_14 rfl rfl ?_
                refine z_iload_n dX6_isPrime_15 rfl rfl ?_
                refine z_tPN (j := 3) dX6_isPrime_16 rfl (rfl) (by omega) ?_
                refine z_istore_4 dX6_isPrime_17 rfl ?_
                refine z_iload dX6_isPrime_19 rfl rfl ?_
                refine z_iload_n dX6_isPrime_21 rfl rfl ?_
                refine z_icmp_ne (tgt := 27) dX6_isPrime_22 rfl (by decide) (fun c22_4 => ?_) (fun c22_4 => ?_)
                · refine z_iinc_3 (v := nI 4) dX6_isPrime_27 rfl (zinc _) ?_
                  refine z_goto (tgt := 9) dX6_isPrime_30 (by decide) ?_
                  refine z_iload_n dX6_isPrime_9 rfl rfl ?_
                  refine z_iload_n dX6_isPrime_10 rfl rfl ?_
                  refine z_icmp_ge (tgt := 33) dX6_isPrime_11 rfl (by decide) (fun c11_5 => ?_) (fun c11_5 => ?_)
                  · exact absurd c11_5 (by decide)
                  · refine z_aload_n dX6_isPrime_14 rfl rfl ?_
                    refine z_iload_n dX6_isPrime_15 rfl rfl ?_
                    refine z_tPN (j := 4) dX6_isPrime_16 rfl (rfl) (by omega) ?_
                    refine z_istore_4 dX6_isPrime_17 rfl ?_
                    refine z_iload dX6_isPrime_19 rfl rfl ?_
                    refine z_iload_n dX6_isPrime_21 rfl rfl ?_
                    refine z_icmp_ne (tgt := 27) dX6_isPrime_22 rfl (by decide) (fun c22_5 => ?_) (fun c22_5 => ?_)
                    · refine z_iinc_3 (v := nI 5) dX6_isPrime_27 rfl (zinc _) ?_
                      refine z_goto (tgt := 9) dX6_isPrime_30 (by decide) ?_
                      refine z_iload_n dX6_isPrime_9 rfl rfl ?_
                      refine z_iload_n dX6_isPrime_10 rfl rfl ?_
                      refine z_icmp_ge (tgt := 33) dX6_isPrime_11 rfl (by decide) (fun c11_6 => ?_) (fun c11_6 => ?_)
                      · exact absurd c11_6 (by decide)
                      · refine z_aload_n dX6_isPrime_14 rfl rfl ?_
                        refine z_iload_n dX6_isPrime_15 rfl rfl ?_
                        refine z_tPN (j := 5) dX6_isPrime_16 rfl (rfl) (by omega) ?_
                        refine z_istore_4 dX6_isPrime_17 rfl ?_
                        refine z_iload dX6_isPrime_19 rfl rfl ?_
                        refine z_iload_n dX6_isPrime_21 rfl rfl ?_
                        refine z_icmp_ne (tgt := 27) dX6_isPrime_22 rfl (by decide) (fun c22_6 => ?_) (fun c22_6 => ?_)
                        · refine z_iinc_3 (v := nI 6) dX6_isPrime_27 rfl (zinc _) ?_
                          refine z_goto (tgt := 9) dX6_isPrime_30 (by decide) ?_
                          refine z_iload_n dX6_isPrime_9 rfl rfl ?_
                          refine z_iload_n dX6_isPrime_10 rfl rfl ?_
                          refine z_icmp_ge (tgt := 33) dX6_isPrime_11 rfl (by decide) (fun c11_7 => ?_) (fun c11_7 => ?_)
                          · refine z_iconst (v := nI 0) dX6_isPrime_33 rfl (by decide) ?_
                            exact z_ireturn dX6_isPrime_34 rfl rfl (Nat.le_refl _) (Nat.le_refl _) (fun _ => rfl) ⟨by simp only [X6_isPrime_v, if_neg c22, if_neg c22_2, if_neg c22_3, if_neg c22_4, if_neg c22_5, if_neg c22_6], rfl⟩
                          · exact absurd (by decide) c11_7
                        · refine z_iconst (v := nI 1) dX6_isPrime_25 rfl (by decide) ?_
                          exact z_ireturn dX6_isPrime_26 rfl rfl (Nat.le_refl _) (Nat.le_refl _) (fun _ => rfl) ⟨by simp only [X6_isPrime_v, if_neg c22, if_neg c22_2, if_neg c22_3, if_neg c22_4, if_neg c22_5, if_pos c22_6], rfl⟩
                    · refine z_iconst (v := nI 1) dX6_isPrime_25 rfl (by decide) ?_
                      exact z_ireturn dX6_isPrime_26 rfl rfl (Nat.le_refl _) (Nat.le_refl _) (fun _ => rfl) ⟨by simp only [X6_isPrime_v, if_neg c22, if_neg c22_2, if_neg c22_3, if_neg c22_4, if_pos c22_5], rfl⟩
                · refine z_iconst (v := nI 1) dX6_isPrime_25 rfl (by decide) ?_
                  exact z_ireturn dX6_isPrime_26 rfl rfl (Nat.le_refl _) (Nat.le_refl _) (fun _ => rfl) ⟨by simp only [X6_isPrime_v, if_neg c22, if_neg c22_2, if_neg c22_3, if_pos c22_4], rfl⟩
            · refine z_iconst (v := nI 1) dX6_isPrime_25 rfl (by decide) ?_
              exact z_ireturn dX6_isPrime_26 rfl rfl (Nat.le_refl _) (Nat.le_refl _) (fun _ => rfl) ⟨by simp only [X6_isPrime_v, if_neg c22, if_neg c22_2, if_pos c22_3], rfl⟩
        · refine z_iconst (v := nI 1) dX6_isPrime_25 rfl (by decide) ?_
          exact z_ireturn dX6_isPrime_26 rfl rfl (Nat.le_refl _) (Nat.le_refl _) (fun _ => rfl) ⟨by simp only [X6_isPrime_v, if_neg c22, if_pos c22_2], rfl⟩
    · refine z_iconst (v := nI 1) dX6_isPrime_25 rfl (by decide) ?_
      exact z_ireturn dX6_isPrime_26 rfl rfl (Nat.le_refl _) (Nat.le_refl _) (fun _ => rfl) ⟨by simp only [X6_isPrime_v, if_pos c22], rfl⟩
theorem prime_in {p : Int32} (h : ¬ X6_isPrime_v p = 0) : p = nI 2 ∨ p = nI 3 ∨ p = nI 5 ∨ p = nI 7 ∨ p = nI 11 ∨ p = nI 13 := by
  unfold X6_isPrime_v at h
  by_cases c0 : nI (prN 0) = p
  · exact Or.inl c0.symm
  by_cases c1 : nI (prN 1) = p
  · exact Or.inr (Or.inl c1.symm)
  by_cases c2 : nI (prN 2) = p
  · exact Or.inr (Or.inr (Or.inl c2.symm))
  by_cases c3 : nI (prN 3) = p
  · exact Or.inr (Or.inr (Or.inr (Or.inl c3.symm)))
  by_cases c4 : nI (prN 4) = p
  · exact Or.inr (Or.inr (Or.inr (Or.inr (Or.inl c4.symm))))
  by_cases c5 : nI (prN 5) = p
  · exact Or.inr (Or.inr (Or.inr (Or.inr (Or.inr c5.symm))))
  · simp only [if_neg c0, if_neg c1, if_neg c2, if_neg c3, if_neg c4, if_neg c5] at h
    exact absurd rfl h
theorem prime_v {p : Int32} (h : ¬ X6_isPrime_v p = 0) : vp_in p 14 ∧ 1 ≤ p.toNatClampNeg := by
  rcases prime_in h with e | e | e | e | e | e <;> (subst e; exact ⟨vp_in_nI (by decide) (by decide), by decide⟩)
abbrev mX6_sign : zM := (cX6_sign, 2, (some .int), RX6, wsX6_sign, "sign")
theorem hiX6_sign_X6 : ∀ w ∈ wsX60, w ∈ wsX6_sign := fun w h => List.mem_cons_of_mem _ (List.mem_append_right _ h)
theorem lkX6_sign_13 : Cond.fieldLink RX6 13 "ConfigSearch" "onTape" "I" ∈ wsX6_sign := by decide +kernel
theorem lkX6_sign_9 : Cond.fieldLink RX6 9 "ConfigSearch" "tape" "[I" ∈ wsX6_sign := by decide +kernel
def X6_sign_v (ont : Nat) (c : Int32) : Int32 := if c < 0 then (-9) else (if c ≤ (nI 255) then (if (nI ont) < (nI 80) then (nI (ont + 1)) else (-3)) else (-9))
def X6_sign_p0_0 (ont : Nat) (c : Int32) : Nat := if c < 0 then ont else (if c ≤ (nI 255) then (if (nI ont) < (nI 80) then (ont + 1) else ont) else ont)
def X6_sign_c1 (ont : Nat) (tp : Nat → Int32) (c : Int32) : Nat → Int32 := if c < 0 then tp else (if c ≤ (nI 255) then (if (nI ont) < (nI 80) then (upd tp ont c) else tp) else tp)
set_option maxRecDepth 100000 in
set_option maxHeartbeats 4000000 in
theorem c_X6_sign_2 (G : zG) (ex : Bool) (g : Nat → va_E) (ont : Nat) (tp : Nat → Int32) (c : Int32) (hont : ont ≤ 80) (h0 : g 0 = (oCfg G 2 19 (nI ont))) (h1 : g 1 = (zI G 80 tp)) : zC G yX6_sign wsX6_sign (zrm 0 0) ex [.ref (zB G + 0), .int c] (zN, g) (fun r h => r = some (.int (X6_sign_v ont c)) ∧ h = (zN, zus g [(0, (oCfg G 2 19 (nI (X6_sign_p0_0 ont c)))), (1, zI G 80 (X6_sign_c1 ont tp c))])) := by
  refine zC_of mX6_sign (lv := [some (.ref (zB G + 0)), some (.int c)]) rfl rfl (by decide) (by intro v hv; simp at hv; rcases hv with rfl | rfl <;> rfl) (Nat.le_of_ble_eq_true rfl) rfl ?_
  refine z_0 ?_
  refine z_heap (g' := zu (zus g []) 0 (oCfg G 2 19 (nI ont))) (zu_self (zus g []) 0 _ h0).symm ?_
  refine z_n (L' := [(0, (oCfg G 2 19 (nI ont)))]) rfl ?_
  refine z_heap (g' := zu (zus g [(0, (oCfg G 2 19 (nI ont)))]) 1 (zI G 80 tp)) (zu_self (zus g [(0, (oCfg G 2 19 (nI ont)))]) 1 _ h1).symm ?_
  refine z_n (L' := [(0, (oCfg G 2 19 (nI ont))), (1, (zI G 80 tp))]) rfl ?_
  refine z_iload_n dX6_sign_0 rfl rfl ?_
  refine z_if_lt (tgt := 11) dX6_sign_1 rfl (by decide) (fun c1 => ?_) (fun c1 => ?_)
  · refine z_bipush (v := (-9)) dX6_sign_11 rfl (by decide) ?_
    exact z_ireturn dX6_sign_13 rfl rfl (Nat.le_refl _) (Nat.le_refl _) (fun _ => rfl) ⟨by simp only [X6_sign_v, if_pos c1], by simp only [X6_sign_p0_0, X6_sign_c1, if_pos c1]⟩
  · refine z_iload_n dX6_sign_4 rfl rfl ?_
    refine z_sipush (v := nI 255) dX6_sign_5 rfl (by decide) ?_
    refine z_icmp_le (tgt := 14) dX6_sign_8 rfl (by decide) (fun c8 => ?_) (fun c8 => ?_)
    · refine z_aload_n dX6_sign_14 rfl rfl ?_
      refine z_get dX6_sign_15 rfl hiX6_sign_X6 1 lkX6_sign_13 (Nat.le_of_ble_eq_true rfl) rfl rfl (by decide) rfl ?_
      refine z_bipush (v := nI 80) dX6_sign_18 rfl (by decide) ?_
      refine z_icmp_lt (tgt := 26) dX6_sign_20 rfl (by decide) (fun c20 => ?_) (fun c20 => ?_)
      · have h80 : ont < 80 := Nat.lt_of_not_le (fun q => absurd c20 (nI_nlt q (by omega)))
        refine z_aload_n dX6_sign_26 rfl rfl ?_
        refine z_get dX6_sign_27 rfl hiX6_sign_X6 0 lkX6_sign_9 (Nat.le_of_ble_eq_true rfl) rfl rfl (by decide) rfl ?_
        refine z_aload_n dX6_sign_30 rfl rfl ?_
        refine z_get dX6_sign_31 rfl hiX6_sign_X6 1 lkX6_sign_13 (Nat.le_of_ble_eq_true rfl) rfl rfl (by decide) rfl ?_
        refine z_iload_n dX6_sign_34 rfl rfl ?_
        refine z_iastN (j := ont) dX6_sign_35 rfl (Nat.le_of_ble_eq_true rfl) rfl (rfl) (by omega) (by decide) ?_
        refine z_n (L' := [(0, (oCfg G 2 19 (nI ont))), (1, (zI G 80 (upd tp ont c)))]) rfl ?_
        refine z_aload_n dX6_sign_36 rfl rfl ?_
        refine z_dup dX6_sign_37 rfl rfl ?_
        refine z_get dX6_sign_38 rfl hiX6_sign_X6 1 lkX6_sign_13 (Nat.le_of_ble_eq_true rfl) rfl rfl (by decide) rfl ?_
        refine z_iconst (v := nI 1) dX6_sign_41 rfl (by decide) ?_
        refine z_iadd dX6_sign_42 rfl ?_
        refine z_top (show (nI ont) + (nI 1) = nI (ont + 1) from (zq_add rfl rfl)) ?_
        refine z_putN (e9 := (oCfg G 2 19 (nI (ont + 1)))) tyX6 tyX6_ok nmX6 dX6_sign_43 rfl hiX6_sign_X6 1 lkX6_sign_13 rfl (by decide +kernel) (Nat.le_of_ble_eq_true rfl) rfl rfl (by decide) (Nat.le_of_ble_eq_true rfl) rfl rfl rfl ?_
        refine z_n (L' := [(0, (oCfg G 2 19 (nI (ont + 1)))), (1, (zI G 80 (upd tp ont c)))]) rfl ?_
        refine z_aload_n dX6_sign_46 rfl rfl ?_
        refine z_get dX6_sign_47 rfl hiX6_sign_X6 1 lkX6_sign_13 (Nat.le_of_ble_eq_true rfl) rfl rfl (by decide) rfl ?_
        exact z_ireturn dX6_sign_50 rfl rfl (Nat.le_refl _) (Nat.le_refl _) (fun _ => rfl) ⟨by simp only [X6_sign_v, if_neg c1, if_pos c8, if_pos c20], by simp only [X6_sign_p0_0, X6_sign_c1, if_neg c1, if_pos c8, if_pos c20]⟩
      · refine z_bipush (v := (-3)) dX6_sign_23 rfl (by decide) ?_
        exact z_ireturn dX6_sign_25 rfl rfl (Nat.le_refl _) (Nat.le_refl _) (fun _ => rfl) ⟨by simp only [X6_sign_v, if_neg c1, if_pos c8, if_neg c20], by simp only [X6_sign_p0_0, X6_sign_c1, if_neg c1, if_pos c8, if_neg c20]⟩
    · refine z_bipush (v := (-9)) dX6_sign_11 rfl (by decide) ?_
      exact z_ireturn dX6_sign_13 rfl rfl (Nat.le_refl _) (Nat.le_refl _) (fun _ => rfl) ⟨by simp only [X6_sign_v, if_neg c1, if_neg c8], by simp only [X6_sign_p0_0, X6_sign_c1, if_neg c1, if_neg c8]⟩
abbrev mX6_count : zM := (cX6_count, 2, (some .int), RX6, wsX6_count, "count")
theorem hiX6_count_X6 : ∀ w ∈ wsX60, w ∈ wsX6_count := fun w h => List.mem_cons_of_mem _ (List.mem_append_left _ (List.mem_append_left _ (List.mem_append_left _ (List.mem_append_left _ (List.mem_append_right _ h)))))
theorem lkX6_count_20 : Cond.fieldLink RX6 20 "ConfigSearch" "text" "LConfigSearch$Text;" ∈ wsX6_count := by decide +kernel
theorem hiX6_count_X4 : ∀ w ∈ wsX40, w ∈ wsX6_count := fun w h => List.mem_cons_of_mem _ (List.mem_append_left _ (List.mem_append_left _ (List.mem_append_left _ (List.mem_append_right _ h))))
theorem lkX6_count_73 : Cond.fieldLink RX6 73 "ConfigSearch$Text" "points" "I" ∈ wsX6_count := by decide +kernel
theorem lkX6_count_76 : Cond.fieldLink RX6 76 "ConfigSearch$Text" "lines" "I" ∈ wsX6_count := by decide +kernel
theorem lkX6_count_30 : Cond.fieldLink RX6 30 "ConfigSearch" "told" "LConfigSearch$Told;" ∈ wsX6_count := by decide +kernel
theorem hiX6_count_X5 : ∀ w ∈ wsX50, w ∈ wsX6_count := fun w h => List.mem_cons_of_mem _ (List.mem_append_left _ (List.mem_append_left _ (List.mem_append_right _ h)))
theorem lkX6_count_79 : Cond.fieldLink RX6 79 "ConfigSearch$Told" "barredOnes" "I" ∈ wsX6_count := by decide +kernel
theorem lkX6_count_82 : Cond.fieldLink RX6 82 "ConfigSearch$Told" "orientedOnes" "I" ∈ wsX6_count := by decide +kernel
theorem lkX6_count_46 : Cond.fieldLink RX6 46 "ConfigSearch" "following" "LConfigSearch$Following;" ∈ wsX6_count := by decide +kernel
theorem hiX6_count_X0 : ∀ w ∈ wsX00, w ∈ wsX6_count := fun w h => List.mem_cons_of_mem _ (List.mem_append_left _ (List.mem_append_right _ h))
theorem lkX6_count_85 : Cond.fieldLink RX6 85 "ConfigSearch$Following" "rows" "I" ∈ wsX6_count := by decide +kernel
theorem lkX6_count_39 : Cond.fieldLink RX6 39 "ConfigSearch" "search" "LConfigSearch$Search;" ∈ wsX6_count := by decide +kernel
theorem hiX6_count_X3 : ∀ w ∈ wsX30, w ∈ wsX6_count := fun w h => List.mem_cons_of_mem _ (List.mem_append_right _ h)
theorem lkX6_count_88 : Cond.fieldLink RX6 88 "ConfigSearch$Search" "steps" "I" ∈ wsX6_count := by decide +kernel
theorem lkX6_count_13 : Cond.fieldLink RX6 13 "ConfigSearch" "onTape" "I" ∈ wsX6_count := by decide +kernel
theorem lkX6_count_91 : Cond.fieldLink RX6 91 "ConfigSearch$Following" "outcome" "I" ∈ wsX6_count := by decide +kernel
def X6_count_v (pts lns : Nat) (ont : Nat) (bo oo : Int32) (rw : Nat) (outc : Int32) (stp : Nat) (w : Int32) : Int32 := if w = nI 0 then (nI pts) else (if w = nI 1 then (nI lns) else (if w = nI 2 then bo else (if w = nI 3 then oo else (if w = nI 4 then (nI rw) else (if w = nI 5 then (nI stp) else (if w = nI 6 then (nI ont) else (if w = nI 7 then outc else (-9))))))))
set_option maxRecDepth 100000 in
set_option maxHeartbeats 4000000 in
theorem c_X6_count_2 (G : zG) (ex : Bool) (g : Nat → va_E) (pts lns ltr : Nat) (inw : Int32) (ont : Nat) (bo oo : Int32) (rw : Nat) (outc ts : Int32) (fnd : Int32) (stp : Nat) (w : Int32)  (h0 : g 0 = (oCfg G 2 19 (nI ont))) (h2 : g 2 = (oTxt G 2 (nI pts) (nI lns) (nI ltr) inw)) (h36 : g 36 = (oTld G bo oo)) (h59 : g 59 = (oFol G (nI rw) outc ts)) (h40 : g 40 = (oSch G fnd (nI stp))) : zC G yX6_count wsX6_count (zrm 0 0) ex [.ref (zB G + 0), .int w] (zN, g) (fun r h => r = some (.int (X6_count_v pts lns ont bo oo rw outc stp w)) ∧ h = (zN, g)) := by
  refine zC_of mX6_count (lv := [some (.ref (zB G + 0)), some (.int w)]) rfl rfl (by decide) (by intro v hv; simp at hv; rcases hv with rfl | rfl <;> rfl) (Nat.le_of_ble_eq_true rfl) rfl ?_
  refine z_0 ?_
  refine z_iload_n dX6_count_0 rfl rfl ?_
  by_cases q1_0 : w = nI 0
  · refine z_tableIn (off := 47) (tgt := 48) dX6_count_1 (by rw [q1_0]; decide) (by rw [q1_0]; decide) (by rw [q1_0]; decide) (by decide) ?_
    refine z_aload_n dX6_count_48 rfl rfl ?_
    refine z_get dX6_count_49 rfl hiX6_count_X6 2 lkX6_count_20 (Nat.le_of_ble_eq_true rfl) h0 rfl (by decide) rfl ?_
    refine z_get dX6_count_52 rfl hiX6_count_X4 0 lkX6_count_73 (Nat.le_of_ble_eq_true rfl) h2 rfl (by decide) rfl ?_
    exact z_ireturn dX6_count_55 rfl rfl (Nat.le_refl _) (Nat.le_refl _) (fun _ => rfl) ⟨by simp only [X6_count_v, if_pos q1_0], rfl⟩
  · by_cases q1_1 : w = nI 1
    · refine z_tableIn (off := 55) (tgt := 56) dX6_count_1 (by rw [q1_1]; decide) (by rw [q1_1]; decide) (by rw [q1_1]; decide) (by decide) ?_
      refine z_aload_n dX6_count_56 rfl rfl ?_
      refine z_get dX6_count_57 rfl hiX6_count_X6 2 lkX6_count_20 (Nat.le_of_ble_eq_true rfl) h0 rfl (by decide) rfl ?_
      refine z_get dX6_count_60 rfl hiX6_count_X4 1 lkX6_count_76 (Nat.le_of_ble_eq_true rfl) h2 rfl (by decide) rfl ?_
      exact z_ireturn dX6_count_63 rfl rfl (Nat.le_refl _) (Nat.le_refl _) (fun _ => rfl) ⟨by simp only [X6_count_v, if_neg q1_0, if_pos q1_1], rfl⟩
    · by_cases q1_2 : w = nI 2
      · refine z_tableIn (off := 63) (tgt := 64) dX6_count_1 (by rw [q1_2]; decide) (by rw [q1_2]; decide) (by rw [q1_2]; decide) (by decide) ?_
        refine z_aload_n dX6_count_64 rfl rfl ?_
        refine z_get dX6_count_65 rfl hiX6_count_X6 4 lkX6_count_30 (Nat.le_of_ble_eq_true rfl) h0 rfl (by decide) rfl ?_
        refine z_get dX6_count_68 rfl hiX6_count_X5 3 lkX6_count_79 (Nat.le_of_ble_eq_true rfl) h36 rfl (by decide) rfl ?_
        exact z_ireturn dX6_count_71 rfl rfl (Nat.le_refl _) (Nat.le_refl _) (fun _ => rfl) ⟨by simp only [X6_count_v, if_neg q1_0, if_neg q1_1, if_pos q1_2], rfl⟩
      · by_cases q1_3 : w = nI 3
        · refine z_tableIn (off := 71) (tgt := 72) dX6_count_1 (by rw [q1_3]; decide) (by rw [q1_3]; decide) (by rw [q1_3]; decide) (by decide) ?_
          refine z_aload_n dX6_count_72 rfl rfl ?_
          refine z_get dX6_count_73 rfl hiX6_count_X6 4 lkX6_count_30 (Nat.le_of_ble_eq_true rfl) h0 rfl (by decide) rfl ?_
          refine z_get dX6_count_76 rfl hiX6_count_X5 4 lkX6_count_82 (Nat.le_of_ble_eq_true rfl) h36 rfl (by decide) rfl ?_
          exact z_ireturn dX6_count_79 rfl rfl (Nat.le_refl _) (Nat.le_refl _) (fun _ => rfl) ⟨by simp only [X6_count_v, if_neg q1_0, if_neg q1_1, if_neg q1_2, if_pos q1_3], rfl⟩
        · by_cases q1_4 : w = nI 4
          · refine z_tableIn (off := 79) (tgt := 80) dX6_count_1 (by rw [q1_4]; decide) (by rw [q1_4]; decide) (by rw [q1_4]; decide) (by decide) ?_
            refine z_aload_n dX6_count_80 rfl rfl ?_
            refine z_get dX6_count_81 rfl hiX6_count_X6 6 lkX6_count_46 (Nat.le_of_ble_eq_true rfl) h0 rfl (by decide) rfl ?_
            refine z_get dX6_count_84 rfl hiX6_count_X0 0 lkX6_count_85 (Nat.le_of_ble_eq_true rfl) h59 rfl (by decide) rfl ?_
            exact z_ireturn dX6_count_87 rfl rfl (Nat.le_refl _) (Nat.le_refl _) (fun _ => rfl) ⟨by simp only [X6_count_v, if_neg q1_0, if_neg q1_1, if_neg q1_2, if_neg q1_3, if_pos q1_4], rfl⟩
          · by_cases q1_5 : w = nI 5
            · refine z_tableIn (off := 87) (tgt := 88) dX6_count_1 (by rw [q1_5]; decide) (by rw [q1_5]; decide) (by rw [q1_5]; decide) (by decide) ?_
              refine z_aload_n dX6_count_88 rfl rfl ?_
              refine z_get dX6_count_89 rfl hiX6_count_X6 5 lkX6_count_39 (Nat.le_of_ble_eq_true rfl) h0 rfl (by decide) rfl ?_
              refine z_get dX6_count_92 rfl hiX6_count_X3 2 lkX6_count_88 (Nat.le_of_ble_eq_true rfl) h40 rfl (by decide) rfl ?_
              exact z_ireturn dX6_count_95 rfl rfl (Nat.le_refl _) (Nat.le_refl _) (fun _ => rfl) ⟨by simp only [X6_count_v, if_neg q1_0, if_neg q1_1, if_neg q1_2, if_neg q1_3, if_neg q1_4, if_pos q1_5], rfl⟩
            · by_cases q1_6 : w = nI 6
              · refine z_tableIn (off := 95) (tgt := 96) dX6_count_1 (by rw [q1_6]; decide) (by rw [q1_6]; decide) (by rw [q1_6]; decide) (by decide) ?_
                refine z_aload_n dX6_count_96 rfl rfl ?_
                refine z_get dX6_count_97 rfl hiX6_count_X6 1 lkX6_count_13 (Nat.le_of_ble_eq_true rfl) h0 rfl (by decide) rfl ?_
                exact z_ireturn dX6_count_100 rfl rfl (Nat.le_refl _) (Nat.le_refl _) (fun _ => rfl) ⟨by simp only [X6_count_v, if_neg q1_0, if_neg q1_1, if_neg q1_2, if_neg q1_3, if_neg q1_4, if_neg q1_5, if_pos q1_6], rfl⟩
              · by_cases q1_7 : w = nI 7
                · refine z_tableIn (off := 100) (tgt := 101) dX6_count_1 (by rw [q1_7]; decide) (by rw [q1_7]; decide) (by rw [q1_7]; decide) (by decide) ?_
                  refine z_aload_n dX6_count_101 rfl rfl ?_
                  refine z_get dX6_count_102 rfl hiX6_count_X6 6 lkX6_count_46 (Nat.le_of_ble_eq_true rfl) h0 rfl (by decide) rfl ?_
                  refine z_get dX6_count_105 rfl hiX6_count_X0 1 lkX6_count_91 (Nat.le_of_ble_eq_true rfl) h59 rfl (by decide) rfl ?_
                  exact z_ireturn dX6_count_108 rfl rfl (Nat.le_refl _) (Nat.le_refl _) (fun _ => rfl) ⟨by simp only [X6_count_v, if_neg q1_0, if_neg q1_1, if_neg q1_2, if_neg q1_3, if_neg q1_4, if_neg q1_5, if_neg q1_6, if_pos q1_7], rfl⟩
                · refine z_tableOut (tgt := 109) dX6_count_1 (by
                    refine zsw_out (n := 7) ?_
                    intro k hk
                    rcases (show k = 0 ∨ k = 1 ∨ k = 2 ∨ k = 3 ∨ k = 4 ∨ k = 5 ∨ k = 6 ∨ k = 7 by omega) with rfl | rfl | rfl | rfl | rfl | rfl | rfl | rfl
                    · exact q1_0
                    · exact q1_1
                    · exact q1_2
                    · exact q1_3
                    · exact q1_4
                    · exact q1_5
                    · exact q1_6
                    · exact q1_7) (by decide) ?_
                  refine z_bipush (v := (-9)) dX6_count_109 rfl (by decide) ?_
                  exact z_ireturn dX6_count_111 rfl rfl (Nat.le_refl _) (Nat.le_refl _) (fun _ => rfl) ⟨by simp only [X6_count_v, if_neg q1_0, if_neg q1_1, if_neg q1_2, if_neg q1_3, if_neg q1_4, if_neg q1_5, if_neg q1_6, if_neg q1_7], rfl⟩
abbrev mX6_line : zM := (cX6_line, 5, (some .int), RX6, wsX6_line, "line")
theorem hiX6_line_X6 : ∀ w ∈ wsX60, w ∈ wsX6_line := fun w h => List.mem_cons_of_mem _ (List.mem_append_left _ (List.mem_append_right _ h))
theorem lkX6_line_20 : Cond.fieldLink RX6 20 "ConfigSearch" "text" "LConfigSearch$Text;" ∈ wsX6_line := by decide +kernel
theorem okk_X4_hasLine : zOk yX4_hasLine 1 := by unfold zOk; decide +kernel
theorem hiX6_line_X4 : ∀ w ∈ wsX40, w ∈ wsX6_line := fun w h => List.mem_cons_of_mem _ (List.mem_append_right _ h)
theorem lkX6_line_98 : Cond.fieldLink RX6 98 "ConfigSearch$Text" "size" "[I" ∈ wsX6_line := by decide +kernel
theorem lkX6_line_101 : Cond.fieldLink RX6 101 "ConfigSearch$Text" "word" "[[I" ∈ wsX6_line := by decide +kernel
theorem lkX6_line_105 : Cond.fieldLink RX6 105 "ConfigSearch$Text" "letterOf" "[I" ∈ wsX6_line := by decide +kernel
def X6_line_v (lns : Nat) (lo sz : Nat → Int32) (wd : Nat → Nat → Int32) (l i z : Int32) : Int32 := if (X4_hasLine_v lns l) = 0 then (-9) else (if 0 ≤ i then (if i < (sz l.toNatClampNeg) then (if z = 0 then ((wd l.toNatClampNeg) i.toNatClampNeg) else (lo ((wd l.toNatClampNeg) i.toNatClampNeg).toNatClampNeg)) else (-4)) else (-9))
set_option maxRecDepth 100000 in
set_option maxHeartbeats 4000000 in
theorem c_X6_line_2 (G : zG) (ex : Bool) (g : Nat → va_E) (pts lns ltr : Nat) (inw : Int32) (ont : Nat) (lo sz : Nat → Int32) (wd : Nat → Nat → Int32) (l i z : Int32) (hl : lns ≤ 12) (hsz : ∀ l, l < lns → vp_in (sz l) 6) (hwd : ∀ l, l < lns → ∀ j, j < (sz l).toNatClampNeg → vp_in (wd l j) 10) (h0 : g 0 = (oCfg G 2 19 (nI ont))) (h2 : g 2 = (oTxt G 2 (nI pts) (nI lns) (nI ltr) inw)) (h3 : g 3 = (zI G 10 lo)) (h4 : g 4 = (zI G 12 sz)) (h5 : g 5 = (zR G 12 (zrw G 12 6))) (h6 : ∀ l9, l9 < 12 → g (6 + l9) = zI G 5 (wd l9)) : zC G yX6_line wsX6_line (zrm 1 21) ex [.ref (zB G + 0), .int l, .int i, .int z] (zN, g) (fun r h => r = some (.int (X6_line_v lns lo sz wd l i z)) ∧ h = (zN, g)) := by
  refine zC_of mX6_line (lv := [some (.ref (zB G + 0)), some (.int l), some (.int i), some (.int z), none]) rfl rfl (by decide) (by intro v hv; simp at hv; rcases hv with rfl | rfl | rfl | rfl <;> rfl) (Nat.le_of_ble_eq_true rfl) rfl ?_
  refine z_0 ?_
  refine z_aload_n dX6_line_0 rfl rfl ?_
  refine z_get dX6_line_1 rfl hiX6_line_X6 2 lkX6_line_20 (Nat.le_of_ble_eq_true rfl) h0 rfl (by decide) rfl ?_
  refine z_iload_n dX6_line_4 rfl rfl ?_
  refine z_callVi (c_X4_hasLine_2 G ex _ pts lns ltr inw l h2) gX6_line_X4_hasLine rfl dX6_line_5 rfl rfl rfl okk_X4_hasLine (Nat.le_of_ble_eq_true rfl) h2 rfl ⟨Nat.le_of_ble_eq_true rfl, Nat.le_of_ble_eq_true rfl⟩ ⟨Nat.le_of_ble_eq_true rfl, Nat.le_of_ble_eq_true rfl⟩ (Nat.le_of_ble_eq_true rfl) ?_
  refine z_if_eq (tgt := 15) dX6_line_8 rfl (by decide) (fun c8 => ?_) (fun c8 => ?_)
  · refine z_bipush (v := (-9)) dX6_line_15 rfl (by decide) ?_
    exact z_ireturn dX6_line_17 rfl rfl (Nat.le_refl _) (Nat.le_refl _) (fun _ => rfl) ⟨by simp only [X6_line_v, if_pos c8], rfl⟩
  · refine z_iload_n dX6_line_11 rfl rfl ?_
    refine z_if_ge (tgt := 18) dX6_line_12 rfl (by decide) (fun c12 => ?_) (fun c12 => ?_)
    · have hvl : vp_in l lns := hasLine_in c8 hl
      have hll := zvlt hvl
      refine z_lv (congrArg (fun z9 : Int32 => ([some (.ref (zB G + 0)), some (.int z9), some (.int i), some (.int z), none] : List (Option Value))) (show l = (nI l.toNatClampNeg) from zvin hvl)) ?_
      refine z_iload_n dX6_line_18 rfl rfl ?_
      refine z_aload_n dX6_line_19 rfl rfl ?_
      refine z_get dX6_line_20 rfl hiX6_line_X6 2 lkX6_line_20 (Nat.le_of_ble_eq_true rfl) h0 rfl (by decide) rfl ?_
      refine z_get dX6_line_23 rfl hiX6_line_X4 4 lkX6_line_98 (Nat.le_of_ble_eq_true rfl) h2 rfl (by decide) rfl ?_
      refine z_iload_n dX6_line_26 rfl rfl ?_
      refine z_ialdN (j := l.toNatClampNeg) dX6_line_27 rfl (Nat.le_of_ble_eq_true rfl) h4 (rfl) (by omega) (by decide) ?_
      refine z_icmp_lt (tgt := 34) dX6_line_28 rfl (by decide) (fun c28 => ?_) (fun c28 => ?_)
      · have hsi := hsz _ hll
        have hvi : vp_in i ((sz l.toNatClampNeg).toNatClampNeg) := zlt_in (Int32.not_lt.mpr c12) (fun q => absurd c28 (Int32.not_lt.mpr (by rw [zvin hsi]; exact q))) (by have := zvlt hsi; omega)
        have hii := zvlt hvi
        have hs6 := zvlt hsi
        refine z_lv (congrArg (fun z9 : Int32 => ([some (.ref (zB G + 0)), some (.int (nI l.toNatClampNeg)), some (.int z9), some (.int z), none] : List (Option Value))) (show i = (nI i.toNatClampNeg) from zvin hvi)) ?_
        refine z_aload_n dX6_line_34 rfl rfl ?_
        refine z_get dX6_line_35 rfl hiX6_line_X6 2 lkX6_line_20 (Nat.le_of_ble_eq_true rfl) h0 rfl (by decide) rfl ?_
        refine z_get dX6_line_38 rfl hiX6_line_X4 5 lkX6_line_101 (Nat.le_of_ble_eq_true rfl) h2 rfl (by decide) rfl ?_
        refine z_iload_n dX6_line_41 rfl rfl ?_
        refine z_aaldN (j := l.toNatClampNeg) (a := zB G + (6 + l.toNatClampNeg)) dX6_line_42 rfl (Nat.le_of_ble_eq_true rfl) h5 (rfl) (by omega) (by decide) (zrw_at (by omega)) ?_
        refine z_iload_n dX6_line_43 rfl rfl ?_
        refine z_ialdN (j := i.toNatClampNeg) dX6_line_44 rfl (zk12 (by omega) (by decide)) (h6 _ (by omega)) (rfl) (by omega) (by decide) ?_
        refine z_istore_4 dX6_line_45 rfl ?_
        refine z_iload_n dX6_line_47 rfl rfl ?_
        refine z_if_eq (tgt := 64) dX6_line_48 rfl (by decide) (fun c48 => ?_) (fun c48 => ?_)
        · refine z_iload dX6_line_64 rfl rfl ?_
          exact z_ireturn dX6_line_66 rfl rfl (Nat.le_refl _) (Nat.le_refl _) (fun _ => rfl) ⟨by simp only [X6_line_v, if_neg c8, if_pos c12, if_pos c28, if_pos c48], rfl⟩
        · refine z_aload_n dX6_line_51 rfl rfl ?_
          refine z_get dX6_line_52 rfl hiX6_line_X6 2 lkX6_line_20 (Nat.le_of_ble_eq_true rfl) h0 rfl (by decide) rfl ?_
          refine z_get dX6_line_55 rfl hiX6_line_X4 3 lkX6_line_105 (Nat.le_of_ble_eq_true rfl) h2 rfl (by decide) rfl ?_
          refine z_iload dX6_line_58 rfl rfl ?_
          refine z_iald dX6_line_60 rfl (Nat.le_of_ble_eq_true rfl) h3 (hwd _ hll _ hii) ?_
          refine z_goto (tgt := 66) dX6_line_61 (by decide) ?_
          exact z_ireturn dX6_line_66 rfl rfl (Nat.le_refl _) (Nat.le_refl _) (fun _ => rfl) ⟨by simp only [X6_line_v, if_neg c8, if_pos c12, if_pos c28, if_neg c48], rfl⟩
      · refine z_bipush (v := (-4)) dX6_line_31 rfl (by decide) ?_
        exact z_ireturn dX6_line_33 rfl rfl (Nat.le_refl _) (Nat.le_refl _) (fun _ => rfl) ⟨by simp only [X6_line_v, if_neg c8, if_pos c12, if_neg c28], rfl⟩
    · refine z_bipush (v := (-9)) dX6_line_15 rfl (by decide) ?_
      exact z_ireturn dX6_line_17 rfl rfl (Nat.le_refl _) (Nat.le_refl _) (fun _ => rfl) ⟨by simp only [X6_line_v, if_neg c8, if_neg c12], rfl⟩
abbrev mX6_bar : zM := (cX6_bar, 5, (some .int), RX6, wsX6_bar, "bar")
theorem hiX6_bar_X6 : ∀ w ∈ wsX60, w ∈ wsX6_bar := fun w h => List.mem_cons_of_mem _ (List.mem_append_left _ (List.mem_append_left _ (List.mem_append_right _ h)))
theorem lkX6_bar_20 : Cond.fieldLink RX6 20 "ConfigSearch" "text" "LConfigSearch$Text;" ∈ wsX6_bar := by decide +kernel
theorem okk_X4_isTriple : zOk yX4_isTriple 3 := by unfold zOk; decide +kernel
theorem lkX6_bar_30 : Cond.fieldLink RX6 30 "ConfigSearch" "told" "LConfigSearch$Told;" ∈ wsX6_bar := by decide +kernel
theorem hiX6_bar_X5 : ∀ w ∈ wsX50, w ∈ wsX6_bar := fun w h => List.mem_cons_of_mem _ (List.mem_append_left _ (List.mem_append_right _ h))
theorem lkX6_bar_116 : Cond.fieldLink RX6 116 "ConfigSearch$Told" "flat" "[Z" ∈ wsX6_bar := by decide +kernel
theorem okk_X5_addBarred : zOk yX5_addBarred 1 := by unfold zOk; decide +kernel
def X6_bar_v (pts : Nat) (bo : Int32) (fl ba : Nat → Int32) (a b c : Int32) : Int32 := if (X4_isTriple_v pts a b c) = 0 then (-9) else (if (fl (spN a.toNatClampNeg b.toNatClampNeg c.toNatClampNeg)) = 0 then (X5_addBarred_v bo ba (spN a.toNatClampNeg b.toNatClampNeg c.toNatClampNeg)) else (-2))
def X6_bar_p36_0 (pts : Nat) (bo : Int32) (fl ba : Nat → Int32) (a b c : Int32) : Int32 := if (X4_isTriple_v pts a b c) = 0 then bo else (if (fl (spN a.toNatClampNeg b.toNatClampNeg c.toNatClampNeg)) = 0 then (X5_addBarred_p36_0 bo ba (spN a.toNatClampNeg b.toNatClampNeg c.toNatClampNeg)) else bo)
def X6_bar_c38 (pts : Nat) (bo : Int32) (fl ba : Nat → Int32) (a b c : Int32) : Nat → Int32 := if (X4_isTriple_v pts a b c) = 0 then ba else (if (fl (spN a.toNatClampNeg b.toNatClampNeg c.toNatClampNeg)) = 0 then (X5_addBarred_c38 bo ba (spN a.toNatClampNeg b.toNatClampNeg c.toNatClampNeg)) else ba)
set_option maxRecDepth 100000 in
set_option maxHeartbeats 4000000 in
theorem c_X6_bar_2 (G : zG) (ex : Bool) (g : Nat → va_E) (pts lns ltr : Nat) (inw : Int32) (ont : Nat) (bo oo : Int32) (fl ba ori : Nat → Int32) (a b c : Int32) (hp : pts ≤ 10) (h0 : g 0 = (oCfg G 2 19 (nI ont))) (h2 : g 2 = (oTxt G 2 (nI pts) (nI lns) (nI ltr) inw)) (h36 : g 36 = (oTld G bo oo)) (h37 : g 37 = (zZ G 120 fl)) (h38 : g 38 = (zZ G 120 ba)) (h39 : g 39 = (zI G 120 ori)) : zC G yX6_bar wsX6_bar (zrm 2 46) ex [.ref (zB G + 0), .int a, .int b, .int c] (zN, g) (fun r h => r = some (.int (X6_bar_v pts bo fl ba a b c)) ∧ h = (zN, zus g [(36, (oTld G (X6_bar_p36_0 pts bo fl ba a b c) oo)), (38, zZ G 120 (X6_bar_c38 pts bo fl ba a b c))])) := by
  refine zC_of mX6_bar (lv := [some (.ref (zB G + 0)), some (.int a), some (.int b), some (.int c), none]) rfl rfl (by decide) (by intro v hv; simp at hv; rcases hv with rfl | rfl | rfl | rfl <;> rfl) (Nat.le_of_ble_eq_true rfl) rfl ?_
  refine z_0 ?_
  refine z_heap (g' := zu (zus g []) 36 (oTld G bo oo)) (zu_self (zus g []) 36 _ h36).symm ?_
  refine z_n (L' := [(36, (oTld G bo oo))]) rfl ?_
  refine z_heap (g' := zu (zus g [(36, (oTld G bo oo))]) 38 (zZ G 120 ba)) (zu_self (zus g [(36, (oTld G bo oo))]) 38 _ h38).symm ?_
  refine z_n (L' := [(36, (oTld G bo oo)), (38, (zZ G 120 ba))]) rfl ?_
  refine z_aload_n dX6_bar_0 rfl rfl ?_
  refine z_get dX6_bar_1 rfl hiX6_bar_X6 2 lkX6_bar_20 (Nat.le_of_ble_eq_true rfl) h0 rfl (by decide) rfl ?_
  refine z_iload_n dX6_bar_4 rfl rfl ?_
  refine z_iload_n dX6_bar_5 rfl rfl ?_
  refine z_iload_n dX6_bar_6 rfl rfl ?_
  refine z_callVi (c_X4_isTriple_2 G ex _ pts lns ltr inw a b c h2) gX6_bar_X4_isTriple rfl dX6_bar_7 rfl rfl rfl okk_X4_isTriple (Nat.le_of_ble_eq_true rfl) h2 rfl ⟨Nat.le_of_ble_eq_true rfl, Nat.le_of_ble_eq_true rfl⟩ ⟨Nat.le_of_ble_eq_true rfl, Nat.le_of_ble_eq_true rfl⟩ (Nat.le_of_ble_eq_true rfl) ?_
  refine z_if_ne (tgt := 16) dX6_bar_10 rfl (by decide) (fun c10 => ?_) (fun c10 => ?_)
  · obtain ⟨hva, hvb, hvc, hab, hac, hbc⟩ := isTriple_in c10 hp
    have hla := zvlt hva
    have hlb := zvlt hvb
    have hlc := zvlt hvc
    have nab := vp_ne hva hvb hab
    have nac := vp_ne hva hvc hac
    have nbc := vp_ne hvb hvc hbc
    have hsp : spN a.toNatClampNeg b.toNatClampNeg c.toNatClampNeg < 120 := spN_lt (by omega) (by omega) (by omega) nab nac nbc
    refine z_lv (congrArg (fun z9 : Int32 => ([some (.ref (zB G + 0)), some (.int z9), some (.int b), some (.int c), none] : List (Option Value))) (show a = (nI a.toNatClampNeg) from zvin hva)) ?_
    refine z_lv (congrArg (fun z9 : Int32 => ([some (.ref (zB G + 0)), some (.int (nI a.toNatClampNeg)), some (.int z9), some (.int c), none] : List (Option Value))) (show b = (nI b.toNatClampNeg) from zvin hvb)) ?_
    refine z_lv (congrArg (fun z9 : Int32 => ([some (.ref (zB G + 0)), some (.int (nI a.toNatClampNeg)), some (.int (nI b.toNatClampNeg)), some (.int z9), none] : List (Option Value))) (show c = (nI c.toNatClampNeg) from zvin hvc)) ?_
    refine z_iload_n dX6_bar_16 rfl rfl ?_
    refine z_iload_n dX6_bar_17 rfl rfl ?_
    refine z_iload_n dX6_bar_18 rfl rfl ?_
    refine z_callSi (c_X5_spotOf_N G ex _ a.toNatClampNeg b.toNatClampNeg c.toNatClampNeg (by omega) (by omega) (by omega)) gX6_bar_X5_spotOf rfl dX6_bar_19 rfl rfl okk_X5_spotOf ⟨Nat.le_of_ble_eq_true rfl, Nat.le_of_ble_eq_true rfl⟩ ⟨Nat.le_of_ble_eq_true rfl, Nat.le_of_ble_eq_true rfl⟩ (Nat.le_of_ble_eq_true rfl) ?_
    refine z_istore_4 dX6_bar_22 rfl ?_
    refine z_aload_n dX6_bar_24 rfl rfl ?_
    refine z_get dX6_bar_25 rfl hiX6_bar_X6 4 lkX6_bar_30 (Nat.le_of_ble_eq_true rfl) h0 rfl (by decide) rfl ?_
    refine z_get dX6_bar_28 rfl hiX6_bar_X5 0 lkX6_bar_116 (Nat.le_of_ble_eq_true rfl) rfl rfl (by decide) rfl ?_
    refine z_iload dX6_bar_31 rfl rfl ?_
    refine z_zaldN (j := spN a.toNatClampNeg b.toNatClampNeg c.toNatClampNeg) dX6_bar_33 rfl (Nat.le_of_ble_eq_true rfl) h37 (rfl) (by omega) (by decide) ?_
    refine z_if_eq (tgt := 40) dX6_bar_34 rfl (by decide) (fun c34 => ?_) (fun c34 => ?_)
    · refine z_aload_n dX6_bar_40 rfl rfl ?_
      refine z_get dX6_bar_41 rfl hiX6_bar_X6 4 lkX6_bar_30 (Nat.le_of_ble_eq_true rfl) h0 rfl (by decide) rfl ?_
      refine z_iload dX6_bar_44 rfl rfl ?_
      refine z_callVi (c_X5_addBarred G ex _ bo oo ba (spN a.toNatClampNeg b.toNatClampNeg c.toNatClampNeg) (by omega) rfl rfl) gX6_bar_X5_addBarred rfl dX6_bar_46 rfl rfl rfl okk_X5_addBarred (Nat.le_of_ble_eq_true rfl) rfl rfl ⟨Nat.le_of_ble_eq_true rfl, Nat.le_of_ble_eq_true rfl⟩ ⟨Nat.le_of_ble_eq_true rfl, Nat.le_of_ble_eq_true rfl⟩ (Nat.le_of_ble_eq_true rfl) ?_
      refine z_nn (L' := [(36, (oTld G (X5_addBarred_p36_0 bo ba (spN a.toNatClampNeg b.toNatClampNeg c.toNatClampNeg)) oo)), (38, (zZ G 120 (X5_addBarred_c38 bo ba (spN a.toNatClampNeg b.toNatClampNeg c.toNatClampNeg))))]) rfl ?_
      exact z_ireturn dX6_bar_49 rfl rfl (Nat.le_refl _) (Nat.le_refl _) (fun _ => rfl) ⟨by simp only [X6_bar_v, if_neg c10, if_pos c34], by simp only [X6_bar_p36_0, X6_bar_c38, if_neg c10, if_pos c34]⟩
    · refine z_bipush (v := (-2)) dX6_bar_37 rfl (by decide) ?_
      exact z_ireturn dX6_bar_39 rfl rfl (Nat.le_refl _) (Nat.le_refl _) (fun _ => rfl) ⟨by simp only [X6_bar_v, if_neg c10, if_neg c34], by simp only [X6_bar_p36_0, X6_bar_c38, if_neg c10, if_neg c34]⟩
  · refine z_bipush (v := (-9)) dX6_bar_13 rfl (by decide) ?_
    exact z_ireturn dX6_bar_15 rfl rfl (Nat.le_refl _) (Nat.le_refl _) (fun _ => rfl) ⟨by simp only [X6_bar_v, if_pos c10], by simp only [X6_bar_p36_0, X6_bar_c38, if_pos c10]⟩
abbrev mX6_orient : zM := (cX6_orient, 7, (some .int), RX6, wsX6_orient, "orient")
theorem hiX6_orient_X6 : ∀ w ∈ wsX60, w ∈ wsX6_orient := fun w h => List.mem_cons_of_mem _ (List.mem_append_left _ (List.mem_append_left _ (List.mem_append_right _ h)))
theorem lkX6_orient_20 : Cond.fieldLink RX6 20 "ConfigSearch" "text" "LConfigSearch$Text;" ∈ wsX6_orient := by decide +kernel
theorem lkX6_orient_30 : Cond.fieldLink RX6 30 "ConfigSearch" "told" "LConfigSearch$Told;" ∈ wsX6_orient := by decide +kernel
theorem hiX6_orient_X5 : ∀ w ∈ wsX50, w ∈ wsX6_orient := fun w h => List.mem_cons_of_mem _ (List.mem_append_left _ (List.mem_append_right _ h))
theorem lkX6_orient_116 : Cond.fieldLink RX6 116 "ConfigSearch$Told" "flat" "[Z" ∈ wsX6_orient := by decide +kernel
theorem lkX6_orient_127 : Cond.fieldLink RX6 127 "ConfigSearch$Told" "oriented" "[I" ∈ wsX6_orient := by decide +kernel
theorem okk_X5_addOriented : zOk yX5_addOriented 2 := by unfold zOk; decide +kernel
def X6_orient_v (pts : Nat) (oo : Int32) (fl ori : Nat → Int32) (a b c s : Int32) : Int32 := if (X4_isTriple_v pts a b c) = 0 then (-9) else (if s = (nI 1) then (if (fl (spN a.toNatClampNeg b.toNatClampNeg c.toNatClampNeg)) = 0 then (if (ori (spN a.toNatClampNeg b.toNatClampNeg c.toNatClampNeg)) = (-(s * (X5_turnOf_v (nI a.toNatClampNeg) (nI b.toNatClampNeg) (nI c.toNatClampNeg)))) then (-2) else (X5_addOriented_v oo ori (spN a.toNatClampNeg b.toNatClampNeg c.toNatClampNeg))) else (-2)) else (if s = (-1) then (if (fl (spN a.toNatClampNeg b.toNatClampNeg c.toNatClampNeg)) = 0 then (if (ori (spN a.toNatClampNeg b.toNatClampNeg c.toNatClampNeg)) = (-(s * (X5_turnOf_v (nI a.toNatClampNeg) (nI b.toNatClampNeg) (nI c.toNatClampNeg)))) then (-2) else (X5_addOriented_v oo ori (spN a.toNatClampNeg b.toNatClampNeg c.toNatClampNeg))) else (-2)) else (-9)))
def X6_orient_p36_1 (pts : Nat) (oo : Int32) (fl ori : Nat → Int32) (a b c s : Int32) : Int32 := if (X4_isTriple_v pts a b c) = 0 then oo else (if s = (nI 1) then (if (fl (spN a.toNatClampNeg b.toNatClampNeg c.toNatClampNeg)) = 0 then (if (ori (spN a.toNatClampNeg b.toNatClampNeg c.toNatClampNeg)) = (-(s * (X5_turnOf_v (nI a.toNatClampNeg) (nI b.toNatClampNeg) (nI c.toNatClampNeg)))) then oo else (X5_addOriented_p36_1 oo ori (spN a.toNatClampNeg b.toNatClampNeg c.toNatClampNeg))) else oo) else (if s = (-1) then (if (fl (spN a.toNatClampNeg b.toNatClampNeg c.toNatClampNeg)) = 0 then (if (ori (spN a.toNatClampNeg b.toNatClampNeg c.toNatClampNeg)) = (-(s * (X5_turnOf_v (nI a.toNatClampNeg) (nI b.toNatClampNeg) (nI c.toNatClampNeg)))) then oo else (X5_addOriented_p36_1 oo ori (spN a.toNatClampNeg b.toNatClampNeg c.toNatClampNeg))) else oo) else oo))
def X6_orient_c39 (pts : Nat) (oo : Int32) (fl ori : Nat → Int32) (a b c s : Int32) : Nat → Int32 := if (X4_isTriple_v pts a b c) = 0 then ori else (if s = (nI 1) then (if (fl (spN a.toNatClampNeg b.toNatClampNeg c.toNatClampNeg)) = 0 then (if (ori (spN a.toNatClampNeg b.toNatClampNeg c.toNatClampNeg)) = (-(s * (X5_turnOf_v (nI a.toNatClampNeg) (nI b.toNatClampNeg) (nI c.toNatClampNeg)))) then ori else (X5_addOriented_c39 oo ori (spN a.toNatClampNeg b.toNatClampNeg c.toNatClampNeg) (s * (X5_turnOf_v (nI a.toNatClampNeg) (nI b.toNatClampNeg) (nI c.toNatClampNeg))))) else ori) else (if s = (-1) then (if (fl (spN a.toNatClampNeg b.toNatClampNeg c.toNatClampNeg)) = 0 then (if (ori (spN a.toNatClampNeg b.toNatClampNeg c.toNatClampNeg)) = (-(s * (X5_turnOf_v (nI a.toNatClampNeg) (nI b.toNatClampNeg) (nI c.toNatClampNeg)))) then ori else (X5_addOriented_c39 oo ori (spN a.toNatClampNeg b.toNatClampNeg c.toNatClampNeg) (s * (X5_turnOf_v (nI a.toNatClampNeg) (nI b.toNatClampNeg) (nI c.toNatClampNeg))))) else ori) else ori))
set_option maxRecDepth 100000 in
set_option maxHeartbeats 4000000 in
theorem c_X6_orient_2 (G : zG) (ex : Bool) (g : Nat → va_E) (pts lns ltr : Nat) (inw : Int32) (ont : Nat) (bo oo : Int32) (fl ba ori : Nat → Int32) (a b c s : Int32) (hp : pts ≤ 10) (h0 : g 0 = (oCfg G 2 19 (nI ont))) (h2 : g 2 = (oTxt G 2 (nI pts) (nI lns) (nI ltr) inw)) (h36 : g 36 = (oTld G bo oo)) (h37 : g 37 = (zZ G 120 fl)) (h38 : g 38 = (zZ G 120 ba)) (h39 : g 39 = (zI G 120 ori)) : zC G yX6_orient wsX6_orient (zrm 2 46) ex [.ref (zB G + 0), .int a, .int b, .int c, .int s] (zN, g) (fun r h => r = some (.int (X6_orient_v pts oo fl ori a b c s)) ∧ h = (zN, zus g [(36, (oTld G bo (X6_orient_p36_1 pts oo fl ori a b c s))), (39, zI G 120 (X6_orient_c39 pts oo fl ori a b c s))])) := by
  refine zC_of mX6_orient (lv := [some (.ref (zB G + 0)), some (.int a), some (.int b), some (.int c), some (.int s), none, none]) rfl rfl (by decide) (by intro v hv; simp at hv; rcases hv with rfl | rfl | rfl | rfl | rfl <;> rfl) (Nat.le_of_ble_eq_true rfl) rfl ?_
  refine z_0 ?_
  refine z_heap (g' := zu (zus g []) 36 (oTld G bo oo)) (zu_self (zus g []) 36 _ h36).symm ?_
  refine z_n (L' := [(36, (oTld G bo oo))]) rfl ?_
  refine z_heap (g' := zu (zus g [(36, (oTld G bo oo))]) 39 (zI G 120 ori)) (zu_self (zus g [(36, (oTld G bo oo))]) 39 _ h39).symm ?_
  refine z_n (L' := [(36, (oTld G bo oo)), (39, (zI G 120 ori))]) rfl ?_
  refine z_aload_n dX6_orient_0 rfl rfl ?_
  refine z_get dX6_orient_1 rfl hiX6_orient_X6 2 lkX6_orient_20 (Nat.le_of_ble_eq_true rfl) h0 rfl (by decide) rfl ?_
  refine z_iload_n dX6_orient_4 rfl rfl ?_
  refine z_iload_n dX6_orient_5 rfl rfl ?_
  refine z_iload_n dX6_orient_6 rfl rfl ?_
  refine z_callVi (c_X4_isTriple_2 G ex _ pts lns ltr inw a b c h2) gX6_orient_X4_isTriple rfl dX6_orient_7 rfl rfl rfl okk_X4_isTriple (Nat.le_of_ble_eq_true rfl) h2 rfl ⟨Nat.le_of_ble_eq_true rfl, Nat.le_of_ble_eq_true rfl⟩ ⟨Nat.le_of_ble_eq_true rfl, Nat.le_of_ble_eq_true rfl⟩ (Nat.le_of_ble_eq_true rfl) ?_
  refine z_if_eq (tgt := 25) dX6_orient_10 rfl (by decide) (fun c10 => ?_) (fun c10 => ?_)
  · refine z_bipush (v := (-9)) dX6_orient_25 rfl (by decide) ?_
    exact z_ireturn dX6_orient_27 rfl rfl (Nat.le_refl _) (Nat.le_refl _) (fun _ => rfl) ⟨by simp only [X6_orient_v, if_pos c10], by simp only [X6_orient_p36_1, X6_orient_c39, if_pos c10]⟩
  · refine z_iload dX6_orient_13 rfl rfl ?_
    refine z_iconst (v := nI 1) dX6_orient_15 rfl (by decide) ?_
    refine z_icmp_eq (tgt := 28) dX6_orient_16 rfl (by decide) (fun c16 => ?_) (fun c16 => ?_)
    · obtain ⟨hva, hvb, hvc, hab, hac, hbc⟩ := isTriple_in c10 hp
      have hla := zvlt hva
      have hlb := zvlt hvb
      have hlc := zvlt hvc
      have nab := vp_ne hva hvb hab
      have nac := vp_ne hva hvc hac
      have nbc := vp_ne hvb hvc hbc
      have hsp : spN a.toNatClampNeg b.toNatClampNeg c.toNatClampNeg < 120 := spN_lt (by omega) (by omega) (by omega) nab nac nbc
      refine z_lv (congrArg (fun z9 : Int32 => ([some (.ref (zB G + 0)), some (.int z9), some (.int b), some (.int c), some (.int s), none, none] : List (Option Value))) (show a = (nI a.toNatClampNeg) from zvin hva)) ?_
      refine z_lv (congrArg (fun z9 : Int32 => ([some (.ref (zB G + 0)), some (.int (nI a.toNatClampNeg)), some (.int z9), some (.int c), some (.int s), none, none] : List (Option Value))) (show b = (nI b.toNatClampNeg) from zvin hvb)) ?_
      refine z_lv (congrArg (fun z9 : Int32 => ([some (.ref (zB G + 0)), some (.int (nI a.toNatClampNeg)), some (.int (nI b.toNatClampNeg)), some (.int z9), some (.int s), none, none] : List (Option Value))) (show c = (nI c.toNatClampNeg) from zvin hvc)) ?_
      refine z_iload_n dX6_orient_28 rfl rfl ?_
      refine z_iload_n dX6_orient_29 rfl rfl ?_
      refine z_iload_n dX6_orient_30 rfl rfl ?_
      refine z_callSi (c_X5_spotOf_N G ex _ a.toNatClampNeg b.toNatClampNeg c.toNatClampNeg (by omega) (by omega) (by omega)) gX6_orient_X5_spotOf rfl dX6_orient_31 rfl rfl okk_X5_spotOf ⟨Nat.le_of_ble_eq_true rfl, Nat.le_of_ble_eq_true rfl⟩ ⟨Nat.le_of_ble_eq_true rfl, Nat.le_of_ble_eq_true rfl⟩ (Nat.le_of_ble_eq_true rfl) ?_
      refine z_istore_5 dX6_orient_34 rfl ?_
      refine z_iload dX6_orient_36 rfl rfl ?_
      refine z_iload_n dX6_orient_38 rfl rfl ?_
      refine z_iload_n dX6_orient_39 rfl rfl ?_
      refine z_iload_n dX6_orient_40 rfl rfl ?_
      refine z_callSi (c_X5_turnOf G ex _ (nI a.toNatClampNeg) (nI b.toNatClampNeg) (nI c.toNatClampNeg)) gX6_orient_X5_turnOf rfl dX6_orient_41 rfl rfl okk_X5_turnOf ⟨Nat.le_of_ble_eq_true rfl, Nat.le_of_ble_eq_true rfl⟩ ⟨Nat.le_of_ble_eq_true rfl, Nat.le_of_ble_eq_true rfl⟩ (Nat.le_of_ble_eq_true rfl) ?_
      refine z_imul dX6_orient_44 rfl ?_
      refine z_istore_6 dX6_orient_45 rfl ?_
      refine z_aload_n dX6_orient_47 rfl rfl ?_
      refine z_get dX6_orient_48 rfl hiX6_orient_X6 4 lkX6_orient_30 (Nat.le_of_ble_eq_true rfl) h0 rfl (by decide) rfl ?_
      refine z_get dX6_orient_51 rfl hiX6_orient_X5 0 lkX6_orient_116 (Nat.le_of_ble_eq_true rfl) rfl rfl (by decide) rfl ?_
      refine z_iload dX6_orient_54 rfl rfl ?_
      refine z_zaldN (j := spN a.toNatClampNeg b.toNatClampNeg c.toNatClampNeg) dX6_orient_56 rfl (Nat.le_of_ble_eq_true rfl) h37 (rfl) (by omega) (by decide) ?_
      refine z_if_ne (tgt := 76) dX6_orient_57 rfl (by decide) (fun c57 => ?_) (fun c57 => ?_)
      · refine z_bipush (v := (-2)) dX6_orient_76 rfl (by decide) ?_
        exact z_ireturn dX6_orient_78 rfl rfl (Nat.le_refl _) (Nat.le_refl _) (fun _ => rfl) ⟨by simp only [X6_orient_v, if_neg c10, if_pos c16, if_neg c57], by simp only [X6_orient_p36_1, X6_orient_c39, if_neg c10, if_pos c16, if_neg c57]⟩
      · refine z_aload_n dX6_orient_60 rfl rfl ?_
        refine z_get dX6_orient_61 rfl hiX6_orient_X6 4 lkX6_orient_30 (Nat.le_of_ble_eq_true rfl) h0 rfl (by decide) rfl ?_
        refine z_get dX6_orient_64 rfl hiX6_orient_X5 2 lkX6_orient_127 (Nat.le_of_ble_eq_true rfl) rfl rfl (by decide) rfl ?_
        refine z_iload dX6_orient_67 rfl rfl ?_
        refine z_ialdN (j := spN a.toNatClampNeg b.toNatClampNeg c.toNatClampNeg) dX6_orient_69 rfl (Nat.le_of_ble_eq_true rfl) rfl (rfl) (by omega) (by decide) ?_
        refine z_iload dX6_orient_70 rfl rfl ?_
        refine z_ineg dX6_orient_72 rfl ?_
        refine z_icmp_ne (tgt := 79) dX6_orient_73 rfl (by decide) (fun c73 => ?_) (fun c73 => ?_)
        · refine z_aload_n dX6_orient_79 rfl rfl ?_
          refine z_get dX6_orient_80 rfl hiX6_orient_X6 4 lkX6_orient_30 (Nat.le_of_ble_eq_true rfl) h0 rfl (by decide) rfl ?_
          refine z_iload dX6_orient_83 rfl rfl ?_
          refine z_iload dX6_orient_85 rfl rfl ?_
          refine z_callVi (c_X5_addOriented G ex _ bo oo ori (spN a.toNatClampNeg b.toNatClampNeg c.toNatClampNeg) (s * (X5_turnOf_v (nI a.toNatClampNeg) (nI b.toNatClampNeg) (nI c.toNatClampNeg))) (by omega) rfl rfl) gX6_orient_X5_addOriented rfl dX6_orient_87 rfl rfl rfl okk_X5_addOriented (Nat.le_of_ble_eq_true rfl) rfl rfl ⟨Nat.le_of_ble_eq_true rfl, Nat.le_of_ble_eq_true rfl⟩ ⟨Nat.le_of_ble_eq_true rfl, Nat.le_of_ble_eq_true rfl⟩ (Nat.le_of_ble_eq_true rfl) ?_
          refine z_nn (L' := [(36, (oTld G bo (X5_addOriented_p36_1 oo ori (spN a.toNatClampNeg b.toNatClampNeg c.toNatClampNeg)))), (39, (zI G 120 (X5_addOriented_c39 oo ori (spN a.toNatClampNeg b.toNatClampNeg c.toNatClampNeg) (s * (X5_turnOf_v (nI a.toNatClampNeg) (nI b.toNatClampNeg) (nI c.toNatClampNeg))))))]) rfl ?_
          exact z_ireturn dX6_orient_90 rfl rfl (Nat.le_refl _) (Nat.le_refl _) (fun _ => rfl) ⟨by simp only [X6_orient_v, if_neg c10, if_pos c16, if_pos c57, if_neg c73], by simp only [X6_orient_p36_1, X6_orient_c39, if_neg c10, if_pos c16, if_pos c57, if_neg c73]⟩
        · refine z_bipush (v := (-2)) dX6_orient_76 rfl (by decide) ?_
          exact z_ireturn dX6_orient_78 rfl rfl (Nat.le_refl _) (Nat.le_refl _) (fun _ => rfl) ⟨by simp only [X6_orient_v, if_neg c10, if_pos c16, if_pos c57, if_pos c73], by simp only [X6_orient_p36_1, X6_orient_c39, if_neg c10, if_pos c16, if_pos c57, if_pos c73]⟩
    · refine z_iload dX6_orient_19 rfl rfl ?_
      refine z_iconst (v := (-1)) dX6_orient_21 rfl (by decide) ?_
      refine z_icmp_eq (tgt := 28) dX6_orient_22 rfl (by decide) (fun c22 => ?_) (fun c22 => ?_)
      · obtain ⟨hva, hvb, hvc, hab, hac, hbc⟩ := isTriple_in c10 hp
        have hla := zvlt hva
        have hlb := zvlt hvb
        have hlc := zvlt hvc
        have nab := vp_ne hva hvb hab
        have nac := vp_ne hva hvc hac
        have nbc := vp_ne hvb hvc hbc
        have hsp : spN a.toNatClampNeg b.toNatClampNeg c.toNatClampNeg < 120 := spN_lt (by omega) (by omega) (by omega) nab nac nbc
        refine z_lv (congrArg (fun z9 : Int32 => ([some (.ref (zB G + 0)), some (.int z9), some (.int b), some (.int c), some (.int s), none, none] : List (Option Value))) (show a = (nI a.toNatClampNeg) from zvin hva)) ?_
        refine z_lv (congrArg (fun z9 : Int32 => ([some (.ref (zB G + 0)), some (.int (nI a.toNatClampNeg)), some (.int z9), some (.int c), some (.int s), none, none] : List (Option Value))) (show b = (nI b.toNatClampNeg) from zvin hvb)) ?_
        refine z_lv (congrArg (fun z9 : Int32 => ([some (.ref (zB G + 0)), some (.int (nI a.toNatClampNeg)), some (.int (nI b.toNatClampNeg)), some (.int z9), some (.int s), none, none] : List (Option Value))) (show c = (nI c.toNatClampNeg) from zvin hvc)) ?_
        refine z_iload_n dX6_orient_28 rfl rfl ?_
        refine z_iload_n dX6_orient_29 rfl rfl ?_
        refine z_iload_n dX6_orient_30 rfl rfl ?_
        refine z_callSi (c_X5_spotOf_N G ex _ a.toNatClampNeg b.toNatClampNeg c.toNatClampNeg (by omega) (by omega) (by omega)) gX6_orient_X5_spotOf rfl dX6_orient_31 rfl rfl okk_X5_spotOf ⟨Nat.le_of_ble_eq_true rfl, Nat.le_of_ble_eq_true rfl⟩ ⟨Nat.le_of_ble_eq_true rfl, Nat.le_of_ble_eq_true rfl⟩ (Nat.le_of_ble_eq_true rfl) ?_
        refine z_istore_5 dX6_orient_34 rfl ?_
        refine z_iload dX6_orient_36 rfl rfl ?_
        refine z_iload_n dX6_orient_38 rfl rfl ?_
        refine z_iload_n dX6_orient_39 rfl rfl ?_
        refine z_iload_n dX6_orient_40 rfl rfl ?_
        refine z_callSi (c_X5_turnOf G ex _ (nI a.toNatClampNeg) (nI b.toNatClampNeg) (nI c.toNatClampNeg)) gX6_orient_X5_turnOf rfl dX6_orient_41 rfl rfl okk_X5_turnOf ⟨Nat.le_of_ble_eq_true rfl, Nat.le_of_ble_eq_true rfl⟩ ⟨Nat.le_of_ble_eq_true rfl, Nat.le_of_ble_eq_true rfl⟩ (Nat.le_of_ble_eq_true rfl) ?_
        refine z_imul dX6_orient_44 rfl ?_
        refine z_istore_6 dX6_orient_45 rfl ?_
        refine z_aload_n dX6_orient_47 rfl rfl ?_
        refine z_get dX6_orient_48 rfl hiX6_orient_X6 4 lkX6_orient_30 (Nat.le_of_ble_eq_true rfl) h0 rfl (by decide) rfl ?_
        refine z_get dX6_orient_51 rfl hiX6_orient_X5 0 lkX6_orient_116 (Nat.le_of_ble_eq_true rfl) rfl rfl (by decide) rfl ?_
        refine z_iload dX6_orient_54 rfl rfl ?_
        refine z_zaldN (j := spN a.toNatClampNeg b.toNatClampNeg c.toNatClampNeg) dX6_orient_56 rfl (Nat.le_of_ble_eq_true rfl) h37 (rfl) (by omega) (by decide) ?_
        refine z_if_ne (tgt := 76) dX6_orient_57 rfl (by decide) (fun c57 => ?_) (fun c57 => ?_)
        · refine z_bipush (v := (-2)) dX6_orient_76 rfl (by decide) ?_
          exact z_ireturn dX6_orient_78 rfl rfl (Nat.le_refl _) (Nat.le_refl _) (fun _ => rfl) ⟨by simp only [X6_orient_v, if_neg c10, if_neg c16, if_pos c22, if_neg c57], by simp only [X6_orient_p36_1, X6_orient_c39, if_neg c10, if_neg c16, if_pos c22, if_neg c57]⟩
        · refine z_aload_n dX6_orient_60 rfl rfl ?_
          refine z_get dX6_orient_61 rfl hiX6_orient_X6 4 lkX6_orient_30 (Nat.le_of_ble_eq_true rfl) h0 rfl (by decide) rfl ?_
          refine z_get dX6_orient_64 rfl hiX6_orient_X5 2 lkX6_orient_127 (Nat.le_of_ble_eq_true rfl) rfl rfl (by decide) rfl ?_
          refine z_iload dX6_orient_67 rfl rfl ?_
          refine z_ialdN (j := spN a.toNatClampNeg b.toNatClampNeg c.toNatClampNeg) dX6_orient_69 rfl (Nat.le_of_ble_eq_true rfl) rfl (rfl) (by omega) (by decide) ?_
          refine z_iload dX6_orient_70 rfl rfl ?_
          refine z_ineg dX6_orient_72 rfl ?_
          refine z_icmp_ne (tgt := 79) dX6_orient_73 rfl (by decide) (fun c73 => ?_) (fun c73 => ?_)
          · refine z_aload_n dX6_orient_79 rfl rfl ?_
            refine z_get dX6_orient_80 rfl hiX6_orient_X6 4 lkX6_orient_30 (Nat.le_of_ble_eq_true rfl) h0 rfl (by decide) rfl ?_
            refine z_iload dX6_orient_83 rfl rfl ?_
            refine z_iload dX6_orient_85 rfl rfl ?_
            refine z_callVi (c_X5_addOriented G ex _ bo oo ori (spN a.toNatClampNeg b.toNatClampNeg c.toNatClampNeg) (s * (X5_turnOf_v (nI a.toNatClampNeg) (nI b.toNatClampNeg) (nI c.toNatClampNeg))) (by omega) rfl rfl) gX6_orient_X5_addOriented rfl dX6_orient_87 rfl rfl rfl okk_X5_addOriented (Nat.le_of_ble_eq_true rfl) rfl rfl ⟨Nat.le_of_ble_eq_true rfl, Nat.le_of_ble_eq_true rfl⟩ ⟨Nat.le_of_ble_eq_true rfl, Nat.le_of_ble_eq_true rfl⟩ (Nat.le_of_ble_eq_true rfl) ?_
            refine z_nn (L' := [(36, (oTld G bo (X5_addOriented_p36_1 oo ori (spN a.toNatClampNeg b.toNatClampNeg c.toNatClampNeg)))), (39, (zI G 120 (X5_addOriented_c39 oo ori (spN a.toNatClampNeg b.toNatClampNeg c.toNatClampNeg) (s * (X5_turnOf_v (nI a.toNatClampNeg) (nI b.toNatClampNeg) (nI c.toNatClampNeg))))))]) rfl ?_
            exact z_ireturn dX6_orient_90 rfl rfl (Nat.le_refl _) (Nat.le_refl _) (fun _ => rfl) ⟨by simp only [X6_orient_v, if_neg c10, if_neg c16, if_pos c22, if_pos c57, if_neg c73], by simp only [X6_orient_p36_1, X6_orient_c39, if_neg c10, if_neg c16, if_pos c22, if_pos c57, if_neg c73]⟩
          · refine z_bipush (v := (-2)) dX6_orient_76 rfl (by decide) ?_
            exact z_ireturn dX6_orient_78 rfl rfl (Nat.le_refl _) (Nat.le_refl _) (fun _ => rfl) ⟨by simp only [X6_orient_v, if_neg c10, if_neg c16, if_pos c22, if_pos c57, if_pos c73], by simp only [X6_orient_p36_1, X6_orient_c39, if_neg c10, if_neg c16, if_pos c22, if_pos c57, if_pos c73]⟩
      · refine z_bipush (v := (-9)) dX6_orient_25 rfl (by decide) ?_
        exact z_ireturn dX6_orient_27 rfl rfl (Nat.le_refl _) (Nat.le_refl _) (fun _ => rfl) ⟨by simp only [X6_orient_v, if_neg c10, if_neg c16, if_neg c22], by simp only [X6_orient_p36_1, X6_orient_c39, if_neg c10, if_neg c16, if_neg c22]⟩
abbrev mX6_coordinate : zM := (cX6_coordinate, 3, (some .int), RX6, wsX6_coordinate, "coordinate")
theorem hiX6_coordinate_X6 : ∀ w ∈ wsX60, w ∈ wsX6_coordinate := fun w h => List.mem_cons_of_mem _ (List.mem_append_left _ (List.mem_append_left _ (List.mem_append_left _ (List.mem_append_right _ h))))
theorem lkX6_coordinate_20 : Cond.fieldLink RX6 20 "ConfigSearch" "text" "LConfigSearch$Text;" ∈ wsX6_coordinate := by decide +kernel
theorem lkX6_coordinate_39 : Cond.fieldLink RX6 39 "ConfigSearch" "search" "LConfigSearch$Search;" ∈ wsX6_coordinate := by decide +kernel
theorem hiX6_coordinate_X3 : ∀ w ∈ wsX30, w ∈ wsX6_coordinate := fun w h => List.mem_cons_of_mem _ (List.mem_append_left _ (List.mem_append_left _ (List.mem_append_right _ h)))
theorem lkX6_coordinate_143 : Cond.fieldLink RX6 143 "ConfigSearch$Search" "found" "Z" ∈ wsX6_coordinate := by decide +kernel
theorem okk_X3_numberOf : zOk yX3_numberOf 2 := by unfold zOk; decide +kernel
def X6_coordinate_v (pts : Nat) (fnd : Int32) (n0 n1 n2 : Nat → Int32) (plc : Nat → Int32) (p i : Int32) : Int32 := if (X4_hasPoint_v pts p) = 0 then (-9) else (if i < 0 then (-9) else (if i ≤ (nI 3) then (if fnd = 0 then (-2) else (numN n0 n1 n2 plc p.toNatClampNeg i.toNatClampNeg)) else (-9)))
set_option maxRecDepth 100000 in
set_option maxHeartbeats 4000000 in
theorem c_X6_coordinate_2 (G : zG) (ex : Bool) (g : Nat → va_E) (pts lns ltr : Nat) (inw : Int32) (ont : Nat) (fnd : Int32) (stp : Nat) (fd psz : Nat) (n0 n1 n2 : Nat → Int32) (plc : Nat → Int32) (p i : Int32) (hp : pts ≤ 10) (hpc : ¬ fnd = 0 → ∀ k, k < pts → vp_in (plc k) 183) (h0 : g 0 = (oCfg G 2 19 (nI ont))) (h2 : g 2 = (oTxt G 2 (nI pts) (nI lns) (nI ltr) inw)) (h40 : g 40 = (oSch G fnd (nI stp))) (h41 : g 41 = (oPln G (nI fd) (nI psz))) (h42 : g 42 = (zR G 3 (zrw G 3 43))) (h43 : g 43 = (zI G 183 n0)) (h44 : g 44 = (zI G 183 n1)) (h45 : g 45 = (zI G 183 n2)) (h46 : g 46 = (zI G 10 plc)) : zC G yX6_coordinate wsX6_coordinate (zrm 1 23) ex [.ref (zB G + 0), .int p, .int i] (zN, g) (fun r h => r = some (.int (X6_coordinate_v pts fnd n0 n1 n2 plc p i)) ∧ h = (zN, g)) := by
  refine zC_of mX6_coordinate (lv := [some (.ref (zB G + 0)), some (.int p), some (.int i)]) rfl rfl (by decide) (by intro v hv; simp at hv; rcases hv with rfl | rfl | rfl <;> rfl) (Nat.le_of_ble_eq_true rfl) rfl ?_
  refine z_0 ?_
  refine z_aload_n dX6_coordinate_0 rfl rfl ?_
  refine z_get dX6_coordinate_1 rfl hiX6_coordinate_X6 2 lkX6_coordinate_20 (Nat.le_of_ble_eq_true rfl) h0 rfl (by decide) rfl ?_
  refine z_iload_n dX6_coordinate_4 rfl rfl ?_
  refine z_callVi (c_X4_hasPoint_2 G ex _ pts lns ltr inw p h2) gX6_coordinate_X4_hasPoint rfl dX6_coordinate_5 rfl rfl rfl okk_X4_hasPoint (Nat.le_of_ble_eq_true rfl) h2 rfl ⟨Nat.le_of_ble_eq_true rfl, Nat.le_of_ble_eq_true rfl⟩ ⟨Nat.le_of_ble_eq_true rfl, Nat.le_of_ble_eq_true rfl⟩ (Nat.le_of_ble_eq_true rfl) ?_
  refine z_if_eq (tgt := 20) dX6_coordinate_8 rfl (by decide) (fun c8 => ?_) (fun c8 => ?_)
  · refine z_bipush (v := (-9)) dX6_coordinate_20 rfl (by decide) ?_
    exact z_ireturn dX6_coordinate_22 rfl rfl (Nat.le_refl _) (Nat.le_refl _) (fun _ => rfl) ⟨by simp only [X6_coordinate_v, if_pos c8], rfl⟩
  · refine z_iload_n dX6_coordinate_11 rfl rfl ?_
    refine z_if_lt (tgt := 20) dX6_coordinate_12 rfl (by decide) (fun c12 => ?_) (fun c12 => ?_)
    · refine z_bipush (v := (-9)) dX6_coordinate_20 rfl (by decide) ?_
      exact z_ireturn dX6_coordinate_22 rfl rfl (Nat.le_refl _) (Nat.le_refl _) (fun _ => rfl) ⟨by simp only [X6_coordinate_v, if_neg c8, if_pos c12], rfl⟩
    · refine z_iload_n dX6_coordinate_15 rfl rfl ?_
      refine z_iconst (v := nI 3) dX6_coordinate_16 rfl (by decide) ?_
      refine z_icmp_le (tgt := 23) dX6_coordinate_17 rfl (by decide) (fun c17 => ?_) (fun c17 => ?_)
      · refine z_aload_n dX6_coordinate_23 rfl rfl ?_
        refine z_get dX6_coordinate_24 rfl hiX6_coordinate_X6 5 lkX6_coordinate_39 (Nat.le_of_ble_eq_true rfl) h0 rfl (by decide) rfl ?_
        refine z_get dX6_coordinate_27 rfl hiX6_coordinate_X3 1 lkX6_coordinate_143 (Nat.le_of_ble_eq_true rfl) h40 rfl (by decide) rfl ?_
        refine z_if_ne (tgt := 36) dX6_coordinate_30 rfl (by decide) (fun c30 => ?_) (fun c30 => ?_)
        · have hvp : vp_in p pts := hasPoint_in c8 hp
          have hlp := zvlt hvp
          have hvi : vp_in i 4 := zle_in c12 c17 (by decide)
          have hli := zvlt hvi
          refine z_lv (congrArg (fun z9 : Int32 => ([some (.ref (zB G + 0)), some (.int z9), some (.int i)] : List (Option Value))) (show p = (nI p.toNatClampNeg) from zvin hvp)) ?_
          refine z_lv (congrArg (fun z9 : Int32 => ([some (.ref (zB G + 0)), some (.int (nI p.toNatClampNeg)), some (.int z9)] : List (Option Value))) (show i = (nI i.toNatClampNeg) from zvin hvi)) ?_
          refine z_aload_n dX6_coordinate_36 rfl rfl ?_
          refine z_get dX6_coordinate_37 rfl hiX6_coordinate_X6 5 lkX6_coordinate_39 (Nat.le_of_ble_eq_true rfl) h0 rfl (by decide) rfl ?_
          refine z_iload_n dX6_coordinate_40 rfl rfl ?_
          refine z_iload_n dX6_coordinate_41 rfl rfl ?_
          refine z_callVi (c_X3_numberOf_N G ex _ fnd (nI stp) (nI fd) psz n0 n1 n2 plc p.toNatClampNeg i.toNatClampNeg (by omega) (by omega) (hpc c30 _ hlp) h40 h41 h42 h43 h44 h45 h46) gX6_coordinate_X3_numberOf rfl dX6_coordinate_42 rfl rfl rfl okk_X3_numberOf (Nat.le_of_ble_eq_true rfl) h40 rfl ⟨Nat.le_of_ble_eq_true rfl, Nat.le_of_ble_eq_true rfl⟩ ⟨Nat.le_of_ble_eq_true rfl, Nat.le_of_ble_eq_true rfl⟩ (Nat.le_of_ble_eq_true rfl) ?_
          exact z_ireturn dX6_coordinate_45 rfl rfl (Nat.le_refl _) (Nat.le_refl _) (fun _ => rfl) ⟨by simp only [X6_coordinate_v, if_neg c8, if_neg c12, if_pos c17, if_neg c30], rfl⟩
        · refine z_bipush (v := (-2)) dX6_coordinate_33 rfl (by decide) ?_
          exact z_ireturn dX6_coordinate_35 rfl rfl (Nat.le_refl _) (Nat.le_refl _) (fun _ => rfl) ⟨by simp only [X6_coordinate_v, if_neg c8, if_neg c12, if_pos c17, if_pos c30], rfl⟩
      · refine z_bipush (v := (-9)) dX6_coordinate_20 rfl (by decide) ?_
        exact z_ireturn dX6_coordinate_22 rfl rfl (Nat.le_refl _) (Nat.le_refl _) (fun _ => rfl) ⟨by simp only [X6_coordinate_v, if_neg c8, if_neg c12, if_neg c17], rfl⟩
set_option maxRecDepth 100000 in
set_option maxHeartbeats 4000000 in
theorem c_X6_sign_19 (G : zG) (ex : Bool) (g : Nat → va_E) (ont : Nat) (tp : Nat → Int32) (c : Int32) (hont : ont ≤ 80) (h0 : g 0 = (oCfg G 19 2 (nI ont))) (h1 : g 1 = (zI G 80 tp)) : zC G yX6_sign wsX6_sign (zrm 0 0) ex [.ref (zB G + 0), .int c] (zN, g) (fun r h => r = some (.int (X6_sign_v ont c)) ∧ h = (zN, zus g [(0, (oCfg G 19 2 (nI (X6_sign_p0_0 ont c)))), (1, zI G 80 (X6_sign_c1 ont tp c))])) := by
  refine zC_of mX6_sign (lv := [some (.ref (zB G + 0)), some (.int c)]) rfl rfl (by decide) (by intro v hv; simp at hv; rcases hv with rfl | rfl <;> rfl) (Nat.le_of_ble_eq_true rfl) rfl ?_
  refine z_0 ?_
  refine z_heap (g' := zu (zus g []) 0 (oCfg G 19 2 (nI ont))) (zu_self (zus g []) 0 _ h0).symm ?_
  refine z_n (L' := [(0, (oCfg G 19 2 (nI ont)))]) rfl ?_
  refine z_heap (g' := zu (zus g [(0, (oCfg G 19 2 (nI ont)))]) 1 (zI G 80 tp)) (zu_self (zus g [(0, (oCfg G 19 2 (nI ont)))]) 1 _ h1).symm ?_
  refine z_n (L' := [(0, (oCfg G 19 2 (nI ont))), (1, (zI G 80 tp))]) rfl ?_
  refine z_iload_n dX6_sign_0 rfl rfl ?_
  refine z_if_lt (tgt := 11) dX6_sign_1 rfl (by decide) (fun c1 => ?_) (fun c1 => ?_)
  · refine z_bipush (v := (-9)) dX6_sign_11 rfl (by decide) ?_
    exact z_ireturn dX6_sign_13 rfl rfl (Nat.le_refl _) (Nat.le_refl _) (fun _ => rfl) ⟨by simp only [X6_sign_v, if_pos c1], by simp only [X6_sign_p0_0, X6_sign_c1, if_pos c1]⟩
  · refine z_iload_n dX6_sign_4 rfl rfl ?_
    refine z_sipush (v := nI 255) dX6_sign_5 rfl (by decide) ?_
    refine z_icmp_le (tgt := 14) dX6_sign_8 rfl (by decide) (fun c8 => ?_) (fun c8 => ?_)
    · refine z_aload_n dX6_sign_14 rfl rfl ?_
      refine z_get dX6_sign_15 rfl hiX6_sign_X6 1 lkX6_sign_13 (Nat.le_of_ble_eq_true rfl) rfl rfl (by decide) rfl ?_
      refine z_bipush (v := nI 80) dX6_sign_18 rfl (by decide) ?_
      refine z_icmp_lt (tgt := 26) dX6_sign_20 rfl (by decide) (fun c20 => ?_) (fun c20 => ?_)
      · have h80 : ont < 80 := Nat.lt_of_not_le (fun q => absurd c20 (nI_nlt q (by omega)))
        refine z_aload_n dX6_sign_26 rfl rfl ?_
        refine z_get dX6_sign_27 rfl hiX6_sign_X6 0 lkX6_sign_9 (Nat.le_of_ble_eq_true rfl) rfl rfl (by decide) rfl ?_
        refine z_aload_n dX6_sign_30 rfl rfl ?_
        refine z_get dX6_sign_31 rfl hiX6_sign_X6 1 lkX6_sign_13 (Nat.le_of_ble_eq_true rfl) rfl rfl (by decide) rfl ?_
        refine z_iload_n dX6_sign_34 rfl rfl ?_
        refine z_iastN (j := ont) dX6_sign_35 rfl (Nat.le_of_ble_eq_true rfl) rfl (rfl) (by omega) (by decide) ?_
        refine z_n (L' := [(0, (oCfg G 19 2 (nI ont))), (1, (zI G 80 (upd tp ont c)))]) rfl ?_
        refine z_aload_n dX6_sign_36 rfl rfl ?_
        refine z_dup dX6_sign_37 rfl rfl ?_
        refine z_get dX6_sign_38 rfl hiX6_sign_X6 1 lkX6_sign_13 (Nat.le_of_ble_eq_true rfl) rfl rfl (by decide) rfl ?_
        refine z_iconst (v := nI 1) dX6_sign_41 rfl (by decide) ?_
        refine z_iadd dX6_sign_42 rfl ?_
        refine z_top (show (nI ont) + (nI 1) = nI (ont + 1) from (zq_add rfl rfl)) ?_
        refine z_putN (e9 := (oCfg G 19 2 (nI (ont + 1)))) tyX6 tyX6_ok nmX6 dX6_sign_43 rfl hiX6_sign_X6 1 lkX6_sign_13 rfl (by decide +kernel) (Nat.le_of_ble_eq_true rfl) rfl rfl (by decide) (Nat.le_of_ble_eq_true rfl) rfl rfl rfl ?_
        refine z_n (L' := [(0, (oCfg G 19 2 (nI (ont + 1)))), (1, (zI G 80 (upd tp ont c)))]) rfl ?_
        refine z_aload_n dX6_sign_46 rfl rfl ?_
        refine z_get dX6_sign_47 rfl hiX6_sign_X6 1 lkX6_sign_13 (Nat.le_of_ble_eq_true rfl) rfl rfl (by decide) rfl ?_
        exact z_ireturn dX6_sign_50 rfl rfl (Nat.le_refl _) (Nat.le_refl _) (fun _ => rfl) ⟨by simp only [X6_sign_v, if_neg c1, if_pos c8, if_pos c20], by simp only [X6_sign_p0_0, X6_sign_c1, if_neg c1, if_pos c8, if_pos c20]⟩
      · refine z_bipush (v := (-3)) dX6_sign_23 rfl (by decide) ?_
        exact z_ireturn dX6_sign_25 rfl rfl (Nat.le_refl _) (Nat.le_refl _) (fun _ => rfl) ⟨by simp only [X6_sign_v, if_neg c1, if_pos c8, if_neg c20], by simp only [X6_sign_p0_0, X6_sign_c1, if_neg c1, if_pos c8, if_neg c20]⟩
    · refine z_bipush (v := (-9)) dX6_sign_11 rfl (by decide) ?_
      exact z_ireturn dX6_sign_13 rfl rfl (Nat.le_refl _) (Nat.le_refl _) (fun _ => rfl) ⟨by simp only [X6_sign_v, if_neg c1, if_neg c8], by simp only [X6_sign_p0_0, X6_sign_c1, if_neg c1, if_neg c8]⟩
set_option maxRecDepth 100000 in
set_option maxHeartbeats 4000000 in
theorem c_X6_count_19 (G : zG) (ex : Bool) (g : Nat → va_E) (pts lns ltr : Nat) (inw : Int32) (ont : Nat) (bo oo : Int32) (rw : Nat) (outc ts : Int32) (fnd : Int32) (stp : Nat) (w : Int32)  (h0 : g 0 = (oCfg G 19 2 (nI ont))) (h19 : g 19 = (oTxt G 19 (nI pts) (nI lns) (nI ltr) inw)) (h36 : g 36 = (oTld G bo oo)) (h59 : g 59 = (oFol G (nI rw) outc ts)) (h40 : g 40 = (oSch G fnd (nI stp))) : zC G yX6_count wsX6_count (zrm 0 0) ex [.ref (zB G + 0), .int w] (zN, g) (fun r h => r = some (.int (X6_count_v pts lns ont bo oo rw outc stp w)) ∧ h = (zN, g)) := by
  refine zC_of mX6_count (lv := [some (.ref (zB G + 0)), some (.int w)]) rfl rfl (by decide) (by intro v hv; simp at hv; rcases hv with rfl | rfl <;> rfl) (Nat.le_of_ble_eq_true rfl) rfl ?_
  refine z_0 ?_
  refine z_iload_n dX6_count_0 rfl rfl ?_
  by_cases q1_0 : w = nI 0
  · refine z_tableIn (off := 47) (tgt := 48) dX6_count_1 (by rw [q1_0]; decide) (by rw [q1_0]; decide) (by rw [q1_0]; decide) (by decide) ?_
    refine z_aload_n dX6_count_48 rfl rfl ?_
    refine z_get dX6_count_49 rfl hiX6_count_X6 2 lkX6_count_20 (Nat.le_of_ble_eq_true rfl) h0 rfl (by decide) rfl ?_
    refine z_get dX6_count_52 rfl hiX6_count_X4 0 lkX6_count_73 (Nat.le_of_ble_eq_true rfl) h19 rfl (by decide) rfl ?_
    exact z_ireturn dX6_count_55 rfl rfl (Nat.le_refl _) (Nat.le_refl _) (fun _ => rfl) ⟨by simp only [X6_count_v, if_pos q1_0], rfl⟩
  · by_cases q1_1 : w = nI 1
    · refine z_tableIn (off := 55) (tgt := 56) dX6_count_1 (by rw [q1_1]; decide) (by rw [q1_1]; decide) (by rw [q1_1]; decide) (by decide) ?_
      refine z_aload_n dX6_count_56 rfl rfl ?_
      refine z_get dX6_count_57 rfl hiX6_count_X6 2 lkX6_count_20 (Nat.le_of_ble_eq_true rfl) h0 rfl (by decide) rfl ?_
      refine z_get dX6_count_60 rfl hiX6_count_X4 1 lkX6_count_76 (Nat.le_of_ble_eq_true rfl) h19 rfl (by decide) rfl ?_
      exact z_ireturn dX6_count_63 rfl rfl (Nat.le_refl _) (Nat.le_refl _) (fun _ => rfl) ⟨by simp only [X6_count_v, if_neg q1_0, if_pos q1_1], rfl⟩
    · by_cases q1_2 : w = nI 2
      · refine z_tableIn (off := 63) (tgt := 64) dX6_count_1 (by rw [q1_2]; decide) (by rw [q1_2]; decide) (by rw [q1_2]; decide) (by decide) ?_
        refine z_aload_n dX6_count_64 rfl rfl ?_
        refine z_get dX6_count_65 rfl hiX6_count_X6 4 lkX6_count_30 (Nat.le_of_ble_eq_true rfl) h0 rfl (by decide) rfl ?_
        refine z_get dX6_count_68 rfl hiX6_count_X5 3 lkX6_count_79 (Nat.le_of_ble_eq_true rfl) h36 rfl (by decide) rfl ?_
        exact z_ireturn dX6_count_71 rfl rfl (Nat.le_refl _) (Nat.le_refl _) (fun _ => rfl) ⟨by simp only [X6_count_v, if_neg q1_0, if_neg q1_1, if_pos q1_2], rfl⟩
      · by_cases q1_3 : w = nI 3
        · refine z_tableIn (off := 71) (tgt := 72) dX6_count_1 (by rw [q1_3]; decide) (by rw [q1_3]; decide) (by rw [q1_3]; decide) (by decide) ?_
          refine z_aload_n dX6_count_72 rfl rfl ?_
          refine z_get dX6_count_73 rfl hiX6_count_X6 4 lkX6_count_30 (Nat.le_of_ble_eq_true rfl) h0 rfl (by decide) rfl ?_
          refine z_get dX6_count_76 rfl hiX6_count_X5 4 lkX6_count_82 (Nat.le_of_ble_eq_true rfl) h36 rfl (by decide) rfl ?_
          exact z_ireturn dX6_count_79 rfl rfl (Nat.le_refl _) (Nat.le_refl _) (fun _ => rfl) ⟨by simp only [X6_count_v, if_neg q1_0, if_neg q1_1, if_neg q1_2, if_pos q1_3], rfl⟩
        · by_cases q1_4 : w = nI 4
          · refine z_tableIn (off := 79) (tgt := 80) dX6_count_1 (by rw [q1_4]; decide) (by rw [q1_4]; decide) (by rw [q1_4]; decide) (by decide) ?_
            refine z_aload_n dX6_count_80 rfl rfl ?_
            refine z_get dX6_count_81 rfl hiX6_count_X6 6 lkX6_count_46 (Nat.le_of_ble_eq_true rfl) h0 rfl (by decide) rfl ?_
            refine z_get dX6_count_84 rfl hiX6_count_X0 0 lkX6_count_85 (Nat.le_of_ble_eq_true rfl) h59 rfl (by decide) rfl ?_
            exact z_ireturn dX6_count_87 rfl rfl (Nat.le_refl _) (Nat.le_refl _) (fun _ => rfl) ⟨by simp only [X6_count_v, if_neg q1_0, if_neg q1_1, if_neg q1_2, if_neg q1_3, if_pos q1_4], rfl⟩
          · by_cases q1_5 : w = nI 5
            · refine z_tableIn (off := 87) (tgt := 88) dX6_count_1 (by rw [q1_5]; decide) (by rw [q1_5]; decide) (by rw [q1_5]; decide) (by decide) ?_
              refine z_aload_n dX6_count_88 rfl rfl ?_
              refine z_get dX6_count_89 rfl hiX6_count_X6 5 lkX6_count_39 (Nat.le_of_ble_eq_true rfl) h0 rfl (by decide) rfl ?_
              refine z_get dX6_count_92 rfl hiX6_count_X3 2 lkX6_count_88 (Nat.le_of_ble_eq_true rfl) h40 rfl (by decide) rfl ?_
              exact z_ireturn dX6_count_95 rfl rfl (Nat.le_refl _) (Nat.le_refl _) (fun _ => rfl) ⟨by simp only [X6_count_v, if_neg q1_0, if_neg q1_1, if_neg q1_2, if_neg q1_3, if_neg q1_4, if_pos q1_5], rfl⟩
            · by_cases q1_6 : w = nI 6
              · refine z_tableIn (off := 95) (tgt := 96) dX6_count_1 (by rw [q1_6]; decide) (by rw [q1_6]; decide) (by rw [q1_6]; decide) (by decide) ?_
                refine z_aload_n dX6_count_96 rfl rfl ?_
                refine z_get dX6_count_97 rfl hiX6_count_X6 1 lkX6_count_13 (Nat.le_of_ble_eq_true rfl) h0 rfl (by decide) rfl ?_
                exact z_ireturn dX6_count_100 rfl rfl (Nat.le_refl _) (Nat.le_refl _) (fun _ => rfl) ⟨by simp only [X6_count_v, if_neg q1_0, if_neg q1_1, if_neg q1_2, if_neg q1_3, if_neg q1_4, if_neg q1_5, if_pos q1_6], rfl⟩
              · by_cases q1_7 : w = nI 7
                · refine z_tableIn (off := 100) (tgt := 101) dX6_count_1 (by rw [q1_7]; decide) (by rw [q1_7]; decide) (by rw [q1_7]; decide) (by decide) ?_
                  refine z_aload_n dX6_count_101 rfl rfl ?_
                  refine z_get dX6_count_102 rfl hiX6_count_X6 6 lkX6_count_46 (Nat.le_of_ble_eq_true rfl) h0 rfl (by decide) rfl ?_
                  refine z_get dX6_count_105 rfl hiX6_count_X0 1 lkX6_count_91 (Nat.le_of_ble_eq_true rfl) h59 rfl (by decide) rfl ?_
                  exact z_ireturn dX6_count_108 rfl rfl (Nat.le_refl _) (Nat.le_refl _) (fun _ => rfl) ⟨by simp only [X6_count_v, if_neg q1_0, if_neg q1_1, if_neg q1_2, if_neg q1_3, if_neg q1_4, if_neg q1_5, if_neg q1_6, if_pos q1_7], rfl⟩
                · refine z_tableOut (tgt := 109) dX6_count_1 (by
                    refine zsw_out (n := 7) ?_
                    intro k hk
                    rcases (show k = 0 ∨ k = 1 ∨ k = 2 ∨ k = 3 ∨ k = 4 ∨ k = 5 ∨ k = 6 ∨ k = 7 by omega) with rfl | rfl | rfl | rfl | rfl | rfl | rfl | rfl
                    · exact q1_0
                    · exact q1_1
                    · exact q1_2
                    · exact q1_3
                    · exact q1_4
                    · exact q1_5
                    · exact q1_6
                    · exact q1_7) (by decide) ?_
                  refine z_bipush (v := (-9)) dX6_count_109 rfl (by decide) ?_
                  exact z_ireturn dX6_count_111 rfl rfl (Nat.le_refl _) (Nat.le_refl _) (fun _ => rfl) ⟨by simp only [X6_count_v, if_neg q1_0, if_neg q1_1, if_neg q1_2, if_neg q1_3, if_neg q1_4, if_neg q1_5, if_neg q1_6, if_neg q1_7], rfl⟩
set_option maxRecDepth 100000 in
set_option maxHeartbeats 4000000 in
theorem c_X6_line_19 (G : zG) (ex : Bool) (g : Nat → va_E) (pts lns ltr : Nat) (inw : Int32) (ont : Nat) (lo sz : Nat → Int32) (wd : Nat → Nat → Int32) (l i z : Int32) (hl : lns ≤ 12) (hsz : ∀ l, l < lns → vp_in (sz l) 6) (hwd : ∀ l, l < lns → ∀ j, j < (sz l).toNatClampNeg → vp_in (wd l j) 10) (h0 : g 0 = (oCfg G 19 2 (nI ont))) (h19 : g 19 = (oTxt G 19 (nI pts) (nI lns) (nI ltr) inw)) (h20 : g 20 = (zI G 10 lo)) (h21 : g 21 = (zI G 12 sz)) (h22 : g 22 = (zR G 12 (zrw G 12 23))) (h23 : ∀ l9, l9 < 12 → g (23 + l9) = zI G 5 (wd l9)) : zC G yX6_line wsX6_line (zrm 1 21) ex [.ref (zB G + 0), .int l, .int i, .int z] (zN, g) (fun r h => r = some (.int (X6_line_v lns lo sz wd l i z)) ∧ h = (zN, g)) := by
  refine zC_of mX6_line (lv := [some (.ref (zB G + 0)), some (.int l), some (.int i), some (.int z), none]) rfl rfl (by decide) (by intro v hv; simp at hv; rcases hv with rfl | rfl | rfl | rfl <;> rfl) (Nat.le_of_ble_eq_true rfl) rfl ?_
  refine z_0 ?_
  refine z_aload_n dX6_line_0 rfl rfl ?_
  refine z_get dX6_line_1 rfl hiX6_line_X6 2 lkX6_line_20 (Nat.le_of_ble_eq_true rfl) h0 rfl (by decide) rfl ?_
  refine z_iload_n dX6_line_4 rfl rfl ?_
  refine z_callVi (c_X4_hasLine_19 G ex _ pts lns ltr inw l h19) gX6_line_X4_hasLine rfl dX6_line_5 rfl rfl rfl okk_X4_hasLine (Nat.le_of_ble_eq_true rfl) h19 rfl ⟨Nat.le_of_ble_eq_true rfl, Nat.le_of_ble_eq_true rfl⟩ ⟨Nat.le_of_ble_eq_true rfl, Nat.le_of_ble_eq_true rfl⟩ (Nat.le_of_ble_eq_true rfl) ?_
  refine z_if_eq (tgt := 15) dX6_line_8 rfl (by decide) (fun c8 => ?_) (fun c8 => ?_)
  · refine z_bipush (v := (-9)) dX6_line_15 rfl (by decide) ?_
    exact z_ireturn dX6_line_17 rfl rfl (Nat.le_refl _) (Nat.le_refl _) (fun _ => rfl) ⟨by simp only [X6_line_v, if_pos c8], rfl⟩
  · refine z_iload_n dX6_line_11 rfl rfl ?_
    refine z_if_ge (tgt := 18) dX6_line_12 rfl (by decide) (fun c12 => ?_) (fun c12 => ?_)
    · have hvl : vp_in l lns := hasLine_in c8 hl
      have hll := zvlt hvl
      refine z_lv (congrArg (fun z9 : Int32 => ([some (.ref (zB G + 0)), some (.int z9), some (.int i), some (.int z), none] : List (Option Value))) (show l = (nI l.toNatClampNeg) from zvin hvl)) ?_
      refine z_iload_n dX6_line_18 rfl rfl ?_
      refine z_aload_n dX6_line_19 rfl rfl ?_
      refine z_get dX6_line_20 rfl hiX6_line_X6 2 lkX6_line_20 (Nat.le_of_ble_eq_true rfl) h0 rfl (by decide) rfl ?_
      refine z_get dX6_line_23 rfl hiX6_line_X4 4 lkX6_line_98 (Nat.le_of_ble_eq_true rfl) h19 rfl (by decide) rfl ?_
      refine z_iload_n dX6_line_26 rfl rfl ?_
      refine z_ialdN (j := l.toNatClampNeg) dX6_line_27 rfl (Nat.le_of_ble_eq_true rfl) h21 (rfl) (by omega) (by decide) ?_
      refine z_icmp_lt (tgt := 34) dX6_line_28 rfl (by decide) (fun c28 => ?_) (fun c28 => ?_)
      · have hsi := hsz _ hll
        have hvi : vp_in i ((sz l.toNatClampNeg).toNatClampNeg) := zlt_in (Int32.not_lt.mpr c12) (fun q => absurd c28 (Int32.not_lt.mpr (by rw [zvin hsi]; exact q))) (by have := zvlt hsi; omega)
        have hii := zvlt hvi
        have hs6 := zvlt hsi
        refine z_lv (congrArg (fun z9 : Int32 => ([some (.ref (zB G + 0)), some (.int (nI l.toNatClampNeg)), some (.int z9), some (.int z), none] : List (Option Value))) (show i = (nI i.toNatClampNeg) from zvin hvi)) ?_
        refine z_aload_n dX6_line_34 rfl rfl ?_
        refine z_get dX6_line_35 rfl hiX6_line_X6 2 lkX6_line_20 (Nat.le_of_ble_eq_true rfl) h0 rfl (by decide) rfl ?_
        refine z_get dX6_line_38 rfl hiX6_line_X4 5 lkX6_line_101 (Nat.le_of_ble_eq_true rfl) h19 rfl (by decide) rfl ?_
        refine z_iload_n dX6_line_41 rfl rfl ?_
        refine z_aaldN (j := l.toNatClampNeg) (a := zB G + (23 + l.toNatClampNeg)) dX6_line_42 rfl (Nat.le_of_ble_eq_true rfl) h22 (rfl) (by omega) (by decide) (zrw_at (by omega)) ?_
        refine z_iload_n dX6_line_43 rfl rfl ?_
        refine z_ialdN (j := i.toNatClampNeg) dX6_line_44 rfl (zk12 (by omega) (by decide)) (h23 _ (by omega)) (rfl) (by omega) (by decide) ?_
        refine z_istore_4 dX6_line_45 rfl ?_
        refine z_iload_n dX6_line_47 rfl rfl ?_
        refine z_if_eq (tgt := 64) dX6_line_48 rfl (by decide) (fun c48 => ?_) (fun c48 => ?_)
        · refine z_iload dX6_line_64 rfl rfl ?_
          exact z_ireturn dX6_line_66 rfl rfl (Nat.le_refl _) (Nat.le_refl _) (fun _ => rfl) ⟨by simp only [X6_line_v, if_neg c8, if_pos c12, if_pos c28, if_pos c48], rfl⟩
        · refine z_aload_n dX6_line_51 rfl rfl ?_
          refine z_get dX6_line_52 rfl hiX6_line_X6 2 lkX6_line_20 (Nat.le_of_ble_eq_true rfl) h0 rfl (by decide) rfl ?_
          refine z_get dX6_line_55 rfl hiX6_line_X4 3 lkX6_line_105 (Nat.le_of_ble_eq_true rfl) h19 rfl (by decide) rfl ?_
          refine z_iload dX6_line_58 rfl rfl ?_
          refine z_iald dX6_line_60 rfl (Nat.le_of_ble_eq_true rfl) h20 (hwd _ hll _ hii) ?_
          refine z_goto (tgt := 66) dX6_line_61 (by decide) ?_
          exact z_ireturn dX6_line_66 rfl rfl (Nat.le_refl _) (Nat.le_refl _) (fun _ => rfl) ⟨by simp only [X6_line_v, if_neg c8, if_pos c12, if_pos c28, if_neg c48], rfl⟩
      · refine z_bipush (v := (-4)) dX6_line_31 rfl (by decide) ?_
        exact z_ireturn dX6_line_33 rfl rfl (Nat.le_refl _) (Nat.le_refl _) (fun _ => rfl) ⟨by simp only [X6_line_v, if_neg c8, if_pos c12, if_neg c28], rfl⟩
    · refine z_bipush (v := (-9)) dX6_line_15 rfl (by decide) ?_
      exact z_ireturn dX6_line_17 rfl rfl (Nat.le_refl _) (Nat.le_refl _) (fun _ => rfl) ⟨by simp only [X6_line_v, if_neg c8, if_neg c12], rfl⟩
set_option maxRecDepth 100000 in
set_option maxHeartbeats 4000000 in
theorem c_X6_bar_19 (G : zG) (ex : Bool) (g : Nat → va_E) (pts lns ltr : Nat) (inw : Int32) (ont : Nat) (bo oo : Int32) (fl ba ori : Nat → Int32) (a b c : Int32) (hp : pts ≤ 10) (h0 : g 0 = (oCfg G 19 2 (nI ont))) (h19 : g 19 = (oTxt G 19 (nI pts) (nI lns) (nI ltr) inw)) (h36 : g 36 = (oTld G bo oo)) (h37 : g 37 = (zZ G 120 fl)) (h38 : g 38 = (zZ G 120 ba)) (h39 : g 39 = (zI G 120 ori)) : zC G yX6_bar wsX6_bar (zrm 2 46) ex [.ref (zB G + 0), .int a, .int b, .int c] (zN, g) (fun r h => r = some (.int (X6_bar_v pts bo fl ba a b c)) ∧ h = (zN, zus g [(36, (oTld G (X6_bar_p36_0 pts bo fl ba a b c) oo)), (38, zZ G 120 (X6_bar_c38 pts bo fl ba a b c))])) := by
  refine zC_of mX6_bar (lv := [some (.ref (zB G + 0)), some (.int a), some (.int b), some (.int c), none]) rfl rfl (by decide) (by intro v hv; simp at hv; rcases hv with rfl | rfl | rfl | rfl <;> rfl) (Nat.le_of_ble_eq_true rfl) rfl ?_
  refine z_0 ?_
  refine z_heap (g' := zu (zus g []) 36 (oTld G bo oo)) (zu_self (zus g []) 36 _ h36).symm ?_
  refine z_n (L' := [(36, (oTld G bo oo))]) rfl ?_
  refine z_heap (g' := zu (zus g [(36, (oTld G bo oo))]) 38 (zZ G 120 ba)) (zu_self (zus g [(36, (oTld G bo oo))]) 38 _ h38).symm ?_
  refine z_n (L' := [(36, (oTld G bo oo)), (38, (zZ G 120 ba))]) rfl ?_
  refine z_aload_n dX6_bar_0 rfl rfl ?_
  refine z_get dX6_bar_1 rfl hiX6_bar_X6 2 lkX6_bar_20 (Nat.le_of_ble_eq_true rfl) h0 rfl (by decide) rfl ?_
  refine z_iload_n dX6_bar_4 rfl rfl ?_
  refine z_iload_n dX6_bar_5 rfl rfl ?_
  refine z_iload_n dX6_bar_6 rfl rfl ?_
  refine z_callVi (c_X4_isTriple_19 G ex _ pts lns ltr inw a b c h19) gX6_bar_X4_isTriple rfl dX6_bar_7 rfl rfl rfl okk_X4_isTriple (Nat.le_of_ble_eq_true rfl) h19 rfl ⟨Nat.le_of_ble_eq_true rfl, Nat.le_of_ble_eq_true rfl⟩ ⟨Nat.le_of_ble_eq_true rfl, Nat.le_of_ble_eq_true rfl⟩ (Nat.le_of_ble_eq_true rfl) ?_
  refine z_if_ne (tgt := 16) dX6_bar_10 rfl (by decide) (fun c10 => ?_) (fun c10 => ?_)
  · obtain ⟨hva, hvb, hvc, hab, hac, hbc⟩ := isTriple_in c10 hp
    have hla := zvlt hva
    have hlb := zvlt hvb
    have hlc := zvlt hvc
    have nab := vp_ne hva hvb hab
    have nac := vp_ne hva hvc hac
    have nbc := vp_ne hvb hvc hbc
    have hsp : spN a.toNatClampNeg b.toNatClampNeg c.toNatClampNeg < 120 := spN_lt (by omega) (by omega) (by omega) nab nac nbc
    refine z_lv (congrArg (fun z9 : Int32 => ([some (.ref (zB G + 0)), some (.int z9), some (.int b), some (.int c), none] : List (Option Value))) (show a = (nI a.toNatClampNeg) from zvin hva)) ?_
    refine z_lv (congrArg (fun z9 : Int32 => ([some (.ref (zB G + 0)), some (.int (nI a.toNatClampNeg)), some (.int z9), some (.int c), none] : List (Option Value))) (show b = (nI b.toNatClampNeg) from zvin hvb)) ?_
    refine z_lv (congrArg (fun z9 : Int32 => ([some (.ref (zB G + 0)), some (.int (nI a.toNatClampNeg)), some (.int (nI b.toNatClampNeg)), some (.int z9), none] : List (Option Value))) (show c = (nI c.toNatClampNeg) from zvin hvc)) ?_
    refine z_iload_n dX6_bar_16 rfl rfl ?_
    refine z_iload_n dX6_bar_17 rfl rfl ?_
    refine z_iload_n dX6_bar_18 rfl rfl ?_
    refine z_callSi (c_X5_spotOf_N G ex _ a.toNatClampNeg b.toNatClampNeg c.toNatClampNeg (by omega) (by omega) (by omega)) gX6_bar_X5_spotOf rfl dX6_bar_19 rfl rfl okk_X5_spotOf ⟨Nat.le_of_ble_eq_true rfl, Nat.le_of_ble_eq_true rfl⟩ ⟨Nat.le_of_ble_eq_true rfl, Nat.le_of_ble_eq_true rfl⟩ (Nat.le_of_ble_eq_true rfl) ?_
    refine z_istore_4 dX6_bar_22 rfl ?_
    refine z_aload_n dX6_bar_24 rfl rfl ?_
    refine z_get dX6_bar_25 rfl hiX6_bar_X6 4 lkX6_bar_30 (Nat.le_of_ble_eq_true rfl) h0 rfl (by decide) rfl ?_
    refine z_get dX6_bar_28 rfl hiX6_bar_X5 0 lkX6_bar_116 (Nat.le_of_ble_eq_true rfl) rfl rfl (by decide) rfl ?_
    refine z_iload dX6_bar_31 rfl rfl ?_
    refine z_zaldN (j := spN a.toNatClampNeg b.toNatClampNeg c.toNatClampNeg) dX6_bar_33 rfl (Nat.le_of_ble_eq_true rfl) h37 (rfl) (by omega) (by decide) ?_
    refine z_if_eq (tgt := 40) dX6_bar_34 rfl (by decide) (fun c34 => ?_) (fun c34 => ?_)
    · refine z_aload_n dX6_bar_40 rfl rfl ?_
      refine z_get dX6_bar_41 rfl hiX6_bar_X6 4 lkX6_bar_30 (Nat.le_of_ble_eq_true rfl) h0 rfl (by decide) rfl ?_
      refine z_iload dX6_bar_44 rfl rfl ?_
      refine z_callVi (c_X5_addBarred G ex _ bo oo ba (spN a.toNatClampNeg b.toNatClampNeg c.toNatClampNeg) (by omega) rfl rfl) gX6_bar_X5_addBarred rfl dX6_bar_46 rfl rfl rfl okk_X5_addBarred (Nat.le_of_ble_eq_true rfl) rfl rfl ⟨Nat.le_of_ble_eq_true rfl, Nat.le_of_ble_eq_true rfl⟩ ⟨Nat.le_of_ble_eq_true rfl, Nat.le_of_ble_eq_true rfl⟩ (Nat.le_of_ble_eq_true rfl) ?_
      refine z_nn (L' := [(36, (oTld G (X5_addBarred_p36_0 bo ba (spN a.toNatClampNeg b.toNatClampNeg c.toNatClampNeg)) oo)), (38, (zZ G 120 (X5_addBarred_c38 bo ba (spN a.toNatClampNeg b.toNatClampNeg c.toNatClampNeg))))]) rfl ?_
      exact z_ireturn dX6_bar_49 rfl rfl (Nat.le_refl _) (Nat.le_refl _) (fun _ => rfl) ⟨by simp only [X6_bar_v, if_neg c10, if_pos c34], by simp only [X6_bar_p36_0, X6_bar_c38, if_neg c10, if_pos c34]⟩
    · refine z_bipush (v := (-2)) dX6_bar_37 rfl (by decide) ?_
      exact z_ireturn dX6_bar_39 rfl rfl (Nat.le_refl _) (Nat.le_refl _) (fun _ => rfl) ⟨by simp only [X6_bar_v, if_neg c10, if_neg c34], by simp only [X6_bar_p36_0, X6_bar_c38, if_neg c10, if_neg c34]⟩
  · refine z_bipush (v := (-9)) dX6_bar_13 rfl (by decide) ?_
    exact z_ireturn dX6_bar_15 rfl rfl (Nat.le_refl _) (Nat.le_refl _) (fun _ => rfl) ⟨by simp only [X6_bar_v, if_pos c10], by simp only [X6_bar_p36_0, X6_bar_c38, if_pos c10]⟩
set_option maxRecDepth 100000 in
set_option maxHeartbeats 4000000 in
theorem c_X6_orient_19 (G : zG) (ex : Bool) (g : Nat → va_E) (pts lns ltr : Nat) (inw : Int32) (ont : Nat) (bo oo : Int32) (fl ba ori : Nat → Int32) (a b c s : Int32) (hp : pts ≤ 10) (h0 : g 0 = (oCfg G 19 2 (nI ont))) (h19 : g 19 = (oTxt G 19 (nI pts) (nI lns) (nI ltr) inw)) (h36 : g 36 = (oTld G bo oo)) (h37 : g 37 = (zZ G 120 fl)) (h38 : g 38 = (zZ G 120 ba)) (h39 : g 39 = (zI G 120 ori)) : zC G yX6_orient wsX6_orient (zrm 2 46) ex [.ref (zB G + 0), .int a, .int b, .int c, .int s] (zN, g) (fun r h => r = some (.int (X6_orient_v pts oo fl ori a b c s)) ∧ h = (zN, zus g [(36, (oTld G bo (X6_orient_p36_1 pts oo fl ori a b c s))), (39, zI G 120 (X6_orient_c39 pts oo fl ori a b c s))])) := by
  refine zC_of mX6_orient (lv := [some (.ref (zB G + 0)), some (.int a), some (.int b), some (.int c), some (.int s), none, none]) rfl rfl (by decide) (by intro v hv; simp at hv; rcases hv with rfl | rfl | rfl | rfl | rfl <;> rfl) (Nat.le_of_ble_eq_true rfl) rfl ?_
  refine z_0 ?_
  refine z_heap (g' := zu (zus g []) 36 (oTld G bo oo)) (zu_self (zus g []) 36 _ h36).symm ?_
  refine z_n (L' := [(36, (oTld G bo oo))]) rfl ?_
  refine z_heap (g' := zu (zus g [(36, (oTld G bo oo))]) 39 (zI G 120 ori)) (zu_self (zus g [(36, (oTld G bo oo))]) 39 _ h39).symm ?_
  refine z_n (L' := [(36, (oTld G bo oo)), (39, (zI G 120 ori))]) rfl ?_
  refine z_aload_n dX6_orient_0 rfl rfl ?_
  refine z_get dX6_orient_1 rfl hiX6_orient_X6 2 lkX6_orient_20 (Nat.le_of_ble_eq_true rfl) h0 rfl (by decide) rfl ?_
  refine z_iload_n dX6_orient_4 rfl rfl ?_
  refine z_iload_n dX6_orient_5 rfl rfl ?_
  refine z_iload_n dX6_orient_6 rfl rfl ?_
  refine z_callVi (c_X4_isTriple_19 G ex _ pts lns ltr inw a b c h19) gX6_orient_X4_isTriple rfl dX6_orient_7 rfl rfl rfl okk_X4_isTriple (Nat.le_of_ble_eq_true rfl) h19 rfl ⟨Nat.le_of_ble_eq_true rfl, Nat.le_of_ble_eq_true rfl⟩ ⟨Nat.le_of_ble_eq_true rfl, Nat.le_of_ble_eq_true rfl⟩ (Nat.le_of_ble_eq_true rfl) ?_
  refine z_if_eq (tgt := 25) dX6_orient_10 rfl (by decide) (fun c10 => ?_) (fun c10 => ?_)
  · refine z_bipush (v := (-9)) dX6_orient_25 rfl (by decide) ?_
    exact z_ireturn dX6_orient_27 rfl rfl (Nat.le_refl _) (Nat.le_refl _) (fun _ => rfl) ⟨by simp only [X6_orient_v, if_pos c10], by simp only [X6_orient_p36_1, X6_orient_c39, if_pos c10]⟩
  · refine z_iload dX6_orient_13 rfl rfl ?_
    refine z_iconst (v := nI 1) dX6_orient_15 rfl (by decide) ?_
    refine z_icmp_eq (tgt := 28) dX6_orient_16 rfl (by decide) (fun c16 => ?_) (fun c16 => ?_)
    · obtain ⟨hva, hvb, hvc, hab, hac, hbc⟩ := isTriple_in c10 hp
      have hla := zvlt hva
      have hlb := zvlt hvb
      have hlc := zvlt hvc
      have nab := vp_ne hva hvb hab
      have nac := vp_ne hva hvc hac
      have nbc := vp_ne hvb hvc hbc
      have hsp : spN a.toNatClampNeg b.toNatClampNeg c.toNatClampNeg < 120 := spN_lt (by omega) (by omega) (by omega) nab nac nbc
      refine z_lv (congrArg (fun z9 : Int32 => ([some (.ref (zB G + 0)), some (.int z9), some (.int b), some (.int c), some (.int s), none, none] : List (Option Value))) (show a = (nI a.toNatClampNeg) from zvin hva)) ?_
      refine z_lv (congrArg (fun z9 : Int32 => ([some (.ref (zB G + 0)), some (.int (nI a.toNatClampNeg)), some (.int z9), some (.int c), some (.int s), none, none] : List (Option Value))) (show b = (nI b.toNatClampNeg) from zvin hvb)) ?_
      refine z_lv (congrArg (fun z9 : Int32 => ([some (.ref (zB G + 0)), some (.int (nI a.toNatClampNeg)), some (.int (nI b.toNatClampNeg)), some (.int z9), some (.int s), none, none] : List (Option Value))) (show c = (nI c.toNatClampNeg) from zvin hvc)) ?_
      refine z_iload_n dX6_orient_28 rfl rfl ?_
      refine z_iload_n dX6_orient_29 rfl rfl ?_
      refine z_iload_n dX6_orient_30 rfl rfl ?_
      refine z_callSi (c_X5_spotOf_N G ex _ a.toNatClampNeg b.toNatClampNeg c.toNatClampNeg (by omega) (by omega) (by omega)) gX6_orient_X5_spotOf rfl dX6_orient_31 rfl rfl okk_X5_spotOf ⟨Nat.le_of_ble_eq_true rfl, Nat.le_of_ble_eq_true rfl⟩ ⟨Nat.le_of_ble_eq_true rfl, Nat.le_of_ble_eq_true rfl⟩ (Nat.le_of_ble_eq_true rfl) ?_
      refine z_istore_5 dX6_orient_34 rfl ?_
      refine z_iload dX6_orient_36 rfl rfl ?_
      refine z_iload_n dX6_orient_38 rfl rfl ?_
      refine z_iload_n dX6_orient_39 rfl rfl ?_
      refine z_iload_n dX6_orient_40 rfl rfl ?_
      refine z_callSi (c_X5_turnOf G ex _ (nI a.toNatClampNeg) (nI b.toNatClampNeg) (nI c.toNatClampNeg)) gX6_orient_X5_turnOf rfl dX6_orient_41 rfl rfl okk_X5_turnOf ⟨Nat.le_of_ble_eq_true rfl, Nat.le_of_ble_eq_true rfl⟩ ⟨Nat.le_of_ble_eq_true rfl, Nat.le_of_ble_eq_true rfl⟩ (Nat.le_of_ble_eq_true rfl) ?_
      refine z_imul dX6_orient_44 rfl ?_
      refine z_istore_6 dX6_orient_45 rfl ?_
      refine z_aload_n dX6_orient_47 rfl rfl ?_
      refine z_get dX6_orient_48 rfl hiX6_orient_X6 4 lkX6_orient_30 (Nat.le_of_ble_eq_true rfl) h0 rfl (by decide) rfl ?_
      refine z_get dX6_orient_51 rfl hiX6_orient_X5 0 lkX6_orient_116 (Nat.le_of_ble_eq_true rfl) rfl rfl (by decide) rfl ?_
      refine z_iload dX6_orient_54 rfl rfl ?_
      refine z_zaldN (j := spN a.toNatClampNeg b.toNatClampNeg c.toNatClampNeg) dX6_orient_56 rfl (Nat.le_of_ble_eq_true rfl) h37 (rfl) (by omega) (by decide) ?_
      refine z_if_ne (tgt := 76) dX6_orient_57 rfl (by decide) (fun c57 => ?_) (fun c57 => ?_)
      · refine z_bipush (v := (-2)) dX6_orient_76 rfl (by decide) ?_
        exact z_ireturn dX6_orient_78 rfl rfl (Nat.le_refl _) (Nat.le_refl _) (fun _ => rfl) ⟨by simp only [X6_orient_v, if_neg c10, if_pos c16, if_neg c57], by simp only [X6_orient_p36_1, X6_orient_c39, if_neg c10, if_pos c16, if_neg c57]⟩
      · refine z_aload_n dX6_orient_60 rfl rfl ?_
        refine z_get dX6_orient_61 rfl hiX6_orient_X6 4 lkX6_orient_30 (Nat.le_of_ble_eq_true rfl) h0 rfl (by decide) rfl ?_
        refine z_get dX6_orient_64 rfl hiX6_orient_X5 2 lkX6_orient_127 (Nat.le_of_ble_eq_true rfl) rfl rfl (by decide) rfl ?_
        refine z_iload dX6_orient_67 rfl rfl ?_
        refine z_ialdN (j := spN a.toNatClampNeg b.toNatClampNeg c.toNatClampNeg) dX6_orient_69 rfl (Nat.le_of_ble_eq_true rfl) rfl (rfl) (by omega) (by decide) ?_
        refine z_iload dX6_orient_70 rfl rfl ?_
        refine z_ineg dX6_orient_72 rfl ?_
        refine z_icmp_ne (tgt := 79) dX6_orient_73 rfl (by decide) (fun c73 => ?_) (fun c73 => ?_)
        · refine z_aload_n dX6_orient_79 rfl rfl ?_
          refine z_get dX6_orient_80 rfl hiX6_orient_X6 4 lkX6_orient_30 (Nat.le_of_ble_eq_true rfl) h0 rfl (by decide) rfl ?_
          refine z_iload dX6_orient_83 rfl rfl ?_
          refine z_iload dX6_orient_85 rfl rfl ?_
          refine z_callVi (c_X5_addOriented G ex _ bo oo ori (spN a.toNatClampNeg b.toNatClampNeg c.toNatClampNeg) (s * (X5_turnOf_v (nI a.toNatClampNeg) (nI b.toNatClampNeg) (nI c.toNatClampNeg))) (by omega) rfl rfl) gX6_orient_X5_addOriented rfl dX6_orient_87 rfl rfl rfl okk_X5_addOriented (Nat.le_of_ble_eq_true rfl) rfl rfl ⟨Nat.le_of_ble_eq_true rfl, Nat.le_of_ble_eq_true rfl⟩ ⟨Nat.le_of_ble_eq_true rfl, Nat.le_of_ble_eq_true rfl⟩ (Nat.le_of_ble_eq_true rfl) ?_
          refine z_nn (L' := [(36, (oTld G bo (X5_addOriented_p36_1 oo ori (spN a.toNatClampNeg b.toNatClampNeg c.toNatClampNeg)))), (39, (zI G 120 (X5_addOriented_c39 oo ori (spN a.toNatClampNeg b.toNatClampNeg c.toNatClampNeg) (s * (X5_turnOf_v (nI a.toNatClampNeg) (nI b.toNatClampNeg) (nI c.toNatClampNeg))))))]) rfl ?_
          exact z_ireturn dX6_orient_90 rfl rfl (Nat.le_refl _) (Nat.le_refl _) (fun _ => rfl) ⟨by simp only [X6_orient_v, if_neg c10, if_pos c16, if_pos c57, if_neg c73], by simp only [X6_orient_p36_1, X6_orient_c39, if_neg c10, if_pos c16, if_pos c57, if_neg c73]⟩
        · refine z_bipush (v := (-2)) dX6_orient_76 rfl (by decide) ?_
          exact z_ireturn dX6_orient_78 rfl rfl (Nat.le_refl _) (Nat.le_refl _) (fun _ => rfl) ⟨by simp only [X6_orient_v, if_neg c10, if_pos c16, if_pos c57, if_pos c73], by simp only [X6_orient_p36_1, X6_orient_c39, if_neg c10, if_pos c16, if_pos c57, if_pos c73]⟩
    · refine z_iload dX6_orient_19 rfl rfl ?_
      refine z_iconst (v := (-1)) dX6_orient_21 rfl (by decide) ?_
      refine z_icmp_eq (tgt := 28) dX6_orient_22 rfl (by decide) (fun c22 => ?_) (fun c22 => ?_)
      · obtain ⟨hva, hvb, hvc, hab, hac, hbc⟩ := isTriple_in c10 hp
        have hla := zvlt hva
        have hlb := zvlt hvb
        have hlc := zvlt hvc
        have nab := vp_ne hva hvb hab
        have nac := vp_ne hva hvc hac
        have nbc := vp_ne hvb hvc hbc
        have hsp : spN a.toNatClampNeg b.toNatClampNeg c.toNatClampNeg < 120 := spN_lt (by omega) (by omega) (by omega) nab nac nbc
        refine z_lv (congrArg (fun z9 : Int32 => ([some (.ref (zB G + 0)), some (.int z9), some (.int b), some (.int c), some (.int s), none, none] : List (Option Value))) (show a = (nI a.toNatClampNeg) from zvin hva)) ?_
        refine z_lv (congrArg (fun z9 : Int32 => ([some (.ref (zB G + 0)), some (.int (nI a.toNatClampNeg)), some (.int z9), some (.int c), some (.int s), none, none] : List (Option Value))) (show b = (nI b.toNatClampNeg) from zvin hvb)) ?_
        refine z_lv (congrArg (fun z9 : Int32 => ([some (.ref (zB G + 0)), some (.int (nI a.toNatClampNeg)), some (.int (nI b.toNatClampNeg)), some (.int z9), some (.int s), none, none] : List (Option Value))) (show c = (nI c.toNatClampNeg) from zvin hvc)) ?_
        refine z_iload_n dX6_orient_28 rfl rfl ?_
        refine z_iload_n dX6_orient_29 rfl rfl ?_
        refine z_iload_n dX6_orient_30 rfl rfl ?_
        refine z_callSi (c_X5_spotOf_N G ex _ a.toNatClampNeg b.toNatClampNeg c.toNatClampNeg (by omega) (by omega) (by omega)) gX6_orient_X5_spotOf rfl dX6_orient_31 rfl rfl okk_X5_spotOf ⟨Nat.le_of_ble_eq_true rfl, Nat.le_of_ble_eq_true rfl⟩ ⟨Nat.le_of_ble_eq_true rfl, Nat.le_of_ble_eq_true rfl⟩ (Nat.le_of_ble_eq_true rfl) ?_
        refine z_istore_5 dX6_orient_34 rfl ?_
        refine z_iload dX6_orient_36 rfl rfl ?_
        refine z_iload_n dX6_orient_38 rfl rfl ?_
        refine z_iload_n dX6_orient_39 rfl rfl ?_
        refine z_iload_n dX6_orient_40 rfl rfl ?_
        refine z_callSi (c_X5_turnOf G ex _ (nI a.toNatClampNeg) (nI b.toNatClampNeg) (nI c.toNatClampNeg)) gX6_orient_X5_turnOf rfl dX6_orient_41 rfl rfl okk_X5_turnOf ⟨Nat.le_of_ble_eq_true rfl, Nat.le_of_ble_eq_true rfl⟩ ⟨Nat.le_of_ble_eq_true rfl, Nat.le_of_ble_eq_true rfl⟩ (Nat.le_of_ble_eq_true rfl) ?_
        refine z_imul dX6_orient_44 rfl ?_
        refine z_istore_6 dX6_orient_45 rfl ?_
        refine z_aload_n dX6_orient_47 rfl rfl ?_
        refine z_get dX6_orient_48 rfl hiX6_orient_X6 4 lkX6_orient_30 (Nat.le_of_ble_eq_true rfl) h0 rfl (by decide) rfl ?_
        refine z_get dX6_orient_51 rfl hiX6_orient_X5 0 lkX6_orient_116 (Nat.le_of_ble_eq_true rfl) rfl rfl (by decide) rfl ?_
        refine z_iload dX6_orient_54 rfl rfl ?_
        refine z_zaldN (j := spN a.toNatClampNeg b.toNatClampNeg c.toNatClampNeg) dX6_orient_56 rfl (Nat.le_of_ble_eq_true rfl) h37 (rfl) (by omega) (by decide) ?_
        refine z_if_ne (tgt := 76) dX6_orient_57 rfl (by decide) (fun c57 => ?_) (fun c57 => ?_)
        · refine z_bipush (v := (-2)) dX6_orient_76 rfl (by decide) ?_
          exact z_ireturn dX6_orient_78 rfl rfl (Nat.le_refl _) (Nat.le_refl _) (fun _ => rfl) ⟨by simp only [X6_orient_v, if_neg c10, if_neg c16, if_pos c22, if_neg c57], by simp only [X6_orient_p36_1, X6_orient_c39, if_neg c10, if_neg c16, if_pos c22, if_neg c57]⟩
        · refine z_aload_n dX6_orient_60 rfl rfl ?_
          refine z_get dX6_orient_61 rfl hiX6_orient_X6 4 lkX6_orient_30 (Nat.le_of_ble_eq_true rfl) h0 rfl (by decide) rfl ?_
          refine z_get dX6_orient_64 rfl hiX6_orient_X5 2 lkX6_orient_127 (Nat.le_of_ble_eq_true rfl) rfl rfl (by decide) rfl ?_
          refine z_iload dX6_orient_67 rfl rfl ?_
          refine z_ialdN (j := spN a.toNatClampNeg b.toNatClampNeg c.toNatClampNeg) dX6_orient_69 rfl (Nat.le_of_ble_eq_true rfl) rfl (rfl) (by omega) (by decide) ?_
          refine z_iload dX6_orient_70 rfl rfl ?_
          refine z_ineg dX6_orient_72 rfl ?_
          refine z_icmp_ne (tgt := 79) dX6_orient_73 rfl (by decide) (fun c73 => ?_) (fun c73 => ?_)
          · refine z_aload_n dX6_orient_79 rfl rfl ?_
            refine z_get dX6_orient_80 rfl hiX6_orient_X6 4 lkX6_orient_30 (Nat.le_of_ble_eq_true rfl) h0 rfl (by decide) rfl ?_
            refine z_iload dX6_orient_83 rfl rfl ?_
            refine z_iload dX6_orient_85 rfl rfl ?_
            refine z_callVi (c_X5_addOriented G ex _ bo oo ori (spN a.toNatClampNeg b.toNatClampNeg c.toNatClampNeg) (s * (X5_turnOf_v (nI a.toNatClampNeg) (nI b.toNatClampNeg) (nI c.toNatClampNeg))) (by omega) rfl rfl) gX6_orient_X5_addOriented rfl dX6_orient_87 rfl rfl rfl okk_X5_addOriented (Nat.le_of_ble_eq_true rfl) rfl rfl ⟨Nat.le_of_ble_eq_true rfl, Nat.le_of_ble_eq_true rfl⟩ ⟨Nat.le_of_ble_eq_true rfl, Nat.le_of_ble_eq_true rfl⟩ (Nat.le_of_ble_eq_true rfl) ?_
            refine z_nn (L' := [(36, (oTld G bo (X5_addOriented_p36_1 oo ori (spN a.toNatClampNeg b.toNatClampNeg c.toNatClampNeg)))), (39, (zI G 120 (X5_addOriented_c39 oo ori (spN a.toNatClampNeg b.toNatClampNeg c.toNatClampNeg) (s * (X5_turnOf_v (nI a.toNatClampNeg) (nI b.toNatClampNeg) (nI c.toNatClampNeg))))))]) rfl ?_
            exact z_ireturn dX6_orient_90 rfl rfl (Nat.le_refl _) (Nat.le_refl _) (fun _ => rfl) ⟨by simp only [X6_orient_v, if_neg c10, if_neg c16, if_pos c22, if_pos c57, if_neg c73], by simp only [X6_orient_p36_1, X6_orient_c39, if_neg c10, if_neg c16, if_pos c22, if_pos c57, if_neg c73]⟩
          · refine z_bipush (v := (-2)) dX6_orient_76 rfl (by decide) ?_
            exact z_ireturn dX6_orient_78 rfl rfl (Nat.le_refl _) (Nat.le_refl _) (fun _ => rfl) ⟨by simp only [X6_orient_v, if_neg c10, if_neg c16, if_pos c22, if_pos c57, if_pos c73], by simp only [X6_orient_p36_1, X6_orient_c39, if_neg c10, if_neg c16, if_pos c22, if_pos c57, if_pos c73]⟩
      · refine z_bipush (v := (-9)) dX6_orient_25 rfl (by decide) ?_
        exact z_ireturn dX6_orient_27 rfl rfl (Nat.le_refl _) (Nat.le_refl _) (fun _ => rfl) ⟨by simp only [X6_orient_v, if_neg c10, if_neg c16, if_neg c22], by simp only [X6_orient_p36_1, X6_orient_c39, if_neg c10, if_neg c16, if_neg c22]⟩
set_option maxRecDepth 100000 in
set_option maxHeartbeats 4000000 in
theorem c_X6_coordinate_19 (G : zG) (ex : Bool) (g : Nat → va_E) (pts lns ltr : Nat) (inw : Int32) (ont : Nat) (fnd : Int32) (stp : Nat) (fd psz : Nat) (n0 n1 n2 : Nat → Int32) (plc : Nat → Int32) (p i : Int32) (hp : pts ≤ 10) (hpc : ¬ fnd = 0 → ∀ k, k < pts → vp_in (plc k) 183) (h0 : g 0 = (oCfg G 19 2 (nI ont))) (h19 : g 19 = (oTxt G 19 (nI pts) (nI lns) (nI ltr) inw)) (h40 : g 40 = (oSch G fnd (nI stp))) (h41 : g 41 = (oPln G (nI fd) (nI psz))) (h42 : g 42 = (zR G 3 (zrw G 3 43))) (h43 : g 43 = (zI G 183 n0)) (h44 : g 44 = (zI G 183 n1)) (h45 : g 45 = (zI G 183 n2)) (h46 : g 46 = (zI G 10 plc)) : zC G yX6_coordinate wsX6_coordinate (zrm 1 23) ex [.ref (zB G + 0), .int p, .int i] (zN, g) (fun r h => r = some (.int (X6_coordinate_v pts fnd n0 n1 n2 plc p i)) ∧ h = (zN, g)) := by
  refine zC_of mX6_coordinate (lv := [some (.ref (zB G + 0)), some (.int p), some (.int i)]) rfl rfl (by decide) (by intro v hv; simp at hv; rcases hv with rfl | rfl | rfl <;> rfl) (Nat.le_of_ble_eq_true rfl) rfl ?_
  refine z_0 ?_
  refine z_aload_n dX6_coordinate_0 rfl rfl ?_
  refine z_get dX6_coordinate_1 rfl hiX6_coordinate_X6 2 lkX6_coordinate_20 (Nat.le_of_ble_eq_true rfl) h0 rfl (by decide) rfl ?_
  refine z_iload_n dX6_coordinate_4 rfl rfl ?_
  refine z_callVi (c_X4_hasPoint_19 G ex _ pts lns ltr inw p h19) gX6_coordinate_X4_hasPoint rfl dX6_coordinate_5 rfl rfl rfl okk_X4_hasPoint (Nat.le_of_ble_eq_true rfl) h19 rfl ⟨Nat.le_of_ble_eq_true rfl, Nat.le_of_ble_eq_true rfl⟩ ⟨Nat.le_of_ble_eq_true rfl, Nat.le_of_ble_eq_true rfl⟩ (Nat.le_of_ble_eq_true rfl) ?_
  refine z_if_eq (tgt := 20) dX6_coordinate_8 rfl (by decide) (fun c8 => ?_) (fun c8 => ?_)
  · refine z_bipush (v := (-9)) dX6_coordinate_20 rfl (by decide) ?_
    exact z_ireturn dX6_coordinate_22 rfl rfl (Nat.le_refl _) (Nat.le_refl _) (fun _ => rfl) ⟨by simp only [X6_coordinate_v, if_pos c8], rfl⟩
  · refine z_iload_n dX6_coordinate_11 rfl rfl ?_
    refine z_if_lt (tgt := 20) dX6_coordinate_12 rfl (by decide) (fun c12 => ?_) (fun c12 => ?_)
    · refine z_bipush (v := (-9)) dX6_coordinate_20 rfl (by decide) ?_
      exact z_ireturn dX6_coordinate_22 rfl rfl (Nat.le_refl _) (Nat.le_refl _) (fun _ => rfl) ⟨by simp only [X6_coordinate_v, if_neg c8, if_pos c12], rfl⟩
    · refine z_iload_n dX6_coordinate_15 rfl rfl ?_
      refine z_iconst (v := nI 3) dX6_coordinate_16 rfl (by decide) ?_
      refine z_icmp_le (tgt := 23) dX6_coordinate_17 rfl (by decide) (fun c17 => ?_) (fun c17 => ?_)
      · refine z_aload_n dX6_coordinate_23 rfl rfl ?_
        refine z_get dX6_coordinate_24 rfl hiX6_coordinate_X6 5 lkX6_coordinate_39 (Nat.le_of_ble_eq_true rfl) h0 rfl (by decide) rfl ?_
        refine z_get dX6_coordinate_27 rfl hiX6_coordinate_X3 1 lkX6_coordinate_143 (Nat.le_of_ble_eq_true rfl) h40 rfl (by decide) rfl ?_
        refine z_if_ne (tgt := 36) dX6_coordinate_30 rfl (by decide) (fun c30 => ?_) (fun c30 => ?_)
        · have hvp : vp_in p pts := hasPoint_in c8 hp
          have hlp := zvlt hvp
          have hvi : vp_in i 4 := zle_in c12 c17 (by decide)
          have hli := zvlt hvi
          refine z_lv (congrArg (fun z9 : Int32 => ([some (.ref (zB G + 0)), some (.int z9), some (.int i)] : List (Option Value))) (show p = (nI p.toNatClampNeg) from zvin hvp)) ?_
          refine z_lv (congrArg (fun z9 : Int32 => ([some (.ref (zB G + 0)), some (.int (nI p.toNatClampNeg)), some (.int z9)] : List (Option Value))) (show i = (nI i.toNatClampNeg) from zvin hvi)) ?_
          refine z_aload_n dX6_coordinate_36 rfl rfl ?_
          refine z_get dX6_coordinate_37 rfl hiX6_coordinate_X6 5 lkX6_coordinate_39 (Nat.le_of_ble_eq_true rfl) h0 rfl (by decide) rfl ?_
          refine z_iload_n dX6_coordinate_40 rfl rfl ?_
          refine z_iload_n dX6_coordinate_41 rfl rfl ?_
          refine z_callVi (c_X3_numberOf_N G ex _ fnd (nI stp) (nI fd) psz n0 n1 n2 plc p.toNatClampNeg i.toNatClampNeg (by omega) (by omega) (hpc c30 _ hlp) h40 h41 h42 h43 h44 h45 h46) gX6_coordinate_X3_numberOf rfl dX6_coordinate_42 rfl rfl rfl okk_X3_numberOf (Nat.le_of_ble_eq_true rfl) h40 rfl ⟨Nat.le_of_ble_eq_true rfl, Nat.le_of_ble_eq_true rfl⟩ ⟨Nat.le_of_ble_eq_true rfl, Nat.le_of_ble_eq_true rfl⟩ (Nat.le_of_ble_eq_true rfl) ?_
          exact z_ireturn dX6_coordinate_45 rfl rfl (Nat.le_refl _) (Nat.le_refl _) (fun _ => rfl) ⟨by simp only [X6_coordinate_v, if_neg c8, if_neg c12, if_pos c17, if_neg c30], rfl⟩
        · refine z_bipush (v := (-2)) dX6_coordinate_33 rfl (by decide) ?_
          exact z_ireturn dX6_coordinate_35 rfl rfl (Nat.le_refl _) (Nat.le_refl _) (fun _ => rfl) ⟨by simp only [X6_coordinate_v, if_neg c8, if_neg c12, if_pos c17, if_pos c30], rfl⟩
      · refine z_bipush (v := (-9)) dX6_coordinate_20 rfl (by decide) ?_
        exact z_ireturn dX6_coordinate_22 rfl rfl (Nat.le_refl _) (Nat.le_refl _) (fun _ => rfl) ⟨by simp only [X6_coordinate_v, if_neg c8, if_neg c12, if_neg c17], rfl⟩
