theorem rprime_in {p : Int32} (h : ¬ X7_isPrime_v p = 0) : p = nI 2 ∨ p = nI 3 ∨ p = nI 5 ∨ p = nI 7 ∨ p = nI 11 ∨ p = nI 13 := by
  unfold X7_isPrime_v at h
  by_cases c0 : p = nI 2
  · exact Or.inl c0
  by_cases c1 : p = nI 3
  · exact Or.inr (Or.inl c1)
  by_cases c2 : p = nI 5
  · exact Or.inr (Or.inr (Or.inl c2))
  by_cases c3 : p = nI 7
  · exact Or.inr (Or.inr (Or.inr (Or.inl c3)))
  by_cases c4 : p = nI 11
  · exact Or.inr (Or.inr (Or.inr (Or.inr (Or.inl c4))))
  by_cases c5 : p = nI 13
  · exact Or.inr (Or.inr (Or.inr (Or.inr (Or.inr c5))))
  · simp only [if_neg c0, if_neg c1, if_neg c2, if_neg c3, if_neg c4, if_neg c5] at h
    exact absurd rfl h
theorem rprime_v {p : Int32} (h : ¬ X7_isPrime_v p = 0) : vp_in p 14 ∧ 1 ≤ p.toNatClampNeg := by
  rcases rprime_in h with e | e | e | e | e | e <;> (subst e; exact ⟨vp_in_nI (by decide) (by decide), by decide⟩)
theorem places_le : ∀ f, f < 14 → X7_placesOf_n f ≤ 183 := by decide +kernel
theorem isIn_1 {v : Int32} (h : ¬ X7_isIn_v v (nI 1) (nI 20000) = 0) : vp_in v 20001 ∧ 1 ≤ v.toNatClampNeg := by
  unfold X7_isIn_v at h
  repeat' split at h
  all_goals first | exact absurd rfl h | skip
  rename_i c1 c2
  have h0 : ¬ v < 0 := fun q => c1 (Int32.lt_trans q (by decide))
  have e := zge9 h0
  have hb := Int32.toNatClampNeg_lt v
  refine ⟨fun z => ?_, Nat.not_lt.mp (fun q => c1 (by rw [e]; exact nI_lt q (by omega)))⟩
  rcases z with z | z
  · exact h0 z
  · exact c2 (by rw [e]; exact nI_lt (by omega) (by omega))
theorem zdecm (m : Nat) : nI m + Int32.ofInt (-1) = nI m - nI 1 := by
  show nI m + -1 = nI m - 1
  rw [Int32.sub_eq_add_neg]
theorem zm1_ge9 {m : Nat} (h : 0 ≤ nI m - nI 1) : 1 ≤ m := by
  rcases Nat.eq_zero_or_pos m with q | q
  · subst q
    exact absurd h (by decide)
  · exact q
def rlI (P ms pts t s q : Nat) (tr sp : Nat → Int32) : Prop := t + 2 * (ms - s) + q ≤ 2 * ms + 1 ∧ s ≤ ms ∧ q ≤ pts ∧ (∀ k, k < q → vp_in (tr k) (P + 1)) ∧ ∀ k, k + 1 < q → vp_in (sp k) 183
theorem rl_back {P ms pts t s q : Nat} {tr sp : Nat → Int32} (h : rlI P ms pts t s q tr sp) (hq : 1 ≤ q) : rlI P ms pts (t + 1) s (q - 1) tr sp := by
  obtain ⟨h1, h2, h3, h4, h5⟩ := h
  exact ⟨by omega, h2, by omega, fun k hk => h4 k (by omega), fun k hk => h5 k (by omega)⟩
theorem vp_suc {x : Int32} {P : Nat} (h : vp_in x (P + 1)) (hP : P ≤ 183) (hn : ¬ x = nI P) : x.toNatClampNeg < P ∧ vp_in (x + nI 1) (P + 1) := by
  have e := zvin h
  have l := zvlt h
  have l2 : x.toNatClampNeg < P := Nat.lt_of_le_of_ne (Nat.lt_succ_iff.mp l) (fun q => hn (by rw [e, q]))
  refine ⟨l2, ?_⟩
  rw [e, nI_add]
  exact vp_in_nI (by omega) (by omega)
theorem rl_s0 {P ms pts t s q : Nat} {tr sp : Nat → Int32} (h : rlI P ms pts t s q tr sp) (hq : 1 ≤ q) (hs : ¬ s = ms) (hP : P ≤ 183) (hn : ¬ tr (q - 1) = nI P) : rlI P ms pts (t + 1) (s + 1) (q - 1 + 1) (upd tr (q - 1) (tr (q - 1) + nI 1)) sp := by
  obtain ⟨h1, h2, h3, h4, h5⟩ := h
  refine ⟨by omega, by omega, by omega, fun k hk => ?_, fun k hk => h5 k (by omega)⟩
  simp only [upd]
  split
  · exact (vp_suc (h4 _ (by omega)) hP hn).2
  · exact h4 k (by omega)
theorem rl_s1 {P ms pts t s q : Nat} {tr sp : Nat → Int32} (h : rlI P ms pts t s q tr sp) (hq : 1 ≤ q) (hs : ¬ s = ms) (hP : P ≤ 183) (hn : ¬ tr (q - 1) = nI P) (hp : ¬ q - 1 + 1 = pts) : rlI P ms pts (t + 1) (s + 1) (q - 1 + 1 + 1) (upd (upd tr (q - 1) (tr (q - 1) + nI 1)) (q - 1 + 1) (nI 0)) (upd sp (q - 1) (nI (tr (q - 1)).toNatClampNeg)) := by
  obtain ⟨h1, h2, h3, h4, h5⟩ := h
  have v := vp_suc (h4 (q - 1) (by omega)) hP hn
  refine ⟨by omega, by omega, by omega, fun k hk => ?_, fun k hk => ?_⟩
  · simp only [upd]
    split
    · exact vp_in_nI (by omega) (by omega)
    · split
      · exact v.2
      · exact h4 k (by omega)
  · simp only [upd]
    split
    · exact vp_in_nI (by omega) (by decide)
    · exact h5 k (by omega)
abbrev mX7_realise : zM := (cX7_realise, 6, (some .int), RX7, wsX7_realise, "realise")
theorem hiX7_realise_X7 : ∀ w ∈ wsX70, w ∈ wsX7_realise := fun w h => List.mem_cons_of_mem _ (List.mem_append_right _ h)
theorem lkX7_realise_122 : Cond.fieldLink RX7 122 "ConfigSearchModel" "code" "I" ∈ wsX7_realise := by decide +kernel
theorem lkX7_realise_146 : Cond.fieldLink RX7 146 "ConfigSearchModel" "lines" "I" ∈ wsX7_realise := by decide +kernel
theorem lkX7_realise_158 : Cond.fieldLink RX7 158 "ConfigSearchModel" "hasPicture" "Z" ∈ wsX7_realise := by decide +kernel
theorem lkX7_realise_165 : Cond.fieldLink RX7 165 "ConfigSearchModel" "steps" "I" ∈ wsX7_realise := by decide +kernel
theorem lkX7_realise_49 : Cond.fieldLink RX7 49 "ConfigSearchModel" "tries" "[I" ∈ wsX7_realise := by decide +kernel
theorem okk_X7_goes : zOk yX7_goes 3 := by unfold zOk; decide +kernel
theorem lkX7_realise_52 : Cond.fieldLink RX7 52 "ConfigSearchModel" "spot" "[I" ∈ wsX7_realise := by decide +kernel
theorem lkX7_realise_143 : Cond.fieldLink RX7 143 "ConfigSearchModel" "points" "I" ∈ wsX7_realise := by decide +kernel
theorem okk_X7_found : zOk yX7_found 1 := by unfold zOk; decide +kernel
theorem okk_X7_isPrime : zOk yX7_isPrime 1 := by unfold zOk; decide +kernel
def X7_realise_L70_F (pts : Nat) (lns : Nat) (brs : Nat) (ors : Nat) (laid : Int32) (lm : Nat → Int32) (bm : Nat → Int32) (om : Nat → Int32) (os : Nat → Int32) (fs : Nat → Int32) (sc : Nat → Int32) (th : Nat → Int32) (wn : Nat → Int32) (f : Int32) (ms : Int32) (t : Nat) (a9 : (Nat) × (Nat) × (Nat → Int32) × (Nat → Int32)) : (Nat) × (Nat) × (Nat → Int32) × (Nat → Int32) := if (nI a9.2.1 - nI 1) < 0 then (a9.1, a9.2.1, a9.2.2.1, a9.2.2.2) else (if (a9.2.2.1 (a9.2.1 - 1)) = (nI (X7_placesOf_n f.toNatClampNeg)) then (a9.1, a9.2.1 - 1, a9.2.2.1, a9.2.2.2) else (if (nI a9.1) = (nI ms.toNatClampNeg) then (a9.1, a9.2.1, a9.2.2.1, a9.2.2.2) else (if (X7_goes_v (X7_layWants_c92 laid fs sc th f.toNatClampNeg) (X7_layWants_c93 laid fs sc th f.toNatClampNeg) (X7_layWants_c94 laid fs sc th f.toNatClampNeg) (X7_layWants_c95 pts lns brs ors lm bm om os wn f.toNatClampNeg) a9.2.2.2 (nI f.toNatClampNeg) (a9.2.1 - 1) ((a9.2.2.1 (a9.2.1 - 1)).toNatClampNeg)) = 0 then (a9.1 + 1, a9.2.1 - 1 + 1, upd a9.2.2.1 (a9.2.1 - 1) ((a9.2.2.1 (a9.2.1 - 1)) + (nI 1)), a9.2.2.2) else (if (nI ((a9.2.1 - 1) + 1)) = (nI pts) then (a9.1, a9.2.1, a9.2.2.1, a9.2.2.2) else (a9.1 + 1, (a9.2.1 - 1) + 1 + 1, upd (upd a9.2.2.1 (a9.2.1 - 1) ((a9.2.2.1 (a9.2.1 - 1)) + (nI 1))) ((a9.2.1 - 1) + 1) (nI 0), upd a9.2.2.2 (a9.2.1 - 1) (nI ((a9.2.2.1 (a9.2.1 - 1)).toNatClampNeg)))))))
def X7_realise_L70_B (pts : Nat) (lns : Nat) (brs : Nat) (ors : Nat) (fld : Int32) (laid : Int32) (lm : Nat → Int32) (bm : Nat → Int32) (om : Nat → Int32) (os : Nat → Int32) (fs : Nat → Int32) (sc : Nat → Int32) (th : Nat → Int32) (wn : Nat → Int32) (po : Nat → Int32) (f : Int32) (ms : Int32) (t : Nat) (a9 : (Nat) × (Nat) × (Nat → Int32) × (Nat → Int32)) : Option ((Int32) × (Nat) × (Int32) × (Int32) × (Int32) × (Int32) × (Nat → Int32) × (Nat → Int32) × (Nat → Int32) × (Nat → Int32) × (Nat → Int32) × (Nat → Int32) × (Nat → Int32)) := if (nI a9.2.1 - nI 1) < 0 then (some (nI 0, 0, nI a9.1, nI 0, fld, nI (X7_layWants_p76_10 f.toNatClampNeg), po, a9.2.2.1, a9.2.2.2, X7_layWants_c92 laid fs sc th f.toNatClampNeg, X7_layWants_c93 laid fs sc th f.toNatClampNeg, X7_layWants_c94 laid fs sc th f.toNatClampNeg, X7_layWants_c95 pts lns brs ors lm bm om os wn f.toNatClampNeg)) else (if (a9.2.2.1 (a9.2.1 - 1)) = (nI (X7_placesOf_n f.toNatClampNeg)) then none else (if (nI a9.1) = (nI ms.toNatClampNeg) then (some (nI 2, 0, nI a9.1, nI 0, fld, nI (X7_layWants_p76_10 f.toNatClampNeg), po, a9.2.2.1, a9.2.2.2, X7_layWants_c92 laid fs sc th f.toNatClampNeg, X7_layWants_c93 laid fs sc th f.toNatClampNeg, X7_layWants_c94 laid fs sc th f.toNatClampNeg, X7_layWants_c95 pts lns brs ors lm bm om os wn f.toNatClampNeg)) else (if (X7_goes_v (X7_layWants_c92 laid fs sc th f.toNatClampNeg) (X7_layWants_c93 laid fs sc th f.toNatClampNeg) (X7_layWants_c94 laid fs sc th f.toNatClampNeg) (X7_layWants_c95 pts lns brs ors lm bm om os wn f.toNatClampNeg) a9.2.2.2 (nI f.toNatClampNeg) (a9.2.1 - 1) ((a9.2.2.1 (a9.2.1 - 1)).toNatClampNeg)) = 0 then none else (if (nI ((a9.2.1 - 1) + 1)) = (nI pts) then (some (nI (X7_found_n ), 0, nI (a9.1 + 1), nI (X7_found_p76_8 ), X7_found_p76_9 (nI f.toNatClampNeg), nI (X7_layWants_p76_10 f.toNatClampNeg), X7_found_c89 pts po (upd a9.2.2.2 (a9.2.1 - 1) (nI ((a9.2.2.1 (a9.2.1 - 1)).toNatClampNeg))), upd a9.2.2.1 (a9.2.1 - 1) ((a9.2.2.1 (a9.2.1 - 1)) + (nI 1)), upd a9.2.2.2 (a9.2.1 - 1) (nI ((a9.2.2.1 (a9.2.1 - 1)).toNatClampNeg)), X7_layWants_c92 laid fs sc th f.toNatClampNeg, X7_layWants_c93 laid fs sc th f.toNatClampNeg, X7_layWants_c94 laid fs sc th f.toNatClampNeg, X7_layWants_c95 pts lns brs ors lm bm om os wn f.toNatClampNeg)) else none))))
def X7_realise_L70v2_F (pts : Nat) (lns : Nat) (brs : Nat) (ors : Nat) (laid : Int32) (lm : Nat → Int32) (bm : Nat → Int32) (om : Nat → Int32) (os : Nat → Int32) (fs : Nat → Int32) (sc : Nat → Int32) (th : Nat → Int32) (wn : Nat → Int32) (f : Int32) (ms : Int32) (t : Nat) (a9 : (Nat) × (Nat) × (Nat → Int32) × (Nat → Int32)) : (Nat) × (Nat) × (Nat → Int32) × (Nat → Int32) := if (nI a9.2.1 - nI 1) < 0 then (a9.1, a9.2.1, a9.2.2.1, a9.2.2.2) else (if (a9.2.2.1 (a9.2.1 - 1)) = (nI (X7_placesOf_n f.toNatClampNeg)) then (a9.1, a9.2.1 - 1, a9.2.2.1, a9.2.2.2) else (if (nI a9.1) = (nI ms.toNatClampNeg) then (a9.1, a9.2.1, a9.2.2.1, a9.2.2.2) else (if (X7_goes_v (X7_layWants_c92 laid fs sc th f.toNatClampNeg) (X7_layWants_c93 laid fs sc th f.toNatClampNeg) (X7_layWants_c94 laid fs sc th f.toNatClampNeg) (X7_layWants_c95 pts lns brs ors lm bm om os wn f.toNatClampNeg) a9.2.2.2 (nI f.toNatClampNeg) (a9.2.1 - 1) ((a9.2.2.1 (a9.2.1 - 1)).toNatClampNeg)) = 0 then (a9.1 + 1, a9.2.1 - 1 + 1, upd a9.2.2.1 (a9.2.1 - 1) ((a9.2.2.1 (a9.2.1 - 1)) + (nI 1)), a9.2.2.2) else (if (nI ((a9.2.1 - 1) + 1)) = (nI pts) then (a9.1, a9.2.1, a9.2.2.1, a9.2.2.2) else (a9.1 + 1, (a9.2.1 - 1) + 1 + 1, upd (upd a9.2.2.1 (a9.2.1 - 1) ((a9.2.2.1 (a9.2.1 - 1)) + (nI 1))) ((a9.2.1 - 1) + 1) (nI 0), upd a9.2.2.2 (a9.2.1 - 1) (nI ((a9.2.2.1 (a9.2.1 - 1)).toNatClampNeg)))))))
def X7_realise_L70v2_B (pts : Nat) (lns : Nat) (brs : Nat) (ors : Nat) (fld : Int32) (laid : Int32) (lm : Nat → Int32) (bm : Nat → Int32) (om : Nat → Int32) (os : Nat → Int32) (fs : Nat → Int32) (sc : Nat → Int32) (th : Nat → Int32) (wn : Nat → Int32) (po : Nat → Int32) (f : Int32) (ms : Int32) (t : Nat) (a9 : (Nat) × (Nat) × (Nat → Int32) × (Nat → Int32)) : Option ((Int32) × (Nat) × (Int32) × (Int32) × (Int32) × (Int32) × (Nat → Int32) × (Nat → Int32) × (Nat → Int32) × (Nat → Int32) × (Nat → Int32) × (Nat → Int32) × (Nat → Int32)) := if (nI a9.2.1 - nI 1) < 0 then (some (nI 0, 0, nI a9.1, nI 0, fld, nI (X7_layWants_p76_10 f.toNatClampNeg), po, a9.2.2.1, a9.2.2.2, X7_layWants_c92 laid fs sc th f.toNatClampNeg, X7_layWants_c93 laid fs sc th f.toNatClampNeg, X7_layWants_c94 laid fs sc th f.toNatClampNeg, X7_layWants_c95 pts lns brs ors lm bm om os wn f.toNatClampNeg)) else (if (a9.2.2.1 (a9.2.1 - 1)) = (nI (X7_placesOf_n f.toNatClampNeg)) then none else (if (nI a9.1) = (nI ms.toNatClampNeg) then (some (nI 2, 0, nI a9.1, nI 0, fld, nI (X7_layWants_p76_10 f.toNatClampNeg), po, a9.2.2.1, a9.2.2.2, X7_layWants_c92 laid fs sc th f.toNatClampNeg, X7_layWants_c93 laid fs sc th f.toNatClampNeg, X7_layWants_c94 laid fs sc th f.toNatClampNeg, X7_layWants_c95 pts lns brs ors lm bm om os wn f.toNatClampNeg)) else (if (X7_goes_v (X7_layWants_c92 laid fs sc th f.toNatClampNeg) (X7_layWants_c93 laid fs sc th f.toNatClampNeg) (X7_layWants_c94 laid fs sc th f.toNatClampNeg) (X7_layWants_c95 pts lns brs ors lm bm om os wn f.toNatClampNeg) a9.2.2.2 (nI f.toNatClampNeg) (a9.2.1 - 1) ((a9.2.2.1 (a9.2.1 - 1)).toNatClampNeg)) = 0 then none else (if (nI ((a9.2.1 - 1) + 1)) = (nI pts) then (some (nI (X7_found_n ), 0, nI (a9.1 + 1), nI (X7_found_p76_8 ), X7_found_p76_9 (nI f.toNatClampNeg), nI (X7_layWants_p76_10 f.toNatClampNeg), X7_found_c89 pts po (upd a9.2.2.2 (a9.2.1 - 1) (nI ((a9.2.2.1 (a9.2.1 - 1)).toNatClampNeg))), upd a9.2.2.1 (a9.2.1 - 1) ((a9.2.2.1 (a9.2.1 - 1)) + (nI 1)), upd a9.2.2.2 (a9.2.1 - 1) (nI ((a9.2.2.1 (a9.2.1 - 1)).toNatClampNeg)), X7_layWants_c92 laid fs sc th f.toNatClampNeg, X7_layWants_c93 laid fs sc th f.toNatClampNeg, X7_layWants_c94 laid fs sc th f.toNatClampNeg, X7_layWants_c95 pts lns brs ors lm bm om os wn f.toNatClampNeg)) else none))))
def X7_realise_v (tps pts lns wds brs ors : Nat) (fld laid told : Int32) (rws : Nat) (cms : Int32) (cmT : Nat) (cmS isN : Int32) (trs : Nat) (lm bm om os fs sc th wn po spo trs9 : Nat → Int32) (f ms : Int32) : Int32 := if f = 0 then (if (X7_isIn_v ms (nI 1) (nI 20000)) = 0 then (-9) else (if (nI lns) = 0 then (-2) else (zpick (zfoldB (X7_realise_L70_B pts lns brs ors fld laid lm bm om os fs sc th wn po f ms) (X7_realise_L70_F pts lns brs ors laid lm bm om os fs sc th wn f ms) (2 * ms.toNatClampNeg + 2) 0 (0, 1, upd trs9 0 (nI 0), spo)) (fun b => b.1) (fun am70 => nI 0)))) else (if (X7_isPrime_v f) = 0 then (-9) else (if (X7_isIn_v ms (nI 1) (nI 20000)) = 0 then (-9) else (if (nI lns) = 0 then (-2) else (zpick (zfoldB (X7_realise_L70v2_B pts lns brs ors fld laid lm bm om os fs sc th wn po f ms) (X7_realise_L70v2_F pts lns brs ors laid lm bm om os fs sc th wn f ms) (2 * ms.toNatClampNeg + 2) 0 (0, 1, upd trs9 0 (nI 0), spo)) (fun b => b.1) (fun am70 => nI 0)))))
def X7_realise_p76_0 (tps pts lns wds brs ors : Nat) (fld laid told : Int32) (rws : Nat) (cms : Int32) (cmT : Nat) (cmS isN : Int32) (trs : Nat) (lm bm om os fs sc th wn po spo trs9 : Nat → Int32) (f ms : Int32) : Nat := if f = 0 then (if (X7_isIn_v ms (nI 1) (nI 20000)) = 0 then 0 else (if (nI lns) = 0 then 0 else (zpick (zfoldB (X7_realise_L70_B pts lns brs ors fld laid lm bm om os fs sc th wn po f ms) (X7_realise_L70_F pts lns brs ors laid lm bm om os fs sc th wn f ms) (2 * ms.toNatClampNeg + 2) 0 (0, 1, upd trs9 0 (nI 0), spo)) (fun b => b.2.1) (fun am70 => 0)))) else (if (X7_isPrime_v f) = 0 then 0 else (if (X7_isIn_v ms (nI 1) (nI 20000)) = 0 then 0 else (if (nI lns) = 0 then 0 else (zpick (zfoldB (X7_realise_L70v2_B pts lns brs ors fld laid lm bm om os fs sc th wn po f ms) (X7_realise_L70v2_F pts lns brs ors laid lm bm om os fs sc th wn f ms) (2 * ms.toNatClampNeg + 2) 0 (0, 1, upd trs9 0 (nI 0), spo)) (fun b => b.2.1) (fun am70 => 0)))))
def X7_realise_p76_7 (tps pts lns wds brs ors : Nat) (stp fld laid told : Int32) (rws : Nat) (cms : Int32) (cmT : Nat) (cmS isN : Int32) (trs : Nat) (lm bm om os fs sc th wn po spo trs9 : Nat → Int32) (f ms : Int32) : Int32 := if f = 0 then (if (X7_isIn_v ms (nI 1) (nI 20000)) = 0 then stp else (if (nI lns) = 0 then stp else (zpick (zfoldB (X7_realise_L70_B pts lns brs ors fld laid lm bm om os fs sc th wn po f ms) (X7_realise_L70_F pts lns brs ors laid lm bm om os fs sc th wn f ms) (2 * ms.toNatClampNeg + 2) 0 (0, 1, upd trs9 0 (nI 0), spo)) (fun b => b.2.2.1) (fun am70 => nI am70.1)))) else (if (X7_isPrime_v f) = 0 then stp else (if (X7_isIn_v ms (nI 1) (nI 20000)) = 0 then stp else (if (nI lns) = 0 then stp else (zpick (zfoldB (X7_realise_L70v2_B pts lns brs ors fld laid lm bm om os fs sc th wn po f ms) (X7_realise_L70v2_F pts lns brs ors laid lm bm om os fs sc th wn f ms) (2 * ms.toNatClampNeg + 2) 0 (0, 1, upd trs9 0 (nI 0), spo)) (fun b => b.2.2.1) (fun am70 => nI am70.1)))))
def X7_realise_p76_8 (tps pts lns wds brs ors : Nat) (hasP fld laid told : Int32) (rws : Nat) (cms : Int32) (cmT : Nat) (cmS isN : Int32) (trs : Nat) (lm bm om os fs sc th wn po spo trs9 : Nat → Int32) (f ms : Int32) : Int32 := if f = 0 then (if (X7_isIn_v ms (nI 1) (nI 20000)) = 0 then hasP else (if (nI lns) = 0 then hasP else (zpick (zfoldB (X7_realise_L70_B pts lns brs ors fld laid lm bm om os fs sc th wn po f ms) (X7_realise_L70_F pts lns brs ors laid lm bm om os fs sc th wn f ms) (2 * ms.toNatClampNeg + 2) 0 (0, 1, upd trs9 0 (nI 0), spo)) (fun b => b.2.2.2.1) (fun am70 => nI 0)))) else (if (X7_isPrime_v f) = 0 then hasP else (if (X7_isIn_v ms (nI 1) (nI 20000)) = 0 then hasP else (if (nI lns) = 0 then hasP else (zpick (zfoldB (X7_realise_L70v2_B pts lns brs ors fld laid lm bm om os fs sc th wn po f ms) (X7_realise_L70v2_F pts lns brs ors laid lm bm om os fs sc th wn f ms) (2 * ms.toNatClampNeg + 2) 0 (0, 1, upd trs9 0 (nI 0), spo)) (fun b => b.2.2.2.1) (fun am70 => nI 0)))))
def X7_realise_p76_9 (tps pts lns wds brs ors : Nat) (fld laid told : Int32) (rws : Nat) (cms : Int32) (cmT : Nat) (cmS isN : Int32) (trs : Nat) (lm bm om os fs sc th wn po spo trs9 : Nat → Int32) (f ms : Int32) : Int32 := if f = 0 then (if (X7_isIn_v ms (nI 1) (nI 20000)) = 0 then fld else (if (nI lns) = 0 then fld else (zpick (zfoldB (X7_realise_L70_B pts lns brs ors fld laid lm bm om os fs sc th wn po f ms) (X7_realise_L70_F pts lns brs ors laid lm bm om os fs sc th wn f ms) (2 * ms.toNatClampNeg + 2) 0 (0, 1, upd trs9 0 (nI 0), spo)) (fun b => b.2.2.2.2.1) (fun am70 => fld)))) else (if (X7_isPrime_v f) = 0 then fld else (if (X7_isIn_v ms (nI 1) (nI 20000)) = 0 then fld else (if (nI lns) = 0 then fld else (zpick (zfoldB (X7_realise_L70v2_B pts lns brs ors fld laid lm bm om os fs sc th wn po f ms) (X7_realise_L70v2_F pts lns brs ors laid lm bm om os fs sc th wn f ms) (2 * ms.toNatClampNeg + 2) 0 (0, 1, upd trs9 0 (nI 0), spo)) (fun b => b.2.2.2.2.1) (fun am70 => fld)))))
def X7_realise_p76_10 (tps pts lns wds brs ors : Nat) (fld laid told : Int32) (rws : Nat) (cms : Int32) (cmT : Nat) (cmS isN : Int32) (trs : Nat) (lm bm om os fs sc th wn po spo trs9 : Nat → Int32) (f ms : Int32) : Int32 := if f = 0 then (if (X7_isIn_v ms (nI 1) (nI 20000)) = 0 then laid else (if (nI lns) = 0 then laid else (zpick (zfoldB (X7_realise_L70_B pts lns brs ors fld laid lm bm om os fs sc th wn po f ms) (X7_realise_L70_F pts lns brs ors laid lm bm om os fs sc th wn f ms) (2 * ms.toNatClampNeg + 2) 0 (0, 1, upd trs9 0 (nI 0), spo)) (fun b => b.2.2.2.2.2.1) (fun am70 => nI (X7_layWants_p76_10 f.toNatClampNeg))))) else (if (X7_isPrime_v f) = 0 then laid else (if (X7_isIn_v ms (nI 1) (nI 20000)) = 0 then laid else (if (nI lns) = 0 then laid else (zpick (zfoldB (X7_realise_L70v2_B pts lns brs ors fld laid lm bm om os fs sc th wn po f ms) (X7_realise_L70v2_F pts lns brs ors laid lm bm om os fs sc th wn f ms) (2 * ms.toNatClampNeg + 2) 0 (0, 1, upd trs9 0 (nI 0), spo)) (fun b => b.2.2.2.2.2.1) (fun am70 => nI (X7_layWants_p76_10 f.toNatClampNeg))))))
def X7_realise_c89 (tps pts lns wds brs ors : Nat) (fld laid told : Int32) (rws : Nat) (cms : Int32) (cmT : Nat) (cmS isN : Int32) (trs : Nat) (lm bm om os fs sc th wn po spo trs9 : Nat → Int32) (f ms : Int32) : Nat → Int32 := if f = 0 then (if (X7_isIn_v ms (nI 1) (nI 20000)) = 0 then po else (if (nI lns) = 0 then po else (zpick (zfoldB (X7_realise_L70_B pts lns brs ors fld laid lm bm om os fs sc th wn po f ms) (X7_realise_L70_F pts lns brs ors laid lm bm om os fs sc th wn f ms) (2 * ms.toNatClampNeg + 2) 0 (0, 1, upd trs9 0 (nI 0), spo)) (fun b => b.2.2.2.2.2.2.1) (fun am70 => po)))) else (if (X7_isPrime_v f) = 0 then po else (if (X7_isIn_v ms (nI 1) (nI 20000)) = 0 then po else (if (nI lns) = 0 then po else (zpick (zfoldB (X7_realise_L70v2_B pts lns brs ors fld laid lm bm om os fs sc th wn po f ms) (X7_realise_L70v2_F pts lns brs ors laid lm bm om os fs sc th wn f ms) (2 * ms.toNatClampNeg + 2) 0 (0, 1, upd trs9 0 (nI 0), spo)) (fun b => b.2.2.2.2.2.2.1) (fun am70 => po)))))
def X7_realise_c90 (tps pts lns wds brs ors : Nat) (fld laid told : Int32) (rws : Nat) (cms : Int32) (cmT : Nat) (cmS isN : Int32) (trs : Nat) (lm bm om os fs sc th wn po spo trs9 : Nat → Int32) (f ms : Int32) : Nat → Int32 := if f = 0 then (if (X7_isIn_v ms (nI 1) (nI 20000)) = 0 then trs9 else (if (nI lns) = 0 then trs9 else (zpick (zfoldB (X7_realise_L70_B pts lns brs ors fld laid lm bm om os fs sc th wn po f ms) (X7_realise_L70_F pts lns brs ors laid lm bm om os fs sc th wn f ms) (2 * ms.toNatClampNeg + 2) 0 (0, 1, upd trs9 0 (nI 0), spo)) (fun b => b.2.2.2.2.2.2.2.1) (fun am70 => am70.2.2.1)))) else (if (X7_isPrime_v f) = 0 then trs9 else (if (X7_isIn_v ms (nI 1) (nI 20000)) = 0 then trs9 else (if (nI lns) = 0 then trs9 else (zpick (zfoldB (X7_realise_L70v2_B pts lns brs ors fld laid lm bm om os fs sc th wn po f ms) (X7_realise_L70v2_F pts lns brs ors laid lm bm om os fs sc th wn f ms) (2 * ms.toNatClampNeg + 2) 0 (0, 1, upd trs9 0 (nI 0), spo)) (fun b => b.2.2.2.2.2.2.2.1) (fun am70 => am70.2.2.1)))))
def X7_realise_c91 (tps pts lns wds brs ors : Nat) (fld laid told : Int32) (rws : Nat) (cms : Int32) (cmT : Nat) (cmS isN : Int32) (trs : Nat) (lm bm om os fs sc th wn po spo trs9 : Nat → Int32) (f ms : Int32) : Nat → Int32 := if f = 0 then (if (X7_isIn_v ms (nI 1) (nI 20000)) = 0 then spo else (if (nI lns) = 0 then spo else (zpick (zfoldB (X7_realise_L70_B pts lns brs ors fld laid lm bm om os fs sc th wn po f ms) (X7_realise_L70_F pts lns brs ors laid lm bm om os fs sc th wn f ms) (2 * ms.toNatClampNeg + 2) 0 (0, 1, upd trs9 0 (nI 0), spo)) (fun b => b.2.2.2.2.2.2.2.2.1) (fun am70 => am70.2.2.2)))) else (if (X7_isPrime_v f) = 0 then spo else (if (X7_isIn_v ms (nI 1) (nI 20000)) = 0 then spo else (if (nI lns) = 0 then spo else (zpick (zfoldB (X7_realise_L70v2_B pts lns brs ors fld laid lm bm om os fs sc th wn po f ms) (X7_realise_L70v2_F pts lns brs ors laid lm bm om os fs sc th wn f ms) (2 * ms.toNatClampNeg + 2) 0 (0, 1, upd trs9 0 (nI 0), spo)) (fun b => b.2.2.2.2.2.2.2.2.1) (fun am70 => am70.2.2.2)))))
def X7_realise_c92 (tps pts lns wds brs ors : Nat) (fld laid told : Int32) (rws : Nat) (cms : Int32) (cmT : Nat) (cmS isN : Int32) (trs : Nat) (lm bm om os fs sc th wn po spo trs9 : Nat → Int32) (f ms : Int32) : Nat → Int32 := if f = 0 then (if (X7_isIn_v ms (nI 1) (nI 20000)) = 0 then fs else (if (nI lns) = 0 then fs else (zpick (zfoldB (X7_realise_L70_B pts lns brs ors fld laid lm bm om os fs sc th wn po f ms) (X7_realise_L70_F pts lns brs ors laid lm bm om os fs sc th wn f ms) (2 * ms.toNatClampNeg + 2) 0 (0, 1, upd trs9 0 (nI 0), spo)) (fun b => b.2.2.2.2.2.2.2.2.2.1) (fun am70 => X7_layWants_c92 laid fs sc th f.toNatClampNeg)))) else (if (X7_isPrime_v f) = 0 then fs else (if (X7_isIn_v ms (nI 1) (nI 20000)) = 0 then fs else (if (nI lns) = 0 then fs else (zpick (zfoldB (X7_realise_L70v2_B pts lns brs ors fld laid lm bm om os fs sc th wn po f ms) (X7_realise_L70v2_F pts lns brs ors laid lm bm om os fs sc th wn f ms) (2 * ms.toNatClampNeg + 2) 0 (0, 1, upd trs9 0 (nI 0), spo)) (fun b => b.2.2.2.2.2.2.2.2.2.1) (fun am70 => X7_layWants_c92 laid fs sc th f.toNatClampNeg)))))
def X7_realise_c93 (tps pts lns wds brs ors : Nat) (fld laid told : Int32) (rws : Nat) (cms : Int32) (cmT : Nat) (cmS isN : Int32) (trs : Nat) (lm bm om os fs sc th wn po spo trs9 : Nat → Int32) (f ms : Int32) : Nat → Int32 := if f = 0 then (if (X7_isIn_v ms (nI 1) (nI 20000)) = 0 then sc else (if (nI lns) = 0 then sc else (zpick (zfoldB (X7_realise_L70_B pts lns brs ors fld laid lm bm om os fs sc th wn po f ms) (X7_realise_L70_F pts lns brs ors laid lm bm om os fs sc th wn f ms) (2 * ms.toNatClampNeg + 2) 0 (0, 1, upd trs9 0 (nI 0), spo)) (fun b => b.2.2.2.2.2.2.2.2.2.2.1) (fun am70 => X7_layWants_c93 laid fs sc th f.toNatClampNeg)))) else (if (X7_isPrime_v f) = 0 then sc else (if (X7_isIn_v ms (nI 1) (nI 20000)) = 0 then sc else (if (nI lns) = 0 then sc else (zpick (zfoldB (X7_realise_L70v2_B pts lns brs ors fld laid lm bm om os fs sc th wn po f ms) (X7_realise_L70v2_F pts lns brs ors laid lm bm om os fs sc th wn f ms) (2 * ms.toNatClampNeg + 2) 0 (0, 1, upd trs9 0 (nI 0), spo)) (fun b => b.2.2.2.2.2.2.2.2.2.2.1) (fun am70 => X7_layWants_c93 laid fs sc th f.toNatClampNeg)))))
def X7_realise_c94 (tps pts lns wds brs ors : Nat) (fld laid told : Int32) (rws : Nat) (cms : Int32) (cmT : Nat) (cmS isN : Int32) (trs : Nat) (lm bm om os fs sc th wn po spo trs9 : Nat → Int32) (f ms : Int32) : Nat → Int32 := if f = 0 then (if (X7_isIn_v ms (nI 1) (nI 20000)) = 0 then th else (if (nI lns) = 0 then th else (zpick (zfoldB (X7_realise_L70_B pts lns brs ors fld laid lm bm om os fs sc th wn po f ms) (X7_realise_L70_F pts lns brs ors laid lm bm om os fs sc th wn f ms) (2 * ms.toNatClampNeg + 2) 0 (0, 1, upd trs9 0 (nI 0), spo)) (fun b => b.2.2.2.2.2.2.2.2.2.2.2.1) (fun am70 => X7_layWants_c94 laid fs sc th f.toNatClampNeg)))) else (if (X7_isPrime_v f) = 0 then th else (if (X7_isIn_v ms (nI 1) (nI 20000)) = 0 then th else (if (nI lns) = 0 then th else (zpick (zfoldB (X7_realise_L70v2_B pts lns brs ors fld laid lm bm om os fs sc th wn po f ms) (X7_realise_L70v2_F pts lns brs ors laid lm bm om os fs sc th wn f ms) (2 * ms.toNatClampNeg + 2) 0 (0, 1, upd trs9 0 (nI 0), spo)) (fun b => b.2.2.2.2.2.2.2.2.2.2.2.1) (fun am70 => X7_layWants_c94 laid fs sc th f.toNatClampNeg)))))
def X7_realise_c95 (tps pts lns wds brs ors : Nat) (fld laid told : Int32) (rws : Nat) (cms : Int32) (cmT : Nat) (cmS isN : Int32) (trs : Nat) (lm bm om os fs sc th wn po spo trs9 : Nat → Int32) (f ms : Int32) : Nat → Int32 := if f = 0 then (if (X7_isIn_v ms (nI 1) (nI 20000)) = 0 then wn else (if (nI lns) = 0 then wn else (zpick (zfoldB (X7_realise_L70_B pts lns brs ors fld laid lm bm om os fs sc th wn po f ms) (X7_realise_L70_F pts lns brs ors laid lm bm om os fs sc th wn f ms) (2 * ms.toNatClampNeg + 2) 0 (0, 1, upd trs9 0 (nI 0), spo)) (fun b => b.2.2.2.2.2.2.2.2.2.2.2.2) (fun am70 => X7_layWants_c95 pts lns brs ors lm bm om os wn f.toNatClampNeg)))) else (if (X7_isPrime_v f) = 0 then wn else (if (X7_isIn_v ms (nI 1) (nI 20000)) = 0 then wn else (if (nI lns) = 0 then wn else (zpick (zfoldB (X7_realise_L70v2_B pts lns brs ors fld laid lm bm om os fs sc th wn po f ms) (X7_realise_L70v2_F pts lns brs ors laid lm bm om os fs sc th wn f ms) (2 * ms.toNatClampNeg + 2) 0 (0, 1, upd trs9 0 (nI 0), spo)) (fun b => b.2.2.2.2.2.2.2.2.2.2.2.2) (fun am70 => X7_layWants_c95 pts lns brs ors lm bm om os wn f.toNatClampNeg)))))
set_option maxRecDepth 100000 in
set_option maxHeartbeats 4000000 in
theorem c_X7_realise (G : zG) (ex : Bool) (g : Nat → va_E) (code : Int32) (tps pts lns wds brs ors : Nat) (stp hasP fld laid told : Int32) (rws : Nat) (cms : Int32) (cmT : Nat) (cmS isN : Int32) (trs : Nat) (lm bm om os fs sc th wn po spo trs9 : Nat → Int32) (f ms : Int32) (hl : lns ≤ 12) (hb : brs ≤ 20) (ho : ors ≤ 20) (hp : pts ≤ 10) (hpl : 1 ≤ lns → 1 ≤ pts) (h76 : g 76 = (oMod G code (nI tps) (nI pts) (nI lns) (nI wds) (nI brs) (nI ors) stp hasP fld laid told (nI rws) cms (nI cmT) cmS isN (nI trs))) (h82 : g 82 = (zI G 12 lm)) (h86 : g 86 = (zI G 20 bm)) (h87 : g 87 = (zI G 20 om)) (h88 : g 88 = (zI G 20 os)) (h92 : g 92 = (zI G 183 fs)) (h93 : g 93 = (zI G 183 sc)) (h94 : g 94 = (zI G 183 th)) (h95 : g 95 = (zI G 1000 wn)) (h89 : g 89 = (zI G 10 po)) (h91 : g 91 = (zI G 10 spo)) (h90 : g 90 = (zI G 10 trs9)) : zC G yX7_realise wsX7_realise (zrm 3 80) ex [.ref (zB G + 76), .int f, .int ms] (zN, g) (fun r h => r = some (.int (X7_realise_v tps pts lns wds brs ors fld laid told rws cms cmT cmS isN trs lm bm om os fs sc th wn po spo trs9 f ms)) ∧ h = (zN, zus g [(76, (oMod G (nI (X7_realise_p76_0 tps pts lns wds brs ors fld laid told rws cms cmT cmS isN trs lm bm om os fs sc th wn po spo trs9 f ms)) (nI tps) (nI pts) (nI lns) (nI wds) (nI brs) (nI ors) (X7_realise_p76_7 tps pts lns wds brs ors stp fld laid told rws cms cmT cmS isN trs lm bm om os fs sc th wn po spo trs9 f ms) (X7_realise_p76_8 tps pts lns wds brs ors hasP fld laid told rws cms cmT cmS isN trs lm bm om os fs sc th wn po spo trs9 f ms) (X7_realise_p76_9 tps pts lns wds brs ors fld laid told rws cms cmT cmS isN trs lm bm om os fs sc th wn po spo trs9 f ms) (X7_realise_p76_10 tps pts lns wds brs ors fld laid told rws cms cmT cmS isN trs lm bm om os fs sc th wn po spo trs9 f ms) told (nI rws) cms (nI cmT) cmS isN (nI trs))), (89, zI G 10 (X7_realise_c89 tps pts lns wds brs ors fld laid told rws cms cmT cmS isN trs lm bm om os fs sc th wn po spo trs9 f ms)), (90, zI G 10 (X7_realise_c90 tps pts lns wds brs ors fld laid told rws cms cmT cmS isN trs lm bm om os fs sc th wn po spo trs9 f ms)), (91, zI G 10 (X7_realise_c91 tps pts lns wds brs ors fld laid told rws cms cmT cmS isN trs lm bm om os fs sc th wn po spo trs9 f ms)), (92, zI G 183 (X7_realise_c92 tps pts lns wds brs ors fld laid told rws cms cmT cmS isN trs lm bm om os fs sc th wn po spo trs9 f ms)), (93, zI G 183 (X7_realise_c93 tps pts lns wds brs ors fld laid told rws cms cmT cmS isN trs lm bm om os fs sc th wn po spo trs9 f ms)), (94, zI G 183 (X7_realise_c94 tps pts lns wds brs ors fld laid told rws cms cmT cmS isN trs lm bm om os fs sc th wn po spo trs9 f ms)), (95, zI G 1000 (X7_realise_c95 tps pts lns wds brs ors fld laid told rws cms cmT cmS isN trs lm bm om os fs sc th wn po spo trs9 f ms))])) := by
  refine zC_of mX7_realise (lv := [some (.ref (zB G + 76)), some (.int f), some (.int ms), none, none, none]) rfl rfl (by decide) (by intro v hv; simp at hv; rcases hv with rfl | rfl | rfl <;> rfl) (Nat.le_of_ble_eq_true rfl) rfl ?_
  refine z_0 ?_
  refine z_heap (g' := zu (zus g []) 76 (oMod G code (nI tps) (nI pts) (nI lns) (nI wds) (nI brs) (nI ors) stp hasP fld laid told (nI rws) cms (nI cmT) cmS isN (nI trs))) (zu_self (zus g []) 76 _ h76).symm ?_
  refine z_n (L' := [(76, (oMod G code (nI tps) (nI pts) (nI lns) (nI wds) (nI brs) (nI ors) stp hasP fld laid told (nI rws) cms (nI cmT) cmS isN (nI trs)))]) rfl ?_
  refine z_heap (g' := zu (zus g [(76, (oMod G code (nI tps) (nI pts) (nI lns) (nI wds) (nI brs) (nI ors) stp hasP fld laid told (nI rws) cms (nI cmT) cmS isN (nI trs)))]) 89 (zI G 10 po)) (zu_self (zus g [(76, (oMod G code (nI tps) (nI pts) (nI lns) (nI wds) (nI brs) (nI ors) stp hasP fld laid told (nI rws) cms (nI cmT) cmS isN (nI trs)))]) 89 _ h89).symm ?_
  refine z_n (L' := [(76, (oMod G code (nI tps) (nI pts) (nI lns) (nI wds) (nI brs) (nI ors) stp hasP fld laid told (nI rws) cms (nI cmT) cmS isN (nI trs))), (89, (zI G 10 po))]) rfl ?_
  refine z_heap (g' := zu (zus g [(76, (oMod G code (nI tps) (nI pts) (nI lns) (nI wds) (nI brs) (nI ors) stp hasP fld laid told (nI rws) cms (nI cmT) cmS isN (nI trs))), (89, (zI G 10 po))]) 90 (zI G 10 trs9)) (zu_self (zus g [(76, (oMod G code (nI tps) (nI pts) (nI lns) (nI wds) (nI brs) (nI ors) stp hasP fld laid told (nI rws) cms (nI cmT) cmS isN (nI trs))), (89, (zI G 10 po))]) 90 _ h90).symm ?_
  refine z_n (L' := [(76, (oMod G code (nI tps) (nI pts) (nI lns) (nI wds) (nI brs) (nI ors) stp hasP fld laid told (nI rws) cms (nI cmT) cmS isN (nI trs))), (89, (zI G 10 po)), (90, (zI G 10 trs9))]) rfl ?_
  refine z_heap (g' := zu (zus g [(76, (oMod G code (nI tps) (nI pts) (nI lns) (nI wds) (nI brs) (nI ors) stp hasP fld laid told (nI rws) cms (nI cmT) cmS isN (nI trs))), (89, (zI G 10 po)), (90, (zI G 10 trs9))]) 91 (zI G 10 spo)) (zu_self (zus g [(76, (oMod G code (nI tps) (nI pts) (nI lns) (nI wds) (nI brs) (nI ors) stp hasP fld laid told (nI rws) cms (nI cmT) cmS isN (nI trs))), (89, (zI G 10 po)), (90, (zI G 10 trs9))]) 91 _ h91).symm ?_
  refine z_n (L' := [(76, (oMod G code (nI tps) (nI pts) (nI lns) (nI wds) (nI brs) (nI ors) stp hasP fld laid told (nI rws) cms (nI cmT) cmS isN (nI trs))), (89, (zI G 10 po)), (90, (zI G 10 trs9)), (91, (zI G 10 spo))]) rfl ?_
  refine z_heap (g' := zu (zus g [(76, (oMod G code (nI tps) (nI pts) (nI lns) (nI wds) (nI brs) (nI ors) stp hasP fld laid told (nI rws) cms (nI cmT) cmS isN (nI trs))), (89, (zI G 10 po)), (90, (zI G 10 trs9)), (91, (zI G 10 spo))]) 92 (zI G 183 fs)) (zu_self (zus g [(76, (oMod G code (nI tps) (nI pts) (nI lns) (nI wds) (nI brs) (nI ors) stp hasP fld laid told (nI rws) cms (nI cmT) cmS isN (nI trs))), (89, (zI G 10 po)), (90, (zI G 10 trs9)), (91, (zI G 10 spo))]) 92 _ h92).symm ?_
  refine z_n (L' := [(76, (oMod G code (nI tps) (nI pts) (nI lns) (nI wds) (nI brs) (nI ors) stp hasP fld laid told (nI rws) cms (nI cmT) cmS isN (nI trs))), (89, (zI G 10 po)), (90, (zI G 10 trs9)), (91, (zI G 10 spo)), (92, (zI G 183 fs))]) rfl ?_
  refine z_heap (g' := zu (zus g [(76, (oMod G code (nI tps) (nI pts) (nI lns) (nI wds) (nI brs) (nI ors) stp hasP fld laid told (nI rws) cms (nI cmT) cmS isN (nI trs))), (89, (zI G 10 po)), (90, (zI G 10 trs9)), (91, (zI G 10 spo)), (92, (zI G 183 fs))]) 93 (zI G 183 sc)) (zu_self (zus g [(76, (oMod G code (nI tps) (nI pts) (nI lns) (nI wds) (nI brs) (nI ors) stp hasP fld laid told (nI rws) cms (nI cmT) cmS isN (nI trs))), (89, (zI G 10 po)), (90, (zI G 10 trs9)), (91, (zI G 10 spo)), (92, (zI G 183 fs))]) 93 _ h93).symm ?_
  refine z_n (L' := [(76, (oMod G code (nI tps) (nI pts) (nI lns) (nI wds) (nI brs) (nI ors) stp hasP fld laid told (nI rws) cms (nI cmT) cmS isN (nI trs))), (89, (zI G 10 po)), (90, (zI G 10 trs9)), (91, (zI G 10 spo)), (92, (zI G 183 fs)), (93, (zI G 183 sc))]) rfl ?_
  refine z_heap (g' := zu (zus g [(76, (oMod G code (nI tps) (nI pts) (nI lns) (nI wds) (nI brs) (nI ors) stp hasP fld laid told (nI rws) cms (nI cmT) cmS isN (nI trs))), (89, (zI G 10 po)), (90, (zI G 10 trs9)), (91, (zI G 10 spo)), (92, (zI G 183 fs)), (93, (zI G 183 sc))]) 94 (zI G 183 th)) (zu_self (zus g [(76, (oMod G code (nI tps) (nI pts) (nI lns) (nI wds) (nI brs) (nI ors) stp hasP fld laid told (nI rws) cms (nI cmT) cmS isN (nI trs))), (89, (zI G 10 po)), (90, (zI G 10 trs9)), (91, (zI G 10 spo)), (92, (zI G 183 fs)), (93, (zI G 183 sc))]) 94 _ h94).symm ?_
  refine z_n (L' := [(76, (oMod G code (nI tps) (nI pts) (nI lns) (nI wds) (nI brs) (nI ors) stp hasP fld laid told (nI rws) cms (nI cmT) cmS isN (nI trs))), (89, (zI G 10 po)), (90, (zI G 10 trs9)), (91, (zI G 10 spo)), (92, (zI G 183 fs)), (93, (zI G 183 sc)), (94, (zI G 183 th))]) rfl ?_
  refine z_heap (g' := zu (zus g [(76, (oMod G code (nI tps) (nI pts) (nI lns) (nI wds) (nI brs) (nI ors) stp hasP fld laid told (nI rws) cms (nI cmT) cmS isN (nI trs))), (89, (zI G 10 po)), (90, (zI G 10 trs9)), (91, (zI G 10 spo)), (92, (zI G 183 fs)), (93, (zI G 183 sc)), (94, (zI G 183 th))]) 95 (zI G 1000 wn)) (zu_self (zus g [(76, (oMod G code (nI tps) (nI pts) (nI lns) (nI wds) (nI brs) (nI ors) stp hasP fld laid told (nI rws) cms (nI cmT) cmS isN (nI trs))), (89, (zI G 10 po)), (90, (zI G 10 trs9)), (91, (zI G 10 spo)), (92, (zI G 183 fs)), (93, (zI G 183 sc)), (94, (zI G 183 th))]) 95 _ h95).symm ?_
  refine z_n (L' := [(76, (oMod G code (nI tps) (nI pts) (nI lns) (nI wds) (nI brs) (nI ors) stp hasP fld laid told (nI rws) cms (nI cmT) cmS isN (nI trs))), (89, (zI G 10 po)), (90, (zI G 10 trs9)), (91, (zI G 10 spo)), (92, (zI G 183 fs)), (93, (zI G 183 sc)), (94, (zI G 183 th)), (95, (zI G 1000 wn))]) rfl ?_
  refine z_aload_n dX7_realise_0 rfl rfl ?_
  refine z_iconst (v := nI 0) dX7_realise_1 rfl (by decide) ?_
  refine z_putN (e9 := (oMod G (nI 0) (nI tps) (nI pts) (nI lns) (nI wds) (nI brs) (nI ors) stp hasP fld laid told (nI rws) cms (nI cmT) cmS isN (nI trs))) tyX7 tyX7_ok nmX7 dX7_realise_2 rfl hiX7_realise_X7 0 lkX7_realise_122 rfl (by decide +kernel) (Nat.le_of_ble_eq_true rfl) rfl rfl (by decide) (Nat.le_of_ble_eq_true rfl) rfl rfl rfl ?_
  refine z_n (L' := [(76, (oMod G (nI 0) (nI tps) (nI pts) (nI lns) (nI wds) (nI brs) (nI ors) stp hasP fld laid told (nI rws) cms (nI cmT) cmS isN (nI trs))), (89, (zI G 10 po)), (90, (zI G 10 trs9)), (91, (zI G 10 spo)), (92, (zI G 183 fs)), (93, (zI G 183 sc)), (94, (zI G 183 th)), (95, (zI G 1000 wn))]) rfl ?_
  refine z_iload_n dX7_realise_5 rfl rfl ?_
  refine z_if_eq (tgt := 16) dX7_realise_6 rfl (by decide) (fun c6 => ?_) (fun c6 => ?_)
  · refine z_iload_n dX7_realise_16 rfl rfl ?_
    refine z_iconst (v := nI 1) dX7_realise_17 rfl (by decide) ?_
    refine z_sipush (v := nI 20000) dX7_realise_18 rfl (by decide) ?_
    refine z_callSi (c_X7_isIn G ex _ ms (nI 1) (nI 20000)) gX7_realise_X7_isIn rfl dX7_realise_21 rfl rfl okk_X7_isIn ⟨Nat.le_of_ble_eq_true rfl, Nat.le_of_ble_eq_true rfl⟩ ⟨Nat.le_of_ble_eq_true rfl, Nat.le_of_ble_eq_true rfl⟩ (Nat.le_of_ble_eq_true rfl) ?_
    refine z_if_ne (tgt := 30) dX7_realise_24 rfl (by decide) (fun c24 => ?_) (fun c24 => ?_)
    · refine z_aload_n dX7_realise_30 rfl rfl ?_
      refine z_get dX7_realise_31 rfl hiX7_realise_X7 4 lkX7_realise_146 (Nat.le_of_ble_eq_true rfl) rfl rfl (by decide) rfl ?_
      refine z_if_ne (tgt := 40) dX7_realise_34 rfl (by decide) (fun c34 => ?_) (fun c34 => ?_)
      · have hvf : vp_in f 14 := by first | exact (rprime_v c13).1 | (rw [c6]; exact vp_in_nI (n := 0) (by decide) (by decide))
        obtain ⟨hvm, hms1⟩ := isIn_1 c24
        have hlf := zvlt hvf
        have hlm := zvlt hvm
        have hP := places_le _ hlf
        have hpt1 : 1 ≤ pts := hpl (Nat.pos_of_ne_zero (fun q => c34 (by rw [q]; rfl)))
        refine z_lv (congrArg (fun z9 : Int32 => ([some (.ref (zB G + 76)), some (.int z9), some (.int ms), none, none, none] : List (Option Value))) (show f = (nI f.toNatClampNeg) from zvin hvf)) ?_
        refine z_lv (congrArg (fun z9 : Int32 => ([some (.ref (zB G + 76)), some (.int (nI f.toNatClampNeg)), some (.int z9), none, none, none] : List (Option Value))) (show ms = (nI ms.toNatClampNeg) from zvin hvm)) ?_
        refine z_aload_n dX7_realise_40 rfl rfl ?_
        refine z_iconst (v := nI 0) dX7_realise_41 rfl (by decide) ?_
        refine z_putN (e9 := (oMod G (nI 0) (nI tps) (nI pts) (nI lns) (nI wds) (nI brs) (nI ors) stp (nI 0) fld laid told (nI rws) cms (nI cmT) cmS isN (nI trs))) tyX7 tyX7_ok nmX7 dX7_realise_42 rfl hiX7_realise_X7 20 lkX7_realise_158 rfl (by decide +kernel) (Nat.le_of_ble_eq_true rfl) rfl rfl (by decide) (Nat.le_of_ble_eq_true rfl) rfl rfl rfl ?_
        refine z_n (L' := [(76, (oMod G (nI 0) (nI tps) (nI pts) (nI lns) (nI wds) (nI brs) (nI ors) stp (nI 0) fld laid told (nI rws) cms (nI cmT) cmS isN (nI trs))), (89, (zI G 10 po)), (90, (zI G 10 trs9)), (91, (zI G 10 spo)), (92, (zI G 183 fs)), (93, (zI G 183 sc)), (94, (zI G 183 th)), (95, (zI G 1000 wn))]) rfl ?_
        refine z_aload_n dX7_realise_45 rfl rfl ?_
        refine z_iconst (v := nI 0) dX7_realise_46 rfl (by decide) ?_
        refine z_putN (e9 := (oMod G (nI 0) (nI tps) (nI pts) (nI lns) (nI wds) (nI brs) (nI ors) (nI 0) (nI 0) fld laid told (nI rws) cms (nI cmT) cmS isN (nI trs))) tyX7 tyX7_ok nmX7 dX7_realise_47 rfl hiX7_realise_X7 19 lkX7_realise_165 rfl (by decide +kernel) (Nat.le_of_ble_eq_true rfl) rfl rfl (by decide) (Nat.le_of_ble_eq_true rfl) rfl rfl rfl ?_
        refine z_n (L' := [(76, (oMod G (nI 0) (nI tps) (nI pts) (nI lns) (nI wds) (nI brs) (nI ors) (nI 0) (nI 0) fld laid told (nI rws) cms (nI cmT) cmS isN (nI trs))), (89, (zI G 10 po)), (90, (zI G 10 trs9)), (91, (zI G 10 spo)), (92, (zI G 183 fs)), (93, (zI G 183 sc)), (94, (zI G 183 th)), (95, (zI G 1000 wn))]) rfl ?_
        refine z_iload_n dX7_realise_50 rfl rfl ?_
        refine z_callSi (c_X7_placesOf G ex _ f.toNatClampNeg) gX7_realise_X7_placesOf rfl dX7_realise_51 rfl rfl okk_X7_placesOf ⟨Nat.le_of_ble_eq_true rfl, Nat.le_of_ble_eq_true rfl⟩ ⟨Nat.le_of_ble_eq_true rfl, Nat.le_of_ble_eq_true rfl⟩ (Nat.le_of_ble_eq_true rfl) ?_
        refine z_istore_3 dX7_realise_54 rfl ?_
        refine z_aload_n dX7_realise_55 rfl rfl ?_
        refine z_iload_n dX7_realise_56 rfl rfl ?_
        refine z_callVv (c_X7_layWants G ex _ (nI 0) tps pts lns wds brs ors (nI 0) (nI 0) fld laid told rws cms cmT cmS isN trs lm bm om os fs sc th wn f.toNatClampNeg (by omega) (by omega) (by omega) (by omega) (by omega) rfl h82 h86 h87 h88 rfl rfl rfl rfl) gX7_realise_X7_layWants rfl dX7_realise_57 rfl rfl rfl okk_X7_layWants (Nat.le_of_ble_eq_true rfl) rfl rfl ⟨Nat.le_of_ble_eq_true rfl, Nat.le_of_ble_eq_true rfl⟩ ⟨Nat.le_of_ble_eq_true rfl, Nat.le_of_ble_eq_true rfl⟩ (Nat.le_of_ble_eq_true rfl) ?_
        refine z_nn (L' := [(76, (oMod G (nI 0) (nI tps) (nI pts) (nI lns) (nI wds) (nI brs) (nI ors) (nI 0) (nI 0) fld (nI (X7_layWants_p76_10 f.toNatClampNeg)) told (nI rws) cms (nI cmT) cmS isN (nI trs))), (89, (zI G 10 po)), (90, (zI G 10 trs9)), (91, (zI G 10 spo)), (92, (zI G 183 (X7_layWants_c92 laid fs sc th f.toNatClampNeg))), (93, (zI G 183 (X7_layWants_c93 laid fs sc th f.toNatClampNeg))), (94, (zI G 183 (X7_layWants_c94 laid fs sc th f.toNatClampNeg))), (95, (zI G 1000 (X7_layWants_c95 pts lns brs ors lm bm om os wn f.toNatClampNeg)))]) rfl ?_
        refine z_iconst (v := nI 0) dX7_realise_60 rfl (by decide) ?_
        refine z_istore_4 dX7_realise_61 rfl ?_
        refine z_aload_n dX7_realise_63 rfl rfl ?_
        refine z_get dX7_realise_64 rfl hiX7_realise_X7 23 lkX7_realise_49 (Nat.le_of_ble_eq_true rfl) rfl rfl (by decide) rfl ?_
        refine z_iconst (v := nI 0) dX7_realise_67 rfl (by decide) ?_
        refine z_iconst (v := nI 0) dX7_realise_68 rfl (by decide) ?_
        refine z_iastN (j := 0) dX7_realise_69 rfl (Nat.le_of_ble_eq_true rfl) rfl (rfl) (by omega) (by decide) ?_
        refine z_n (L' := [(76, (oMod G (nI 0) (nI tps) (nI pts) (nI lns) (nI wds) (nI brs) (nI ors) (nI 0) (nI 0) fld (nI (X7_layWants_p76_10 f.toNatClampNeg)) told (nI rws) cms (nI cmT) cmS isN (nI trs))), (89, (zI G 10 po)), (90, (zI G 10 (upd trs9 0 (nI 0)))), (91, (zI G 10 spo)), (92, (zI G 183 (X7_layWants_c92 laid fs sc th f.toNatClampNeg))), (93, (zI G 183 (X7_layWants_c93 laid fs sc th f.toNatClampNeg))), (94, (zI G 183 (X7_layWants_c94 laid fs sc th f.toNatClampNeg))), (95, (zI G 1000 (X7_layWants_c95 pts lns brs ors lm bm om os wn f.toNatClampNeg)))]) rfl ?_
        refine z_lv (congrArg (fun z9 : Int32 => ([some (.ref (zB G + 76)), some (.int (nI f.toNatClampNeg)), some (.int (nI ms.toNatClampNeg)), some (.int (nI (X7_placesOf_n f.toNatClampNeg))), some (.int z9), none] : List (Option Value))) (show (nI 0) = (nI 1 - nI 1) from rfl)) ?_
        refine z_forB (head := fun t (st9 : (Nat) × (Nat) × (Nat → Int32) × (Nat → Int32)) => ∀ y5 : Option Value, Z G mX7_realise (zrm 3 80) ex _ 70 [some (.ref (zB G + 76)), some (.int (nI f.toNatClampNeg)), some (.int (nI ms.toNatClampNeg)), some (.int (nI (X7_placesOf_n f.toNatClampNeg))), some (.int (nI st9.2.1 - nI 1)), y5] [] (zN, zus g [(76, (oMod G (nI 0) (nI tps) (nI pts) (nI lns) (nI wds) (nI brs) (nI ors) (nI st9.1) (nI 0) fld (nI (X7_layWants_p76_10 f.toNatClampNeg)) told (nI rws) cms (nI cmT) cmS isN (nI trs))), (89, (zI G 10 po)), (90, (zI G 10 st9.2.2.1)), (91, (zI G 10 st9.2.2.2)), (92, (zI G 183 (X7_layWants_c92 laid fs sc th f.toNatClampNeg))), (93, (zI G 183 (X7_layWants_c93 laid fs sc th f.toNatClampNeg))), (94, (zI G 183 (X7_layWants_c94 laid fs sc th f.toNatClampNeg))), (95, (zI G 1000 (X7_layWants_c95 pts lns brs ors lm bm om os wn f.toNatClampNeg)))]) 0 0) (out := fun b _ => (some (Value.int b.1) = some (Value.int (X7_realise_v tps pts lns wds brs ors fld laid told rws cms cmT cmS isN trs lm bm om os fs sc th wn po spo trs9 f ms))) ∧ ((zN, zus g [(76, (oMod G (nI b.2.1) (nI tps) (nI pts) (nI lns) (nI wds) (nI brs) (nI ors) b.2.2.1 b.2.2.2.1 b.2.2.2.2.1 b.2.2.2.2.2.1 told (nI rws) cms (nI cmT) cmS isN (nI trs))), (89, (zI G 10 b.2.2.2.2.2.2.1)), (90, (zI G 10 b.2.2.2.2.2.2.2.1)), (91, (zI G 10 b.2.2.2.2.2.2.2.2.1)), (92, (zI G 183 b.2.2.2.2.2.2.2.2.2.1)), (93, (zI G 183 b.2.2.2.2.2.2.2.2.2.2.1)), (94, (zI G 183 b.2.2.2.2.2.2.2.2.2.2.2.1)), (95, (zI G 1000 b.2.2.2.2.2.2.2.2.2.2.2.2))]) : zAH) = (zN, zus g [(76, (oMod G (nI (X7_realise_p76_0 tps pts lns wds brs ors fld laid told rws cms cmT cmS isN trs lm bm om os fs sc th wn po spo trs9 f ms)) (nI tps) (nI pts) (nI lns) (nI wds) (nI brs) (nI ors) (X7_realise_p76_7 tps pts lns wds brs ors stp fld laid told rws cms cmT cmS isN trs lm bm om os fs sc th wn po spo trs9 f ms) (X7_realise_p76_8 tps pts lns wds brs ors hasP fld laid told rws cms cmT cmS isN trs lm bm om os fs sc th wn po spo trs9 f ms) (X7_realise_p76_9 tps pts lns wds brs ors fld laid told rws cms cmT cmS isN trs lm bm om os fs sc th wn po spo trs9 f ms) (X7_realise_p76_10 tps pts lns wds brs ors fld laid told rws cms cmT cmS isN trs lm bm om os fs sc th wn po spo trs9 f ms) told (nI rws) cms (nI cmT) cmS isN (nI trs))), (89, zI G 10 (X7_realise_c89 tps pts lns wds brs ors fld laid told rws cms cmT cmS isN trs lm bm om os fs sc th wn po spo trs9 f ms)), (90, zI G 10 (X7_realise_c90 tps pts lns wds brs ors fld laid told rws cms cmT cmS isN trs lm bm om os fs sc th wn po spo trs9 f ms)), (91, zI G 10 (X7_realise_c91 tps pts lns wds brs ors fld laid told rws cms cmT cmS isN trs lm bm om os fs sc th wn po spo trs9 f ms)), (92, zI G 183 (X7_realise_c92 tps pts lns wds brs ors fld laid told rws cms cmT cmS isN trs lm bm om os fs sc th wn po spo trs9 f ms)), (93, zI G 183 (X7_realise_c93 tps pts lns wds brs ors fld laid told rws cms cmT cmS isN trs lm bm om os fs sc th wn po spo trs9 f ms)), (94, zI G 183 (X7_realise_c94 tps pts lns wds brs ors fld laid told rws cms cmT cmS isN trs lm bm om os fs sc th wn po spo trs9 f ms)), (95, zI G 1000 (X7_realise_c95 tps pts lns wds brs ors fld laid told rws cms cmT cmS isN trs lm bm om os fs sc th wn po spo trs9 f ms))])) (B := (X7_realise_L70_B pts lns brs ors fld laid lm bm om os fs sc th wn po f ms)) (F := (X7_realise_L70_F pts lns brs ors laid lm bm om os fs sc th wn f ms)) (n := 2 * ms.toNatClampNeg + 2) (fun t a => rlI (X7_placesOf_n f.toNatClampNeg) ms.toNatClampNeg pts t a.1 a.2.1 a.2.2.1 a.2.2.2) (fun t a ht h hB => by
              unfold X7_realise_L70_B at hB
              unfold X7_realise_L70_F
              by_cases c1 : nI a.2.1 - nI 1 < 0
              · simp only [if_pos c1] at hB
                cases hB
              · have hq := zm1_ge9 (Int32.not_lt.mp c1)
                simp only [if_neg c1] at hB ⊢
                by_cases c2 : a.2.2.1 (a.2.1 - 1) = nI (X7_placesOf_n f.toNatClampNeg)
                · simp only [if_pos c2] at hB ⊢
                  exact rl_back h hq
                · simp only [if_neg c2] at hB ⊢
                  by_cases c3 : nI a.1 = nI ms.toNatClampNeg
                  · simp only [if_pos c3] at hB
                    cases hB
                  · have hs : ¬ a.1 = ms.toNatClampNeg := fun q => c3 (by rw [q])
                    simp only [if_neg c3] at hB ⊢
                    split at hB
                    · rename_i c4
                      rw [if_pos c4]
                      exact rl_s0 h hq hs hP c2
                    · rename_i c4
                      rw [if_neg c4]
                      split at hB
                      · cases hB
                      · rename_i c5
                        rw [if_neg c5]
                        exact rl_s1 h hq hs hP c2 (fun q => c5 (by rw [q]))) ?_ (2 * ms.toNatClampNeg + 2) 0 (0, 1, upd trs9 0 (nI 0), spo) (by omega) ⟨by show 0 + 2 * (ms.toNatClampNeg - 0) + 1 ≤ 2 * ms.toNatClampNeg + 1; omega, Nat.zero_le _, hpt1, fun k hk => by show vp_in (upd trs9 0 (nI 0) k) _; rw [show k = 0 from by have hk : k < 1 := hk; omega]; simp only [upd]; exact vp_in_nI (by omega) (by omega), fun k hk => absurd hk (by show ¬ k + 1 < 1; omega)⟩ ?_ ?_ _
        · intro t a9 hi hI Ko K
          obtain ⟨s1, q1, tr1, sp1⟩ := a9
          intro y5
          have hR : rlI (X7_placesOf_n f.toNatClampNeg) ms.toNatClampNeg pts t s1 q1 tr1 sp1 := hI
          obtain ⟨hr1, hr2, hr3, hr4, hr5⟩ := id hR
          refine z_iload dX7_realise_70 rfl rfl ?_
          refine z_if_lt (tgt := 182) dX7_realise_72 rfl (by decide) (fun c72 => ?_) (fun c72 => ?_)
          · refine z_iconst (v := nI 0) dX7_realise_182 rfl (by decide) ?_
            exact z_ireturn dX7_realise_183 rfl rfl (Nat.le_refl _) (Nat.le_refl _) (fun _ => rfl) (Ko (nI 0, 0, nI s1, nI 0, fld, nI (X7_layWants_p76_10 f.toNatClampNeg), po, tr1, sp1, X7_layWants_c92 laid fs sc th f.toNatClampNeg, X7_layWants_c93 laid fs sc th f.toNatClampNeg, X7_layWants_c94 laid fs sc th f.toNatClampNeg, X7_layWants_c95 pts lns brs ors lm bm om os wn f.toNatClampNeg) (by simp only [X7_realise_L70_B, if_pos c72]))
          · have hq : 1 ≤ q1 := zm1_ge9 (Int32.not_lt.mp c72)
            refine z_lv (congrArg (fun z9 : Int32 => ([some (.ref (zB G + 76)), some (.int (nI f.toNatClampNeg)), some (.int (nI ms.toNatClampNeg)), some (.int (nI (X7_placesOf_n f.toNatClampNeg))), some (.int z9), y5] : List (Option Value))) (show (nI q1 - nI 1) = (nI (q1 - 1)) from pk_sub hq)) ?_
            refine z_aload_n dX7_realise_75 rfl rfl ?_
            refine z_get dX7_realise_76 rfl hiX7_realise_X7 23 lkX7_realise_49 (Nat.le_of_ble_eq_true rfl) rfl rfl (by decide) rfl ?_
            refine z_iload dX7_realise_79 rfl rfl ?_
            refine z_ialdN (j := q1 - 1) dX7_realise_81 rfl (Nat.le_of_ble_eq_true rfl) rfl (rfl) (by omega) (by decide) ?_
            refine z_iload_n dX7_realise_82 rfl rfl ?_
            refine z_icmp_ne (tgt := 92) dX7_realise_83 rfl (by decide) (fun c83 => ?_) (fun c83 => ?_)
            · refine z_aload_n dX7_realise_92 rfl rfl ?_
              refine z_get dX7_realise_93 rfl hiX7_realise_X7 19 lkX7_realise_165 (Nat.le_of_ble_eq_true rfl) rfl rfl (by decide) rfl ?_
              refine z_iload_n dX7_realise_96 rfl rfl ?_
              refine z_icmp_ne (tgt := 102) dX7_realise_97 rfl (by decide) (fun c97 => ?_) (fun c97 => ?_)
              · have hs9 : ¬ s1 = ms.toNatClampNeg := fun q => c97 (by rw [q])
                have hv9 := vp_suc (hr4 (q1 - 1) (by omega)) hP c83
                have hv8 := hr4 (q1 - 1) (by omega)
                refine z_aload_n dX7_realise_102 rfl rfl ?_
                refine z_dup dX7_realise_103 rfl rfl ?_
                refine z_get dX7_realise_104 rfl hiX7_realise_X7 19 lkX7_realise_165 (Nat.le_of_ble_eq_true rfl) rfl rfl (by decide) rfl ?_
                refine z_iconst (v := nI 1) dX7_realise_107 rfl (by decide) ?_
                refine z_iadd dX7_realise_108 rfl ?_
                refine z_top (show (nI s1) + (nI 1) = nI (s1 + 1) from (zq_add rfl rfl)) ?_
                refine z_putN (e9 := (oMod G (nI 0) (nI tps) (nI pts) (nI lns) (nI wds) (nI brs) (nI ors) (nI (s1 + 1)) (nI 0) fld (nI (X7_layWants_p76_10 f.toNatClampNeg)) told (nI rws) cms (nI cmT) cmS isN (nI trs))) tyX7 tyX7_ok nmX7 dX7_realise_109 rfl hiX7_realise_X7 19 lkX7_realise_165 rfl (by decide +kernel) (Nat.le_of_ble_eq_true rfl) rfl rfl (by decide) (Nat.le_of_ble_eq_true rfl) rfl rfl rfl ?_
                refine z_n (L' := [(76, (oMod G (nI 0) (nI tps) (nI pts) (nI lns) (nI wds) (nI brs) (nI ors) (nI (s1 + 1)) (nI 0) fld (nI (X7_layWants_p76_10 f.toNatClampNeg)) told (nI rws) cms (nI cmT) cmS isN (nI trs))), (89, (zI G 10 po)), (90, (zI G 10 tr1)), (91, (zI G 10 sp1)), (92, (zI G 183 (X7_layWants_c92 laid fs sc th f.toNatClampNeg))), (93, (zI G 183 (X7_layWants_c93 laid fs sc th f.toNatClampNeg))), (94, (zI G 183 (X7_layWants_c94 laid fs sc th f.toNatClampNeg))), (95, (zI G 1000 (X7_layWants_c95 pts lns brs ors lm bm om os wn f.toNatClampNeg)))]) rfl ?_
                refine z_aload_n dX7_realise_112 rfl rfl ?_
                refine z_get dX7_realise_113 rfl hiX7_realise_X7 23 lkX7_realise_49 (Nat.le_of_ble_eq_true rfl) rfl rfl (by decide) rfl ?_
                refine z_iload dX7_realise_116 rfl rfl ?_
                refine z_ialdN (j := q1 - 1) dX7_realise_118 rfl (Nat.le_of_ble_eq_true rfl) rfl (rfl) (by omega) (by decide) ?_
                refine z_top (show tr1 (q1 - 1) = nI ((tr1 (q1 - 1)).toNatClampNeg) from zvin hv8) ?_
                refine z_istore_5 dX7_realise_119 rfl ?_
                refine z_aload_n dX7_realise_121 rfl rfl ?_
                refine z_get dX7_realise_122 rfl hiX7_realise_X7 23 lkX7_realise_49 (Nat.le_of_ble_eq_true rfl) rfl rfl (by decide) rfl ?_
                refine z_iload dX7_realise_125 rfl rfl ?_
                refine z_dup2 dX7_realise_127 rfl rfl rfl ?_
                refine z_ialdN (j := q1 - 1) dX7_realise_128 rfl (Nat.le_of_ble_eq_true rfl) rfl (rfl) (by omega) (by decide) ?_
                refine z_iconst (v := nI 1) dX7_realise_129 rfl (by decide) ?_
                refine z_iadd dX7_realise_130 rfl ?_
                refine z_iastN (j := q1 - 1) dX7_realise_131 rfl (Nat.le_of_ble_eq_true rfl) rfl (rfl) (by omega) (by decide) ?_
                refine z_n (L' := [(76, (oMod G (nI 0) (nI tps) (nI pts) (nI lns) (nI wds) (nI brs) (nI ors) (nI (s1 + 1)) (nI 0) fld (nI (X7_layWants_p76_10 f.toNatClampNeg)) told (nI rws) cms (nI cmT) cmS isN (nI trs))), (89, (zI G 10 po)), (90, (zI G 10 (upd tr1 (q1 - 1) ((tr1 (q1 - 1)) + (nI 1))))), (91, (zI G 10 sp1)), (92, (zI G 183 (X7_layWants_c92 laid fs sc th f.toNatClampNeg))), (93, (zI G 183 (X7_layWants_c93 laid fs sc th f.toNatClampNeg))), (94, (zI G 183 (X7_layWants_c94 laid fs sc th f.toNatClampNeg))), (95, (zI G 1000 (X7_layWants_c95 pts lns brs ors lm bm om os wn f.toNatClampNeg)))]) rfl ?_
                refine z_aload_n dX7_realise_132 rfl rfl ?_
                refine z_iload_n dX7_realise_133 rfl rfl ?_
                refine z_iload dX7_realise_134 rfl rfl ?_
                refine z_iload dX7_realise_136 rfl rfl ?_
                refine z_callVi (c_X7_goes G ex _ (nI 0) tps pts lns wds brs ors (nI (s1 + 1)) (nI 0) fld (nI (X7_layWants_p76_10 f.toNatClampNeg)) told rws cms cmT cmS isN trs (X7_layWants_c92 laid fs sc th f.toNatClampNeg) (X7_layWants_c93 laid fs sc th f.toNatClampNeg) (X7_layWants_c94 laid fs sc th f.toNatClampNeg) (X7_layWants_c95 pts lns brs ors lm bm om os wn f.toNatClampNeg) sp1 (nI f.toNatClampNeg) (q1 - 1) ((tr1 (q1 - 1)).toNatClampNeg) (by omega) (Nat.lt_of_lt_of_le hv9.1 hP) (fun j hj => hr5 j (by omega)) rfl rfl rfl rfl rfl rfl) gX7_realise_X7_goes rfl dX7_realise_138 rfl rfl rfl okk_X7_goes (Nat.le_of_ble_eq_true rfl) rfl rfl ⟨Nat.le_of_ble_eq_true rfl, Nat.le_of_ble_eq_true rfl⟩ ⟨Nat.le_of_ble_eq_true rfl, Nat.le_of_ble_eq_true rfl⟩ (Nat.le_of_ble_eq_true rfl) ?_
                refine z_if_eq (tgt := 179) dX7_realise_141 rfl (by decide) (fun c141 => ?_) (fun c141 => ?_)
                · refine z_goto (tgt := 70) dX7_realise_179 (by decide) ?_
                  refine z_lv (congrArg (fun z9 : Int32 => ([some (.ref (zB G + 76)), some (.int (nI f.toNatClampNeg)), some (.int (nI ms.toNatClampNeg)), some (.int (nI (X7_placesOf_n f.toNatClampNeg))), some (.int z9), some (.int (nI ((tr1 (q1 - 1)).toNatClampNeg)))] : List (Option Value))) (show (nI (q1 - 1)) = (nI (q1 - 1 + 1) - nI 1) from (zsub1 _).symm)) ?_
                  have K9 := (K (by simp only [X7_realise_L70_B, if_neg c72, if_neg c83, if_neg c97, if_pos c141]))
                  try simp only [X7_realise_L70_F, if_neg c72, if_neg c83, if_neg c97, if_pos c141] at K9
                  exact K9 _
                · refine z_aload_n dX7_realise_144 rfl rfl ?_
                  refine z_get dX7_realise_145 rfl hiX7_realise_X7 24 lkX7_realise_52 (Nat.le_of_ble_eq_true rfl) rfl rfl (by decide) rfl ?_
                  refine z_iload dX7_realise_148 rfl rfl ?_
                  refine z_iload dX7_realise_150 rfl rfl ?_
                  refine z_iastN (j := q1 - 1) dX7_realise_152 rfl (Nat.le_of_ble_eq_true rfl) rfl (rfl) (by omega) (by decide) ?_
                  refine z_n (L' := [(76, (oMod G (nI 0) (nI tps) (nI pts) (nI lns) (nI wds) (nI brs) (nI ors) (nI (s1 + 1)) (nI 0) fld (nI (X7_layWants_p76_10 f.toNatClampNeg)) told (nI rws) cms (nI cmT) cmS isN (nI trs))), (89, (zI G 10 po)), (90, (zI G 10 (upd tr1 (q1 - 1) ((tr1 (q1 - 1)) + (nI 1))))), (91, (zI G 10 (upd sp1 (q1 - 1) (nI ((tr1 (q1 - 1)).toNatClampNeg))))), (92, (zI G 183 (X7_layWants_c92 laid fs sc th f.toNatClampNeg))), (93, (zI G 183 (X7_layWants_c93 laid fs sc th f.toNatClampNeg))), (94, (zI G 183 (X7_layWants_c94 laid fs sc th f.toNatClampNeg))), (95, (zI G 1000 (X7_layWants_c95 pts lns brs ors lm bm om os wn f.toNatClampNeg)))]) rfl ?_
                  refine z_iinc_4 (v := nI ((q1 - 1) + 1)) dX7_realise_153 rfl (zinc _) ?_
                  refine z_iload dX7_realise_156 rfl rfl ?_
                  refine z_aload_n dX7_realise_158 rfl rfl ?_
                  refine z_get dX7_realise_159 rfl hiX7_realise_X7 3 lkX7_realise_143 (Nat.le_of_ble_eq_true rfl) rfl rfl (by decide) rfl ?_
                  refine z_icmp_ne (tgt := 171) dX7_realise_162 rfl (by decide) (fun c162 => ?_) (fun c162 => ?_)
                  · refine z_aload_n dX7_realise_171 rfl rfl ?_
                    refine z_get dX7_realise_172 rfl hiX7_realise_X7 23 lkX7_realise_49 (Nat.le_of_ble_eq_true rfl) rfl rfl (by decide) rfl ?_
                    refine z_iload dX7_realise_175 rfl rfl ?_
                    refine z_iconst (v := nI 0) dX7_realise_177 rfl (by decide) ?_
                    refine z_iastN (j := (q1 - 1) + 1) dX7_realise_178 rfl (Nat.le_of_ble_eq_true rfl) rfl (rfl) (by have : ¬ q1 - 1 + 1 = pts := fun q => c162 (by rw [q]); omega) (by decide) ?_
                    refine z_n (L' := [(76, (oMod G (nI 0) (nI tps) (nI pts) (nI lns) (nI wds) (nI brs) (nI ors) (nI (s1 + 1)) (nI 0) fld (nI (X7_layWants_p76_10 f.toNatClampNeg)) told (nI rws) cms (nI cmT) cmS isN (nI trs))), (89, (zI G 10 po)), (90, (zI G 10 (upd (upd tr1 (q1 - 1) ((tr1 (q1 - 1)) + (nI 1))) ((q1 - 1) + 1) (nI 0)))), (91, (zI G 10 (upd sp1 (q1 - 1) (nI ((tr1 (q1 - 1)).toNatClampNeg))))), (92, (zI G 183 (X7_layWants_c92 laid fs sc th f.toNatClampNeg))), (93, (zI G 183 (X7_layWants_c93 laid fs sc th f.toNatClampNeg))), (94, (zI G 183 (X7_layWants_c94 laid fs sc th f.toNatClampNeg))), (95, (zI G 1000 (X7_layWants_c95 pts lns brs ors lm bm om os wn f.toNatClampNeg)))]) rfl ?_
                    refine z_goto (tgt := 70) dX7_realise_179 (by decide) ?_
                    refine z_lv (congrArg (fun z9 : Int32 => ([some (.ref (zB G + 76)), some (.int (nI f.toNatClampNeg)), some (.int (nI ms.toNatClampNeg)), some (.int (nI (X7_placesOf_n f.toNatClampNeg))), some (.int z9), some (.int (nI ((tr1 (q1 - 1)).toNatClampNeg)))] : List (Option Value))) (show (nI ((q1 - 1) + 1)) = (nI ((q1 - 1) + 1 + 1) - nI 1) from (zsub1 _).symm)) ?_
                    have K9 := (K (by simp only [X7_realise_L70_B, if_neg c72, if_neg c83, if_neg c97, if_neg c141, if_neg c162]))
                    try simp only [X7_realise_L70_F, if_neg c72, if_neg c83, if_neg c97, if_neg c141, if_neg c162] at K9
                    exact K9 _
                  · refine z_aload_n dX7_realise_165 rfl rfl ?_
                    refine z_iload_n dX7_realise_166 rfl rfl ?_
                    refine z_callVi (c_X7_found G ex _ (nI 0) tps pts lns wds brs ors (nI (s1 + 1)) (nI 0) fld (nI (X7_layWants_p76_10 f.toNatClampNeg)) told rws cms cmT cmS isN trs po (upd sp1 (q1 - 1) (nI ((tr1 (q1 - 1)).toNatClampNeg))) (nI f.toNatClampNeg) (by omega) rfl rfl rfl) gX7_realise_X7_found rfl dX7_realise_167 rfl rfl rfl okk_X7_found (Nat.le_of_ble_eq_true rfl) rfl rfl ⟨Nat.le_of_ble_eq_true rfl, Nat.le_of_ble_eq_true rfl⟩ ⟨Nat.le_of_ble_eq_true rfl, Nat.le_of_ble_eq_true rfl⟩ (Nat.le_of_ble_eq_true rfl) ?_
                    refine z_nn (L' := [(76, (oMod G (nI 0) (nI tps) (nI pts) (nI lns) (nI wds) (nI brs) (nI ors) (nI (s1 + 1)) (nI (X7_found_p76_8 )) (X7_found_p76_9 (nI f.toNatClampNeg)) (nI (X7_layWants_p76_10 f.toNatClampNeg)) told (nI rws) cms (nI cmT) cmS isN (nI trs))), (89, (zI G 10 (X7_found_c89 pts po (upd sp1 (q1 - 1) (nI ((tr1 (q1 - 1)).toNatClampNeg)))))), (90, (zI G 10 (upd tr1 (q1 - 1) ((tr1 (q1 - 1)) + (nI 1))))), (91, (zI G 10 (upd sp1 (q1 - 1) (nI ((tr1 (q1 - 1)).toNatClampNeg))))), (92, (zI G 183 (X7_layWants_c92 laid fs sc th f.toNatClampNeg))), (93, (zI G 183 (X7_layWants_c93 laid fs sc th f.toNatClampNeg))), (94, (zI G 183 (X7_layWants_c94 laid fs sc th f.toNatClampNeg))), (95, (zI G 1000 (X7_layWants_c95 pts lns brs ors lm bm om os wn f.toNatClampNeg)))]) rfl ?_
                    exact z_ireturn dX7_realise_170 rfl rfl (Nat.le_refl _) (Nat.le_refl _) (fun _ => rfl) (Ko (nI (X7_found_n ), 0, nI (s1 + 1), nI (X7_found_p76_8 ), X7_found_p76_9 (nI f.toNatClampNeg), nI (X7_layWants_p76_10 f.toNatClampNeg), X7_found_c89 pts po (upd sp1 (q1 - 1) (nI ((tr1 (q1 - 1)).toNatClampNeg))), upd tr1 (q1 - 1) ((tr1 (q1 - 1)) + (nI 1)), upd sp1 (q1 - 1) (nI ((tr1 (q1 - 1)).toNatClampNeg)), X7_layWants_c92 laid fs sc th f.toNatClampNeg, X7_layWants_c93 laid fs sc th f.toNatClampNeg, X7_layWants_c94 laid fs sc th f.toNatClampNeg, X7_layWants_c95 pts lns brs ors lm bm om os wn f.toNatClampNeg) (by simp only [X7_realise_L70_B, if_neg c72, if_neg c83, if_neg c97, if_neg c141, if_pos c162]))
              · refine z_iconst (v := nI 2) dX7_realise_100 rfl (by decide) ?_
                exact z_ireturn dX7_realise_101 rfl rfl (Nat.le_refl _) (Nat.le_refl _) (fun _ => rfl) (Ko (nI 2, 0, nI s1, nI 0, fld, nI (X7_layWants_p76_10 f.toNatClampNeg), po, tr1, sp1, X7_layWants_c92 laid fs sc th f.toNatClampNeg, X7_layWants_c93 laid fs sc th f.toNatClampNeg, X7_layWants_c94 laid fs sc th f.toNatClampNeg, X7_layWants_c95 pts lns brs ors lm bm om os wn f.toNatClampNeg) (by simp only [X7_realise_L70_B, if_neg c72, if_neg c83, if_pos c97]))
            · refine z_iinc_4 (v := nI (q1 - 1) - nI 1) dX7_realise_86 rfl (zdecm _) ?_
              refine z_goto (tgt := 70) dX7_realise_89 (by decide) ?_
              have K9 := (K (by simp only [X7_realise_L70_B, if_neg c72, if_pos c83]))
              try simp only [X7_realise_L70_F, if_neg c72, if_pos c83] at K9
              exact K9 _
        · intro b a9 hz70
          exact ⟨by simp only [X7_realise_v, if_pos c6, if_neg c24, if_neg c34, hz70, zpick_s], by simp only [X7_realise_p76_0, X7_realise_p76_7, X7_realise_p76_8, X7_realise_p76_9, X7_realise_p76_10, X7_realise_c89, X7_realise_c90, X7_realise_c91, X7_realise_c92, X7_realise_c93, X7_realise_c94, X7_realise_c95, if_pos c6, if_neg c24, if_neg c34, hz70, zpick_s]⟩
        · intro a9 hz70 hI
          obtain ⟨s1, q1, tr1, sp1⟩ := a9
          intro y5
          exact absurd (show 2 * ms.toNatClampNeg + 2 + 2 * (ms.toNatClampNeg - s1) + q1 ≤ 2 * ms.toNatClampNeg + 1 from hI.1) (by omega)
      · refine z_bipush (v := (-2)) dX7_realise_37 rfl (by decide) ?_
        exact z_ireturn dX7_realise_39 rfl rfl (Nat.le_refl _) (Nat.le_refl _) (fun _ => rfl) ⟨by simp only [X7_realise_v, if_pos c6, if_neg c24, if_pos c34], by simp only [X7_realise_p76_0, X7_realise_p76_7, X7_realise_p76_8, X7_realise_p76_9, X7_realise_p76_10, X7_realise_c89, X7_realise_c90, X7_realise_c91, X7_realise_c92, X7_realise_c93, X7_realise_c94, X7_realise_c95, if_pos c6, if_neg c24, if_pos c34]⟩
    · refine z_bipush (v := (-9)) dX7_realise_27 rfl (by decide) ?_
      exact z_ireturn dX7_realise_29 rfl rfl (Nat.le_refl _) (Nat.le_refl _) (fun _ => rfl) ⟨by simp only [X7_realise_v, if_pos c6, if_pos c24], by simp only [X7_realise_p76_0, X7_realise_p76_7, X7_realise_p76_8, X7_realise_p76_9, X7_realise_p76_10, X7_realise_c89, X7_realise_c90, X7_realise_c91, X7_realise_c92, X7_realise_c93, X7_realise_c94, X7_realise_c95, if_pos c6, if_pos c24]⟩
  · refine z_iload_n dX7_realise_9 rfl rfl ?_
    refine z_callSi (c_X7_isPrime G ex _ f) gX7_realise_X7_isPrime rfl dX7_realise_10 rfl rfl okk_X7_isPrime ⟨Nat.le_of_ble_eq_true rfl, Nat.le_of_ble_eq_true rfl⟩ ⟨Nat.le_of_ble_eq_true rfl, Nat.le_of_ble_eq_true rfl⟩ (Nat.le_of_ble_eq_true rfl) ?_
    refine z_if_eq (tgt := 27) dX7_realise_13 rfl (by decide) (fun c13 => ?_) (fun c13 => ?_)
    · refine z_bipush (v := (-9)) dX7_realise_27 rfl (by decide) ?_
      exact z_ireturn dX7_realise_29 rfl rfl (Nat.le_refl _) (Nat.le_refl _) (fun _ => rfl) ⟨by simp only [X7_realise_v, if_neg c6, if_pos c13], by simp only [X7_realise_p76_0, X7_realise_p76_7, X7_realise_p76_8, X7_realise_p76_9, X7_realise_p76_10, X7_realise_c89, X7_realise_c90, X7_realise_c91, X7_realise_c92, X7_realise_c93, X7_realise_c94, X7_realise_c95, if_neg c6, if_pos c13]⟩
    · refine z_iload_n dX7_realise_16 rfl rfl ?_
      refine z_iconst (v := nI 1) dX7_realise_17 rfl (by decide) ?_
      refine z_sipush (v := nI 20000) dX7_realise_18 rfl (by decide) ?_
      refine z_callSi (c_X7_isIn G ex _ ms (nI 1) (nI 20000)) gX7_realise_X7_isIn rfl dX7_realise_21 rfl rfl okk_X7_isIn ⟨Nat.le_of_ble_eq_true rfl, Nat.le_of_ble_eq_true rfl⟩ ⟨Nat.le_of_ble_eq_true rfl, Nat.le_of_ble_eq_true rfl⟩ (Nat.le_of_ble_eq_true rfl) ?_
      refine z_if_ne (tgt := 30) dX7_realise_24 rfl (by decide) (fun c24 => ?_) (fun c24 => ?_)
      · refine z_aload_n dX7_realise_30 rfl rfl ?_
        refine z_get dX7_realise_31 rfl hiX7_realise_X7 4 lkX7_realise_146 (Nat.le_of_ble_eq_true rfl) rfl rfl (by decide) rfl ?_
        refine z_if_ne (tgt := 40) dX7_realise_34 rfl (by decide) (fun c34 => ?_) (fun c34 => ?_)
        · have hvf : vp_in f 14 := by first | exact (rprime_v c13).1 | (rw [c6]; exact vp_in_nI (n := 0) (by decide) (by decide))
          obtain ⟨hvm, hms1⟩ := isIn_1 c24
          have hlf := zvlt hvf
          have hlm := zvlt hvm
          have hP := places_le _ hlf
          have hpt1 : 1 ≤ pts := hpl (Nat.pos_of_ne_zero (fun q => c34 (by rw [q]; rfl)))
          refine z_lv (congrArg (fun z9 : Int32 => ([some (.ref (zB G + 76)), some (.int z9), some (.int ms), none, none, none] : List (Option Value))) (show f = (nI f.toNatClampNeg) from zvin hvf)) ?_
          refine z_lv (congrArg (fun z9 : Int32 => ([some (.ref (zB G + 76)), some (.int (nI f.toNatClampNeg)), some (.int z9), none, none, none] : List (Option Value))) (show ms = (nI ms.toNatClampNeg) from zvin hvm)) ?_
          refine z_aload_n dX7_realise_40 rfl rfl ?_
          refine z_iconst (v := nI 0) dX7_realise_41 rfl (by decide) ?_
          refine z_putN (e9 := (oMod G (nI 0) (nI tps) (nI pts) (nI lns) (nI wds) (nI brs) (nI ors) stp (nI 0) fld laid told (nI rws) cms (nI cmT) cmS isN (nI trs))) tyX7 tyX7_ok nmX7 dX7_realise_42 rfl hiX7_realise_X7 20 lkX7_realise_158 rfl (by decide +kernel) (Nat.le_of_ble_eq_true rfl) rfl rfl (by decide) (Nat.le_of_ble_eq_true rfl) rfl rfl rfl ?_
          refine z_n (L' := [(76, (oMod G (nI 0) (nI tps) (nI pts) (nI lns) (nI wds) (nI brs) (nI ors) stp (nI 0) fld laid told (nI rws) cms (nI cmT) cmS isN (nI trs))), (89, (zI G 10 po)), (90, (zI G 10 trs9)), (91, (zI G 10 spo)), (92, (zI G 183 fs)), (93, (zI G 183 sc)), (94, (zI G 183 th)), (95, (zI G 1000 wn))]) rfl ?_
          refine z_aload_n dX7_realise_45 rfl rfl ?_
          refine z_iconst (v := nI 0) dX7_realise_46 rfl (by decide) ?_
          refine z_putN (e9 := (oMod G (nI 0) (nI tps) (nI pts) (nI lns) (nI wds) (nI brs) (nI ors) (nI 0) (nI 0) fld laid told (nI rws) cms (nI cmT) cmS isN (nI trs))) tyX7 tyX7_ok nmX7 dX7_realise_47 rfl hiX7_realise_X7 19 lkX7_realise_165 rfl (by decide +kernel) (Nat.le_of_ble_eq_true rfl) rfl rfl (by decide) (Nat.le_of_ble_eq_true rfl) rfl rfl rfl ?_
          refine z_n (L' := [(76, (oMod G (nI 0) (nI tps) (nI pts) (nI lns) (nI wds) (nI brs) (nI ors) (nI 0) (nI 0) fld laid told (nI rws) cms (nI cmT) cmS isN (nI trs))), (89, (zI G 10 po)), (90, (zI G 10 trs9)), (91, (zI G 10 spo)), (92, (zI G 183 fs)), (93, (zI G 183 sc)), (94, (zI G 183 th)), (95, (zI G 1000 wn))]) rfl ?_
          refine z_iload_n dX7_realise_50 rfl rfl ?_
          refine z_callSi (c_X7_placesOf G ex _ f.toNatClampNeg) gX7_realise_X7_placesOf rfl dX7_realise_51 rfl rfl okk_X7_placesOf ⟨Nat.le_of_ble_eq_true rfl, Nat.le_of_ble_eq_true rfl⟩ ⟨Nat.le_of_ble_eq_true rfl, Nat.le_of_ble_eq_true rfl⟩ (Nat.le_of_ble_eq_true rfl) ?_
          refine z_istore_3 dX7_realise_54 rfl ?_
          refine z_aload_n dX7_realise_55 rfl rfl ?_
          refine z_iload_n dX7_realise_56 rfl rfl ?_
          refine z_callVv (c_X7_layWants G ex _ (nI 0) tps pts lns wds brs ors (nI 0) (nI 0) fld laid told rws cms cmT cmS isN trs lm bm om os fs sc th wn f.toNatClampNeg (by omega) (by omega) (by omega) (by omega) (by omega) rfl h82 h86 h87 h88 rfl rfl rfl rfl) gX7_realise_X7_layWants rfl dX7_realise_57 rfl rfl rfl okk_X7_layWants (Nat.le_of_ble_eq_true rfl) rfl rfl ⟨Nat.le_of_ble_eq_true rfl, Nat.le_of_ble_eq_true rfl⟩ ⟨Nat.le_of_ble_eq_true rfl, Nat.le_of_ble_eq_true rfl⟩ (Nat.le_of_ble_eq_true rfl) ?_
          refine z_nn (L' := [(76, (oMod G (nI 0) (nI tps) (nI pts) (nI lns) (nI wds) (nI brs) (nI ors) (nI 0) (nI 0) fld (nI (X7_layWants_p76_10 f.toNatClampNeg)) told (nI rws) cms (nI cmT) cmS isN (nI trs))), (89, (zI G 10 po)), (90, (zI G 10 trs9)), (91, (zI G 10 spo)), (92, (zI G 183 (X7_layWants_c92 laid fs sc th f.toNatClampNeg))), (93, (zI G 183 (X7_layWants_c93 laid fs sc th f.toNatClampNeg))), (94, (zI G 183 (X7_layWants_c94 laid fs sc th f.toNatClampNeg))), (95, (zI G 1000 (X7_layWants_c95 pts lns brs ors lm bm om os wn f.toNatClampNeg)))]) rfl ?_
          refine z_iconst (v := nI 0) dX7_realise_60 rfl (by decide) ?_
          refine z_istore_4 dX7_realise_61 rfl ?_
          refine z_aload_n dX7_realise_63 rfl rfl ?_
          refine z_get dX7_realise_64 rfl hiX7_realise_X7 23 lkX7_realise_49 (Nat.le_of_ble_eq_true rfl) rfl rfl (by decide) rfl ?_
          refine z_iconst (v := nI 0) dX7_realise_67 rfl (by decide) ?_
          refine z_iconst (v := nI 0) dX7_realise_68 rfl (by decide) ?_
          refine z_iastN (j := 0) dX7_realise_69 rfl (Nat.le_of_ble_eq_true rfl) rfl (rfl) (by omega) (by decide) ?_
          refine z_n (L' := [(76, (oMod G (nI 0) (nI tps) (nI pts) (nI lns) (nI wds) (nI brs) (nI ors) (nI 0) (nI 0) fld (nI (X7_layWants_p76_10 f.toNatClampNeg)) told (nI rws) cms (nI cmT) cmS isN (nI trs))), (89, (zI G 10 po)), (90, (zI G 10 (upd trs9 0 (nI 0)))), (91, (zI G 10 spo)), (92, (zI G 183 (X7_layWants_c92 laid fs sc th f.toNatClampNeg))), (93, (zI G 183 (X7_layWants_c93 laid fs sc th f.toNatClampNeg))), (94, (zI G 183 (X7_layWants_c94 laid fs sc th f.toNatClampNeg))), (95, (zI G 1000 (X7_layWants_c95 pts lns brs ors lm bm om os wn f.toNatClampNeg)))]) rfl ?_
          refine z_lv (congrArg (fun z9 : Int32 => ([some (.ref (zB G + 76)), some (.int (nI f.toNatClampNeg)), some (.int (nI ms.toNatClampNeg)), some (.int (nI (X7_placesOf_n f.toNatClampNeg))), some (.int z9), none] : List (Option Value))) (show (nI 0) = (nI 1 - nI 1) from rfl)) ?_
          refine z_forB (head := fun t (st9 : (Nat) × (Nat) × (Nat → Int32) × (Nat → Int32)) => ∀ y5 : Option Value, Z G mX7_realise (zrm 3 80) ex _ 70 [some (.ref (zB G + 76)), some (.int (nI f.toNatClampNeg)), some (.int (nI ms.toNatClampNeg)), some (.int (nI (X7_placesOf_n f.toNatClampNeg))), some (.int (nI st9.2.1 - nI 1)), y5] [] (zN, zus g [(76, (oMod G (nI 0) (nI tps) (nI pts) (nI lns) (nI wds) (nI brs) (nI ors) (nI st9.1) (nI 0) fld (nI (X7_layWants_p76_10 f.toNatClampNeg)) told (nI rws) cms (nI cmT) cmS isN (nI trs))), (89, (zI G 10 po)), (90, (zI G 10 st9.2.2.1)), (91, (zI G 10 st9.2.2.2)), (92, (zI G 183 (X7_layWants_c92 laid fs sc th f.toNatClampNeg))), (93, (zI G 183 (X7_layWants_c93 laid fs sc th f.toNatClampNeg))), (94, (zI G 183 (X7_layWants_c94 laid fs sc th f.toNatClampNeg))), (95, (zI G 1000 (X7_layWants_c95 pts lns brs ors lm bm om os wn f.toNatClampNeg)))]) 0 0) (out := fun b _ => (some (Value.int b.1) = some (Value.int (X7_realise_v tps pts lns wds brs ors fld laid told rws cms cmT cmS isN trs lm bm om os fs sc th wn po spo trs9 f ms))) ∧ ((zN, zus g [(76, (oMod G (nI b.2.1) (nI tps) (nI pts) (nI lns) (nI wds) (nI brs) (nI ors) b.2.2.1 b.2.2.2.1 b.2.2.2.2.1 b.2.2.2.2.2.1 told (nI rws) cms (nI cmT) cmS isN (nI trs))), (89, (zI G 10 b.2.2.2.2.2.2.1)), (90, (zI G 10 b.2.2.2.2.2.2.2.1)), (91, (zI G 10 b.2.2.2.2.2.2.2.2.1)), (92, (zI G 183 b.2.2.2.2.2.2.2.2.2.1)), (93, (zI G 183 b.2.2.2.2.2.2.2.2.2.2.1)), (94, (zI G 183 b.2.2.2.2.2.2.2.2.2.2.2.1)), (95, (zI G 1000 b.2.2.2.2.2.2.2.2.2.2.2.2))]) : zAH) = (zN, zus g [(76, (oMod G (nI (X7_realise_p76_0 tps pts lns wds brs ors fld laid told rws cms cmT cmS isN trs lm bm om os fs sc th wn po spo trs9 f ms)) (nI tps) (nI pts) (nI lns) (nI wds) (nI brs) (nI ors) (X7_realise_p76_7 tps pts lns wds brs ors stp fld laid told rws cms cmT cmS isN trs lm bm om os fs sc th wn po spo trs9 f ms) (X7_realise_p76_8 tps pts lns wds brs ors hasP fld laid told rws cms cmT cmS isN trs lm bm om os fs sc th wn po spo trs9 f ms) (X7_realise_p76_9 tps pts lns wds brs ors fld laid told rws cms cmT cmS isN trs lm bm om os fs sc th wn po spo trs9 f ms) (X7_realise_p76_10 tps pts lns wds brs ors fld laid told rws cms cmT cmS isN trs lm bm om os fs sc th wn po spo trs9 f ms) told (nI rws) cms (nI cmT) cmS isN (nI trs))), (89, zI G 10 (X7_realise_c89 tps pts lns wds brs ors fld laid told rws cms cmT cmS isN trs lm bm om os fs sc th wn po spo trs9 f ms)), (90, zI G 10 (X7_realise_c90 tps pts lns wds brs ors fld laid told rws cms cmT cmS isN trs lm bm om os fs sc th wn po spo trs9 f ms)), (91, zI G 10 (X7_realise_c91 tps pts lns wds brs ors fld laid told rws cms cmT cmS isN trs lm bm om os fs sc th wn po spo trs9 f ms)), (92, zI G 183 (X7_realise_c92 tps pts lns wds brs ors fld laid told rws cms cmT cmS isN trs lm bm om os fs sc th wn po spo trs9 f ms)), (93, zI G 183 (X7_realise_c93 tps pts lns wds brs ors fld laid told rws cms cmT cmS isN trs lm bm om os fs sc th wn po spo trs9 f ms)), (94, zI G 183 (X7_realise_c94 tps pts lns wds brs ors fld laid told rws cms cmT cmS isN trs lm bm om os fs sc th wn po spo trs9 f ms)), (95, zI G 1000 (X7_realise_c95 tps pts lns wds brs ors fld laid told rws cms cmT cmS isN trs lm bm om os fs sc th wn po spo trs9 f ms))])) (B := (X7_realise_L70v2_B pts lns brs ors fld laid lm bm om os fs sc th wn po f ms)) (F := (X7_realise_L70v2_F pts lns brs ors laid lm bm om os fs sc th wn f ms)) (n := 2 * ms.toNatClampNeg + 2) (fun t a => rlI (X7_placesOf_n f.toNatClampNeg) ms.toNatClampNeg pts t a.1 a.2.1 a.2.2.1 a.2.2.2) (fun t a ht h hB => by
                unfold X7_realise_L70v2_B at hB
                unfold X7_realise_L70v2_F
                by_cases c1 : nI a.2.1 - nI 1 < 0
                · simp only [if_pos c1] at hB
                  cases hB
                · have hq := zm1_ge9 (Int32.not_lt.mp c1)
                  simp only [if_neg c1] at hB ⊢
                  by_cases c2 : a.2.2.1 (a.2.1 - 1) = nI (X7_placesOf_n f.toNatClampNeg)
                  · simp only [if_pos c2] at hB ⊢
                    exact rl_back h hq
                  · simp only [if_neg c2] at hB ⊢
                    by_cases c3 : nI a.1 = nI ms.toNatClampNeg
                    · simp only [if_pos c3] at hB
                      cases hB
                    · have hs : ¬ a.1 = ms.toNatClampNeg := fun q => c3 (by rw [q])
                      simp only [if_neg c3] at hB ⊢
                      split at hB
                      · rename_i c4
                        rw [if_pos c4]
                        exact rl_s0 h hq hs hP c2
                      · rename_i c4
                        rw [if_neg c4]
                        split at hB
                        · cases hB
                        · rename_i c5
                          rw [if_neg c5]
                          exact rl_s1 h hq hs hP c2 (fun q => c5 (by rw [q]))) ?_ (2 * ms.toNatClampNeg + 2) 0 (0, 1, upd trs9 0 (nI 0), spo) (by omega) ⟨by show 0 + 2 * (ms.toNatClampNeg - 0) + 1 ≤ 2 * ms.toNatClampNeg + 1; omega, Nat.zero_le _, hpt1, fun k hk => by show vp_in (upd trs9 0 (nI 0) k) _; rw [show k = 0 from by have hk : k < 1 := hk; omega]; simp only [upd]; exact vp_in_nI (by omega) (by omega), fun k hk => absurd hk (by show ¬ k + 1 < 1; omega)⟩ ?_ ?_ _
          · intro t a9 hi hI Ko K
            obtain ⟨s1, q1, tr1, sp1⟩ := a9
            intro y5
            have hR : rlI (X7_placesOf_n f.toNatClampNeg) ms.toNatClampNeg pts t s1 q1 tr1 sp1 := hI
            obtain ⟨hr1, hr2, hr3, hr4, hr5⟩ := id hR
            refine z_iload dX7_realise_70 rfl rfl ?_
            refine z_if_lt (tgt := 182) dX7_realise_72 rfl (by decide) (fun c72 => ?_) (fun c72 => ?_)
            · refine z_iconst (v := nI 0) dX7_realise_182 rfl (by decide) ?_
              exact z_ireturn dX7_realise_183 rfl rfl (Nat.le_refl _) (Nat.le_refl _) (fun _ => rfl) (Ko (nI 0, 0, nI s1, nI 0, fld, nI (X7_layWants_p76_10 f.toNatClampNeg), po, tr1, sp1, X7_layWants_c92 laid fs sc th f.toNatClampNeg, X7_layWants_c93 laid fs sc th f.toNatClampNeg, X7_layWants_c94 laid fs sc th f.toNatClampNeg, X7_layWants_c95 pts lns brs ors lm bm om os wn f.toNatClampNeg) (by simp only [X7_realise_L70v2_B, if_pos c72]))
            · have hq : 1 ≤ q1 := zm1_ge9 (Int32.not_lt.mp c72)
              refine z_lv (congrArg (fun z9 : Int32 => ([some (.ref (zB G + 76)), some (.int (nI f.toNatClampNeg)), some (.int (nI ms.toNatClampNeg)), some (.int (nI (X7_placesOf_n f.toNatClampNeg))), some (.int z9), y5] : List (Option Value))) (show (nI q1 - nI 1) = (nI (q1 - 1)) from pk_sub hq)) ?_
              refine z_aload_n dX7_realise_75 rfl rfl ?_
              refine z_get dX7_realise_76 rfl hiX7_realise_X7 23 lkX7_realise_49 (Nat.le_of_ble_eq_true rfl) rfl rfl (by decide) rfl ?_
              refine z_iload dX7_realise_79 rfl rfl ?_
              refine z_ialdN (j := q1 - 1) dX7_realise_81 rfl (Nat.le_of_ble_eq_true rfl) rfl (rfl) (by omega) (by decide) ?_
              refine z_iload_n dX7_realise_82 rfl rfl ?_
              refine z_icmp_ne (tgt := 92) dX7_realise_83 rfl (by decide) (fun c83 => ?_) (fun c83 => ?_)
              · refine z_aload_n dX7_realise_92 rfl rfl ?_
                refine z_get dX7_realise_93 rfl hiX7_realise_X7 19 lkX7_realise_165 (Nat.le_of_ble_eq_true rfl) rfl rfl (by decide) rfl ?_
                refine z_iload_n dX7_realise_96 rfl rfl ?_
                refine z_icmp_ne (tgt := 102) dX7_realise_97 rfl (by decide) (fun c97 => ?_) (fun c97 => ?_)
                · have hs9 : ¬ s1 = ms.toNatClampNeg := fun q => c97 (by rw [q])
                  have hv9 := vp_suc (hr4 (q1 - 1) (by omega)) hP c83
                  have hv8 := hr4 (q1 - 1) (by omega)
                  refine z_aload_n dX7_realise_102 rfl rfl ?_
                  refine z_dup dX7_realise_103 rfl rfl ?_
                  refine z_get dX7_realise_104 rfl hiX7_realise_X7 19 lkX7_realise_165 (Nat.le_of_ble_eq_true rfl) rfl rfl (by decide) rfl ?_
                  refine z_iconst (v := nI 1) dX7_realise_107 rfl (by decide) ?_
                  refine z_iadd dX7_realise_108 rfl ?_
                  refine z_top (show (nI s1) + (nI 1) = nI (s1 + 1) from (zq_add rfl rfl)) ?_
                  refine z_putN (e9 := (oMod G (nI 0) (nI tps) (nI pts) (nI lns) (nI wds) (nI brs) (nI ors) (nI (s1 + 1)) (nI 0) fld (nI (X7_layWants_p76_10 f.toNatClampNeg)) told (nI rws) cms (nI cmT) cmS isN (nI trs))) tyX7 tyX7_ok nmX7 dX7_realise_109 rfl hiX7_realise_X7 19 lkX7_realise_165 rfl (by decide +kernel) (Nat.le_of_ble_eq_true rfl) rfl rfl (by decide) (Nat.le_of_ble_eq_true rfl) rfl rfl rfl ?_
                  refine z_n (L' := [(76, (oMod G (nI 0) (nI tps) (nI pts) (nI lns) (nI wds) (nI brs) (nI ors) (nI (s1 + 1)) (nI 0) fld (nI (X7_layWants_p76_10 f.toNatClampNeg)) told (nI rws) cms (nI cmT) cmS isN (nI trs))), (89, (zI G 10 po)), (90, (zI G 10 tr1)), (91, (zI G 10 sp1)), (92, (zI G 183 (X7_layWants_c92 laid fs sc th f.toNatClampNeg))), (93, (zI G 183 (X7_layWants_c93 laid fs sc th f.toNatClampNeg))), (94, (zI G 183 (X7_layWants_c94 laid fs sc th f.toNatClampNeg))), (95, (zI G 1000 (X7_layWants_c95 pts lns brs ors lm bm om os wn f.toNatClampNeg)))]) rfl ?_
                  refine z_aload_n dX7_realise_112 rfl rfl ?_
                  refine z_get dX7_realise_113 rfl hiX7_realise_X7 23 lkX7_realise_49 (Nat.le_of_ble_eq_true rfl) rfl rfl (by decide) rfl ?_
                  refine z_iload dX7_realise_116 rfl rfl ?_
                  refine z_ialdN (j := q1 - 1) dX7_realise_118 rfl (Nat.le_of_ble_eq_true rfl) rfl (rfl) (by omega) (by decide) ?_
                  refine z_top (show tr1 (q1 - 1) = nI ((tr1 (q1 - 1)).toNatClampNeg) from zvin hv8) ?_
                  refine z_istore_5 dX7_realise_119 rfl ?_
                  refine z_aload_n dX7_realise_121 rfl rfl ?_
                  refine z_get dX7_realise_122 rfl hiX7_realise_X7 23 lkX7_realise_49 (Nat.le_of_ble_eq_true rfl) rfl rfl (by decide) rfl ?_
                  refine z_iload dX7_realise_125 rfl rfl ?_
                  refine z_dup2 dX7_realise_127 rfl rfl rfl ?_
                  refine z_ialdN (j := q1 - 1) dX7_realise_128 rfl (Nat.le_of_ble_eq_true rfl) rfl (rfl) (by omega) (by decide) ?_
                  refine z_iconst (v := nI 1) dX7_realise_129 rfl (by decide) ?_
                  refine z_iadd dX7_realise_130 rfl ?_
                  refine z_iastN (j := q1 - 1) dX7_realise_131 rfl (Nat.le_of_ble_eq_true rfl) rfl (rfl) (by omega) (by decide) ?_
                  refine z_n (L' := [(76, (oMod G (nI 0) (nI tps) (nI pts) (nI lns) (nI wds) (nI brs) (nI ors) (nI (s1 + 1)) (nI 0) fld (nI (X7_layWants_p76_10 f.toNatClampNeg)) told (nI rws) cms (nI cmT) cmS isN (nI trs))), (89, (zI G 10 po)), (90, (zI G 10 (upd tr1 (q1 - 1) ((tr1 (q1 - 1)) + (nI 1))))), (91, (zI G 10 sp1)), (92, (zI G 183 (X7_layWants_c92 laid fs sc th f.toNatClampNeg))), (93, (zI G 183 (X7_layWants_c93 laid fs sc th f.toNatClampNeg))), (94, (zI G 183 (X7_layWants_c94 laid fs sc th f.toNatClampNeg))), (95, (zI G 1000 (X7_layWants_c95 pts lns brs ors lm bm om os wn f.toNatClampNeg)))]) rfl ?_
                  refine z_aload_n dX7_realise_132 rfl rfl ?_
                  refine z_iload_n dX7_realise_133 rfl rfl ?_
                  refine z_iload dX7_realise_134 rfl rfl ?_
                  refine z_iload dX7_realise_136 rfl rfl ?_
                  refine z_callVi (c_X7_goes G ex _ (nI 0) tps pts lns wds brs ors (nI (s1 + 1)) (nI 0) fld (nI (X7_layWants_p76_10 f.toNatClampNeg)) told rws cms cmT cmS isN trs (X7_layWants_c92 laid fs sc th f.toNatClampNeg) (X7_layWants_c93 laid fs sc th f.toNatClampNeg) (X7_layWants_c94 laid fs sc th f.toNatClampNeg) (X7_layWants_c95 pts lns brs ors lm bm om os wn f.toNatClampNeg) sp1 (nI f.toNatClampNeg) (q1 - 1) ((tr1 (q1 - 1)).toNatClampNeg) (by omega) (Nat.lt_of_lt_of_le hv9.1 hP) (fun j hj => hr5 j (by omega)) rfl rfl rfl rfl rfl rfl) gX7_realise_X7_goes rfl dX7_realise_138 rfl rfl rfl okk_X7_goes (Nat.le_of_ble_eq_true rfl) rfl rfl ⟨Nat.le_of_ble_eq_true rfl, Nat.le_of_ble_eq_true rfl⟩ ⟨Nat.le_of_ble_eq_true rfl, Nat.le_of_ble_eq_true rfl⟩ (Nat.le_of_ble_eq_true rfl) ?_
                  refine z_if_eq (tgt := 179) dX7_realise_141 rfl (by decide) (fun c141 => ?_) (fun c141 => ?_)
                  · refine z_goto (tgt := 70) dX7_realise_179 (by decide) ?_
                    refine z_lv (congrArg (fun z9 : Int32 => ([some (.ref (zB G + 76)), some (.int (nI f.toNatClampNeg)), some (.int (nI ms.toNatClampNeg)), some (.int (nI (X7_placesOf_n f.toNatClampNeg))), some (.int z9), some (.int (nI ((tr1 (q1 - 1)).toNatClampNeg)))] : List (Option Value))) (show (nI (q1 - 1)) = (nI (q1 - 1 + 1) - nI 1) from (zsub1 _).symm)) ?_
                    have K9 := (K (by simp only [X7_realise_L70v2_B, if_neg c72, if_neg c83, if_neg c97, if_pos c141]))
                    try simp only [X7_realise_L70v2_F, if_neg c72, if_neg c83, if_neg c97, if_pos c141] at K9
                    exact K9 _
                  · refine z_aload_n dX7_realise_144 rfl rfl ?_
                    refine z_get dX7_realise_145 rfl hiX7_realise_X7 24 lkX7_realise_52 (Nat.le_of_ble_eq_true rfl) rfl rfl (by decide) rfl ?_
                    refine z_iload dX7_realise_148 rfl rfl ?_
                    refine z_iload dX7_realise_150 rfl rfl ?_
                    refine z_iastN (j := q1 - 1) dX7_realise_152 rfl (Nat.le_of_ble_eq_true rfl) rfl (rfl) (by omega) (by decide) ?_
                    refine z_n (L' := [(76, (oMod G (nI 0) (nI tps) (nI pts) (nI lns) (nI wds) (nI brs) (nI ors) (nI (s1 + 1)) (nI 0) fld (nI (X7_layWants_p76_10 f.toNatClampNeg)) told (nI rws) cms (nI cmT) cmS isN (nI trs))), (89, (zI G 10 po)), (90, (zI G 10 (upd tr1 (q1 - 1) ((tr1 (q1 - 1)) + (nI 1))))), (91, (zI G 10 (upd sp1 (q1 - 1) (nI ((tr1 (q1 - 1)).toNatClampNeg))))), (92, (zI G 183 (X7_layWants_c92 laid fs sc th f.toNatClampNeg))), (93, (zI G 183 (X7_layWants_c93 laid fs sc th f.toNatClampNeg))), (94, (zI G 183 (X7_layWants_c94 laid fs sc th f.toNatClampNeg))), (95, (zI G 1000 (X7_layWants_c95 pts lns brs ors lm bm om os wn f.toNatClampNeg)))]) rfl ?_
                    refine z_iinc_4 (v := nI ((q1 - 1) + 1)) dX7_realise_153 rfl (zinc _) ?_
                    refine z_iload dX7_realise_156 rfl rfl ?_
                    refine z_aload_n dX7_realise_158 rfl rfl ?_
                    refine z_get dX7_realise_159 rfl hiX7_realise_X7 3 lkX7_realise_143 (Nat.le_of_ble_eq_true rfl) rfl rfl (by decide) rfl ?_
                    refine z_icmp_ne (tgt := 171) dX7_realise_162 rfl (by decide) (fun c162 => ?_) (fun c162 => ?_)
                    · refine z_aload_n dX7_realise_171 rfl rfl ?_
                      refine z_get dX7_realise_172 rfl hiX7_realise_X7 23 lkX7_realise_49 (Nat.le_of_ble_eq_true rfl) rfl rfl (by decide) rfl ?_
                      refine z_iload dX7_realise_175 rfl rfl ?_
                      refine z_iconst (v := nI 0) dX7_realise_177 rfl (by decide) ?_
                      refine z_iastN (j := (q1 - 1) + 1) dX7_realise_178 rfl (Nat.le_of_ble_eq_true rfl) rfl (rfl) (by have : ¬ q1 - 1 + 1 = pts := fun q => c162 (by rw [q]); omega) (by decide) ?_
                      refine z_n (L' := [(76, (oMod G (nI 0) (nI tps) (nI pts) (nI lns) (nI wds) (nI brs) (nI ors) (nI (s1 + 1)) (nI 0) fld (nI (X7_layWants_p76_10 f.toNatClampNeg)) told (nI rws) cms (nI cmT) cmS isN (nI trs))), (89, (zI G 10 po)), (90, (zI G 10 (upd (upd tr1 (q1 - 1) ((tr1 (q1 - 1)) + (nI 1))) ((q1 - 1) + 1) (nI 0)))), (91, (zI G 10 (upd sp1 (q1 - 1) (nI ((tr1 (q1 - 1)).toNatClampNeg))))), (92, (zI G 183 (X7_layWants_c92 laid fs sc th f.toNatClampNeg))), (93, (zI G 183 (X7_layWants_c93 laid fs sc th f.toNatClampNeg))), (94, (zI G 183 (X7_layWants_c94 laid fs sc th f.toNatClampNeg))), (95, (zI G 1000 (X7_layWants_c95 pts lns brs ors lm bm om os wn f.toNatClampNeg)))]) rfl ?_
                      refine z_goto (tgt := 70) dX7_realise_179 (by decide) ?_
                      refine z_lv (congrArg (fun z9 : Int32 => ([some (.ref (zB G + 76)), some (.int (nI f.toNatClampNeg)), some (.int (nI ms.toNatClampNeg)), some (.int (nI (X7_placesOf_n f.toNatClampNeg))), some (.int z9), some (.int (nI ((tr1 (q1 - 1)).toNatClampNeg)))] : List (Option Value))) (show (nI ((q1 - 1) + 1)) = (nI ((q1 - 1) + 1 + 1) - nI 1) from (zsub1 _).symm)) ?_
                      have K9 := (K (by simp only [X7_realise_L70v2_B, if_neg c72, if_neg c83, if_neg c97, if_neg c141, if_neg c162]))
                      try simp only [X7_realise_L70v2_F, if_neg c72, if_neg c83, if_neg c97, if_neg c141, if_neg c162] at K9
                      exact K9 _
                    · refine z_aload_n dX7_realise_165 rfl rfl ?_
                      refine z_iload_n dX7_realise_166 rfl rfl ?_
                      refine z_callVi (c_X7_found G ex _ (nI 0) tps pts lns wds brs ors (nI (s1 + 1)) (nI 0) fld (nI (X7_layWants_p76_10 f.toNatClampNeg)) told rws cms cmT cmS isN trs po (upd sp1 (q1 - 1) (nI ((tr1 (q1 - 1)).toNatClampNeg))) (nI f.toNatClampNeg) (by omega) rfl rfl rfl) gX7_realise_X7_found rfl dX7_realise_167 rfl rfl rfl okk_X7_found (Nat.le_of_ble_eq_true rfl) rfl rfl ⟨Nat.le_of_ble_eq_true rfl, Nat.le_of_ble_eq_true rfl⟩ ⟨Nat.le_of_ble_eq_true rfl, Nat.le_of_ble_eq_true rfl⟩ (Nat.le_of_ble_eq_true rfl) ?_
                      refine z_nn (L' := [(76, (oMod G (nI 0) (nI tps) (nI pts) (nI lns) (nI wds) (nI brs) (nI ors) (nI (s1 + 1)) (nI (X7_found_p76_8 )) (X7_found_p76_9 (nI f.toNatClampNeg)) (nI (X7_layWants_p76_10 f.toNatClampNeg)) told (nI rws) cms (nI cmT) cmS isN (nI trs))), (89, (zI G 10 (X7_found_c89 pts po (upd sp1 (q1 - 1) (nI ((tr1 (q1 - 1)).toNatClampNeg)))))), (90, (zI G 10 (upd tr1 (q1 - 1) ((tr1 (q1 - 1)) + (nI 1))))), (91, (zI G 10 (upd sp1 (q1 - 1) (nI ((tr1 (q1 - 1)).toNatClampNeg))))), (92, (zI G 183 (X7_layWants_c92 laid fs sc th f.toNatClampNeg))), (93, (zI G 183 (X7_layWants_c93 laid fs sc th f.toNatClampNeg))), (94, (zI G 183 (X7_layWants_c94 laid fs sc th f.toNatClampNeg))), (95, (zI G 1000 (X7_layWants_c95 pts lns brs ors lm bm om os wn f.toNatClampNeg)))]) rfl ?_
                      exact z_ireturn dX7_realise_170 rfl rfl (Nat.le_refl _) (Nat.le_refl _) (fun _ => rfl) (Ko (nI (X7_found_n ), 0, nI (s1 + 1), nI (X7_found_p76_8 ), X7_found_p76_9 (nI f.toNatClampNeg), nI (X7_layWants_p76_10 f.toNatClampNeg), X7_found_c89 pts po (upd sp1 (q1 - 1) (nI ((tr1 (q1 - 1)).toNatClampNeg))), upd tr1 (q1 - 1) ((tr1 (q1 - 1)) + (nI 1)), upd sp1 (q1 - 1) (nI ((tr1 (q1 - 1)).toNatClampNeg)), X7_layWants_c92 laid fs sc th f.toNatClampNeg, X7_layWants_c93 laid fs sc th f.toNatClampNeg, X7_layWants_c94 laid fs sc th f.toNatClampNeg, X7_layWants_c95 pts lns brs ors lm bm om os wn f.toNatClampNeg) (by simp only [X7_realise_L70v2_B, if_neg c72, if_neg c83, if_neg c97, if_neg c141, if_pos c162]))
                · refine z_iconst (v := nI 2) dX7_realise_100 rfl (by decide) ?_
                  exact z_ireturn dX7_realise_101 rfl rfl (Nat.le_refl _) (Nat.le_refl _) (fun _ => rfl) (Ko (nI 2, 0, nI s1, nI 0, fld, nI (X7_layWants_p76_10 f.toNatClampNeg), po, tr1, sp1, X7_layWants_c92 laid fs sc th f.toNatClampNeg, X7_layWants_c93 laid fs sc th f.toNatClampNeg, X7_layWants_c94 laid fs sc th f.toNatClampNeg, X7_layWants_c95 pts lns brs ors lm bm om os wn f.toNatClampNeg) (by simp only [X7_realise_L70v2_B, if_neg c72, if_neg c83, if_pos c97]))
              · refine z_iinc_4 (v := nI (q1 - 1) - nI 1) dX7_realise_86 rfl (zdecm _) ?_
                refine z_goto (tgt := 70) dX7_realise_89 (by decide) ?_
                have K9 := (K (by simp only [X7_realise_L70v2_B, if_neg c72, if_pos c83]))
                try simp only [X7_realise_L70v2_F, if_neg c72, if_pos c83] at K9
                exact K9 _
          · intro b a9 hz70
            exact ⟨by simp only [X7_realise_v, if_neg c6, if_neg c13, if_neg c24, if_neg c34, hz70, zpick_s], by simp only [X7_realise_p76_0, X7_realise_p76_7, X7_realise_p76_8, X7_realise_p76_9, X7_realise_p76_10, X7_realise_c89, X7_realise_c90, X7_realise_c91, X7_realise_c92, X7_realise_c93, X7_realise_c94, X7_realise_c95, if_neg c6, if_neg c13, if_neg c24, if_neg c34, hz70, zpick_s]⟩
          · intro a9 hz70 hI
            obtain ⟨s1, q1, tr1, sp1⟩ := a9
            intro y5
            exact absurd (show 2 * ms.toNatClampNeg + 2 + 2 * (ms.toNatClampNeg - s1) + q1 ≤ 2 * ms.toNatClampNeg + 1 from hI.1) (by omega)
        · refine z_bipush (v := (-2)) dX7_realise_37 rfl (by decide) ?_
          exact z_ireturn dX7_realise_39 rfl rfl (Nat.le_refl _) (Nat.le_refl _) (fun _ => rfl) ⟨by simp only [X7_realise_v, if_neg c6, if_neg c13, if_neg c24, if_pos c34], by simp only [X7_realise_p76_0, X7_realise_p76_7, X7_realise_p76_8, X7_realise_p76_9, X7_realise_p76_10, X7_realise_c89, X7_realise_c90, X7_realise_c91, X7_realise_c92, X7_realise_c93, X7_realise_c94, X7_realise_c95, if_neg c6, if_neg c13, if_neg c24, if_pos c34]⟩
      · refine z_bipush (v := (-9)) dX7_realise_27 rfl (by decide) ?_
        exact z_ireturn dX7_realise_29 rfl rfl (Nat.le_refl _) (Nat.le_refl _) (fun _ => rfl) ⟨by simp only [X7_realise_v, if_neg c6, if_neg c13, if_pos c24], by simp only [X7_realise_p76_0, X7_realise_p76_7, X7_realise_p76_8, X7_realise_p76_9, X7_realise_p76_10, X7_realise_c89, X7_realise_c90, X7_realise_c91, X7_realise_c92, X7_realise_c93, X7_realise_c94, X7_realise_c95, if_neg c6, if_neg c13, if_pos c24]⟩
