/-! ===== the reference's renamings by their numbers ===== -/
theorem sh77 : ∀ (d i0 : Nat) (f : Nat → Int32), 1 ≤ i0 → ∀ j, zfold X7_layNames_L77_F d i0 f j = if i0 - 1 ≤ j ∧ j < i0 - 1 + d then f (j + 1) else f j := by
  intro d
  induction d with
  | zero =>
    intro i0 f hi j
    show f j = _
    rw [if_neg (by omega)]
  | succ d ih =>
    intro i0 f hi j
    show zfold X7_layNames_L77_F d (i0 + 1) (X7_layNames_L77_F i0 f) j = _
    rw [ih (i0 + 1) _ (by omega)]
    unfold X7_layNames_L77_F
    simp only [upd]
    by_cases c1 : j = i0 - 1
    · rw [if_neg (by omega), if_pos c1, if_pos (by omega), show j + 1 = i0 by omega]
    · by_cases c2 : i0 ≤ j ∧ j < i0 + d
      · rw [if_pos (show i0 + 1 - 1 ≤ j ∧ j < i0 + 1 - 1 + d by omega), if_neg (by omega), if_pos (by omega)]
      · rw [if_neg (show ¬ (i0 + 1 - 1 ≤ j ∧ j < i0 + 1 - 1 + d) by omega), if_neg c1, if_neg (by omega)]
/-- the names that number lf gives to m places, out of the free ones l -/
def unr : Nat → List Nat → Nat → List Nat
  | 0, _, _ => []
  | m + 1, l, lf => l.getD (lf / X7_factorial_n m) 0 :: unr m (l.eraseIdx (lf / X7_factorial_n m)) (lf % X7_factorial_n m)
theorem unr_len : ∀ (m : Nat) (l : List Nat) (lf : Nat), (unr m l lf).length = m := by
  intro m
  induction m with
  | zero => intro l lf; rfl
  | succ m ih => intro l lf; show (unr m _ _).length + 1 = m + 1; rw [ih]
theorem era_at {l : List Nat} {t i : Nat} (ht : t < l.length) : (l.eraseIdx t).getD i 0 = if i < t then l.getD i 0 else l.getD (i + 1) 0 := by
  rw [List.getD_eq_getElem?_getD, List.getElem?_eraseIdx]
  split
  · rw [List.getD_eq_getElem?_getD]
  · rw [List.getD_eq_getElem?_getD]
theorem names_fold {n : Nat} (hn : n ≤ 7) : ∀ (m k lf : Nat) (nm fr : Nat → Int32) (l : List Nat), k + m = n → l.length = m → lf < X7_factorial_n m → (∀ i, i < m → fr i = nI (l.getD i 0)) →
    ∀ j, (zfold (X7_layNames_L29_F n) m k (lf, nm, fr)).2.1 j = if k ≤ j ∧ j < n then nI ((unr m l lf).getD (j - k) 0) else nm j := by
  intro m
  induction m with
  | zero =>
    intro k lf nm fr l hk hl hlf hr j
    show nm j = _
    rw [if_neg (by omega)]
  | succ m ih =>
    intro k lf nm fr l hk hl hlf hr j
    have hf := rfac_b m (by omega)
    have hs := rfac_s m (by omega)
    have e1 : n - 1 - k = m := by omega
    have hat : lf / X7_factorial_n m < m + 1 := by
      rw [hs, Nat.mul_comm] at hlf
      exact Nat.div_lt_of_lt_mul hlf
    show (zfold (X7_layNames_L29_F n) m (k + 1) (X7_layNames_L29_F n k (lf, nm, fr))).2.1 j = _
    have e2 : X7_layNames_L29_F n k (lf, nm, fr) = (lf % X7_factorial_n m, upd nm k (fr (lf / X7_factorial_n m)), zfold X7_layNames_L77_F ((n - k) - (lf / X7_factorial_n m + 1)) (lf / X7_factorial_n m + 1) fr) := by
      unfold X7_layNames_L29_F
      rw [e1]
    rw [e2, ih (k + 1) (lf % X7_factorial_n m) _ _ (l.eraseIdx (lf / X7_factorial_n m)) (by omega) (by rw [List.length_eraseIdx_of_lt (by omega)]; omega) (Nat.mod_lt _ hf.1) (fun i hi => ?_) j]
    · show _ = if k ≤ j ∧ j < n then nI ((l.getD (lf / X7_factorial_n m) 0 :: unr m (l.eraseIdx (lf / X7_factorial_n m)) (lf % X7_factorial_n m)).getD (j - k) 0) else nm j
      by_cases c1 : j = k
      · subst c1
        rw [if_neg (by omega), if_pos (by omega), Nat.sub_self, pk_us, hr _ (by omega)]
        rfl
      · by_cases c2 : k + 1 ≤ j ∧ j < n
        · rw [if_pos c2, if_pos (by omega), show j - k = (j - (k + 1)) + 1 by omega]
          rfl
        · rw [if_neg c2, if_neg (by omega), pk_un c1]
    · generalize lf / X7_factorial_n m = t at hat ⊢
      rw [sh77 _ _ _ (by omega), era_at (by omega)]
      by_cases c1 : i < t
      · rw [if_neg (by omega), if_pos c1, hr i (by omega)]
      · rw [if_pos (by omega), if_neg c1, hr (i + 1) (by omega)]
theorem names5 : ∀ (d i : Nat) (f : Nat → Int32) (j : Nat), zfold X7_layNames_L5_F d i f j = if i ≤ j ∧ j < i + d then nI j else f j := by
  intro d
  induction d with
  | zero => intro i f j; show f j = _; rw [if_neg (by omega)]
  | succ d ih =>
    intro i f j
    show zfold X7_layNames_L5_F d (i + 1) (X7_layNames_L5_F i f) j = _
    rw [ih]
    unfold X7_layNames_L5_F
    simp only [upd]
    by_cases c1 : j = i
    · rw [if_neg (by omega), if_pos c1, if_pos (by omega), c1]
    · by_cases c2 : i + 1 ≤ j ∧ j < i + 1 + d
      · rw [if_pos c2, if_pos (by omega)]
      · rw [if_neg c2, if_neg c1, if_neg (by omega)]
theorem names_at {n r : Nat} {nm fr : Nat → Int32} (hn : n ≤ 7) (hr : r < X7_factorial_n n) (j : Nat) : X7_layNames_c102 nm fr n r j = if j < n then nI ((unr n (List.range n) r).getD j 0) else nm j := by
  unfold X7_layNames_c102
  simp only [zlet]
  rw [names_fold hn n 0 r nm _ (List.range n) (by omega) List.length_range hr (fun i hi => ?_) j, Nat.sub_zero]
  · by_cases c : j < n
    · rw [if_pos ⟨Nat.zero_le _, c⟩, if_pos c]
    · rw [if_neg (by omega), if_neg c]
  · rw [names5, if_pos (by omega), List.getD_eq_getElem?_getD, List.getElem?_range hi]
    rfl
