/-! ===== kinds: is a form least, in both ===== -/
def LST (n m : Nat) (f : Nat → Int32) : Prop := ∀ r, r < X7_factorial_n n → 0 ≤ X7_compareForm_v (fimg n r m f) f m
theorem LST_ext {n m : Nat} {f g : Nat → Int32} (h : ∀ j, j < m → f j = g j) : LST n m f ↔ LST n m g := by
  unfold LST
  have e : ∀ r, X7_compareForm_v (fimg n r m f) f m = X7_compareForm_v (fimg n r m g) g m := fun r => cmp_ext (fimg_perm (toL_cong h)) h
  constructor
  · intro q r hr; rw [← e]; exact q r hr
  · intro q r hr; rw [e]; exact q r hr
section KL
variable {n m : Nat} {ch : Nat → Int32}
theorem cls_least_go (h2 : 2 ≤ n) (hn : n ≤ 7) (hm : ∀ i, i < m → MB n (ch i)) : ∀ (d r : Nat) (a : (Nat → Int32) × (Nat → Int32)), r + d = X7_factorial_n n → (r < X7_factorial_n n → ∀ k, k < 7 → a.2 k = nI (rn n r k)) →
    ((∀ q, r ≤ q → q < X7_factorial_n n → 0 ≤ X7_compareForm_v (fimg n q m ch) ch m) → zpick (zfoldB (X1_isLeast_L12_B ch m) (X1_isLeast_L12_F ch n m) d r a) (fun b => b.1) (fun _ => nI 1) = nI 1) ∧
    ((¬ ∀ q, r ≤ q → q < X7_factorial_n n → 0 ≤ X7_compareForm_v (fimg n q m ch) ch m) → zpick (zfoldB (X1_isLeast_L12_B ch m) (X1_isLeast_L12_F ch n m) d r a) (fun b => b.1) (fun _ => nI 1) = nI 0) := by
  intro d
  induction d with
  | zero =>
    intro r a e h
    exact ⟨fun _ => rfl, fun q => absurd (fun q h1 h2 => by omega) q⟩
  | succ d ih =>
    intro r a e h
    have hr : r < X7_factorial_n n := by omega
    have e1 : X1_compareRows_v m (X1_rename_c71_74 a.2 a.1 ch m) ch = X7_compareForm_v (fimg n r m ch) ch m := by
      rw [cmp_same]
      exact cmp_ext (cls_img74 hn (h hr) hm) (fun _ _ => rfl)
    by_cases c : 0 ≤ X7_compareForm_v (fimg n r m ch) ch m
    · have eB : X1_isLeast_L12_B ch m r a = none := by unfold X1_isLeast_L12_B; rw [e1, if_pos c]
      have eF : X1_isLeast_L12_F ch n m r a = (X1_rename_c71_74 a.2 a.1 ch m, X1_nextRenaming_c72 a.2 n) := by unfold X1_isLeast_L12_F; rw [e1, if_pos c]
      have e2 : zfoldB (X1_isLeast_L12_B ch m) (X1_isLeast_L12_F ch n m) (d + 1) r a = zfoldB (X1_isLeast_L12_B ch m) (X1_isLeast_L12_F ch n m) d (r + 1) (X1_rename_c71_74 a.2 a.1 ch m, X1_nextRenaming_c72 a.2 n) := by
        simp only [zfoldB, eB, eF]
      rw [e2]
      obtain ⟨i1, i2⟩ := ih (r + 1) (X1_rename_c71_74 a.2 a.1 ch m, X1_nextRenaming_c72 a.2 n) (by omega) (fun q => next_rn h2 hn q (h hr))
      refine ⟨fun q => i1 (fun s h1 h2 => q s (by omega) h2), fun q => i2 (fun w => q (fun s h1 h2 => ?_))⟩
      rcases Nat.lt_or_ge r s with z | z
      · exact w s (by omega) h2
      · rw [show s = r by omega]; exact c
    · have eB : X1_isLeast_L12_B ch m r a = some (nI 0, X1_rename_c71_74 a.2 a.1 ch m, a.2) := by unfold X1_isLeast_L12_B; rw [e1, if_neg c]
      have e2 : zfoldB (X1_isLeast_L12_B ch m) (X1_isLeast_L12_F ch n m) (d + 1) r a = (some (nI 0, X1_rename_c71_74 a.2 a.1 ch m, a.2), a) := by
        simp only [zfoldB, eB]
      rw [e2]
      exact ⟨fun q => absurd (q r (Nat.le_refl _) hr) c, fun _ => rfl⟩
theorem cls_least (h2 : 2 ≤ n) (hn : n ≤ 7) (hm : ∀ i, i < m → MB n (ch i)) {ren im : Nat → Int32} : (LST n m ch → X1_isLeast_v ren im ch n m = nI 1) ∧ (¬ LST n m ch → X1_isLeast_v ren im ch n m = nI 0) := by
  unfold X1_isLeast_v
  rw [fac_same n (by omega)]
  obtain ⟨i1, i2⟩ := cls_least_go h2 hn hm (X7_factorial_n n) 0 (im, X1_startRenaming_c72 ren) (by omega) (fun _ => start_rn hn)
  exact ⟨fun q => i1 (fun s _ h => q s h), fun q => i2 (fun w => q (fun s h => w s (Nat.zero_le _) h))⟩
theorem ref_img65 {r L : Nat} (hn : n ≤ 7) (hr : r < X7_factorial_n n) {lm n1 f1 fm : Nat → Int32} : ∀ j, j < L → X7_sortForm_c105 (zfold (X7_isLeastSet_L88_F n lm r n1 f1) L 0 fm) L j = fimg n r L lm j := ref_img hn hr
theorem ref_least_go (hn : n ≤ 7) {o : Nat → Int32} : ∀ (d r : Nat) (a : (Nat → Int32) × (Nat → Int32) × (Nat → Int32)), r + d = X7_factorial_n n →
    ((∀ q, r ≤ q → q < X7_factorial_n n → 0 ≤ X7_compareForm_v (fimg n q m o) o m) → (zfoldX (X7_isLeastSet_L65_B n m o) (X7_isLeastSet_L65_F n m o) d r (nI 1, a)).2.1 = nI 1) ∧
    ((¬ ∀ q, r ≤ q → q < X7_factorial_n n → 0 ≤ X7_compareForm_v (fimg n q m o) o m) → (zfoldX (X7_isLeastSet_L65_B n m o) (X7_isLeastSet_L65_F n m o) d r (nI 1, a)).2.1 = nI 0) := by
  intro d
  induction d with
  | zero =>
    intro r a e
    exact ⟨fun _ => rfl, fun q => absurd (fun q h1 h2 => by omega) q⟩
  | succ d ih =>
    intro r a e
    have hr : r < X7_factorial_n n := by omega
    have n0 : ¬ nI 1 = 0 := by decide
    have e1 : X7_compareForm_v (X7_sortForm_c105 (zfold (X7_isLeastSet_L88_F n o r a.2.1 a.2.2) m 0 a.1) m) o m = X7_compareForm_v (fimg n r m o) o m := cmp_ext (ref_img65 hn hr) (fun _ _ => rfl)
    have eB : X7_isLeastSet_L65_B n m o r (nI 1, a) = none := by
      unfold X7_isLeastSet_L65_B
      simp only [zlet]
      rw [if_neg n0]
      split <;> rfl
    by_cases c : 0 ≤ X7_compareForm_v (fimg n r m o) o m
    · have eF : ∃ a', X7_isLeastSet_L65_F n m o r (nI 1, a) = (nI 1, a') := by
        unfold X7_isLeastSet_L65_F
        simp only [zlet]
        rw [if_neg n0, e1, if_neg (Int32.not_lt.mpr c)]
        exact ⟨_, rfl⟩
      obtain ⟨a', eF⟩ := eF
      have e2 : zfoldX (X7_isLeastSet_L65_B n m o) (X7_isLeastSet_L65_F n m o) (d + 1) r (nI 1, a) = zfoldX (X7_isLeastSet_L65_B n m o) (X7_isLeastSet_L65_F n m o) d (r + 1) (nI 1, a') := by
        simp only [zfoldX, eB, eF]
      rw [e2]
      obtain ⟨i1, i2⟩ := ih (r + 1) a' (by omega)
      refine ⟨fun q => i1 (fun s h1 h2 => q s (by omega) h2), fun q => i2 (fun w => q (fun s h1 h2 => ?_))⟩
      rcases Nat.lt_or_ge r s with z | z
      · exact w s (by omega) h2
      · rw [show s = r by omega]; exact c
    · have eF : ∃ a', X7_isLeastSet_L65_F n m o r (nI 1, a) = (nI 0, a') := by
        unfold X7_isLeastSet_L65_F
        simp only [zlet]
        rw [if_neg n0, e1, if_pos (Int32.not_le.mp c)]
        exact ⟨_, rfl⟩
      obtain ⟨a', eF⟩ := eF
      have e2 : zfoldX (X7_isLeastSet_L65_B n m o) (X7_isLeastSet_L65_F n m o) (d + 1) r (nI 1, a) = zfoldX (X7_isLeastSet_L65_B n m o) (X7_isLeastSet_L65_F n m o) d (r + 1) (nI 0, a') := by
        simp only [zfoldX, eB, eF]
      rw [e2]
      refine ⟨fun q => absurd (q r (Nat.le_refl _) hr) c, fun _ => ?_⟩
      cases d with
      | zero => rfl
      | succ d => rw [zfoldX_hit (b := (nI 0, a')) (by unfold X7_isLeastSet_L65_B; rw [if_pos (show nI 0 = 0 from rfl)])]
theorem ref_least (hn : n ≤ 7) {tm ch fm ow nm fr : Nat → Int32} : (LST n m (srtF (fun k => tm (ch k).toNatClampNeg) m) → X7_isLeastSet_v tm ch fm ow nm fr n m = nI 1) ∧ (¬ LST n m (srtF (fun k => tm (ch k).toNatClampNeg) m) → X7_isLeastSet_v tm ch fm ow nm fr n m = nI 0) := by
  unfold X7_isLeastSet_v
  simp only [zlet]
  have es : ∀ j, j < m → zfold (X7_isLeastSet_L37_F m (zfold (X7_isLeastSet_L2_F tm ch) m 0 fm)) m 0 ow j = srtF (fun k => tm (ch k).toNatClampNeg) m j := by
    intro j hj
    have e : zfold (X7_isLeastSet_L37_F m (zfold (X7_isLeastSet_L2_F tm ch) m 0 fm)) m 0 ow j = _ := put_fold (G := fun k => X7_sortForm_c105 (zfold (X7_isLeastSet_L2_F tm ch) m 0 fm) m k) m 0 ow j
    rw [e, if_pos (by omega), sort_same]
    refine srt_ext (fun j hj => ?_) j hj
    have e : zfold (X7_isLeastSet_L2_F tm ch) m 0 fm j = _ := put_fold (G := fun k => tm (ch k).toNatClampNeg) m 0 fm j
    rw [e, if_pos (by omega)]
  rw [← LST_ext es]
  obtain ⟨i1, i2⟩ := ref_least_go (m := m) hn (o := zfold (X7_isLeastSet_L37_F m (zfold (X7_isLeastSet_L2_F tm ch) m 0 fm)) m 0 ow) (X7_factorial_n n) 0 (X7_sortForm_c105 (zfold (X7_isLeastSet_L2_F tm ch) m 0 fm) m, nm, fr) (by omega)
  exact ⟨fun q => i1 (fun s _ h => q s h), fun q => i2 (fun w => q (fun s h => w s (Nat.zero_le _) h))⟩
end KL
