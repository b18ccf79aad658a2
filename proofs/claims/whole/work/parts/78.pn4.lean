/-! ===== the order of a renaming, in both ===== -/
theorem map_fold {G : Int32 → Int32} : ∀ (d i : Nat) (f : Nat → Int32) (j : Nat), zfold (fun k a => upd a k (G (a k))) d i f j = if i ≤ j ∧ j < i + d then G (f j) else f j := by
  intro d
  induction d with
  | zero => intro i f j; show f j = _; rw [if_neg (by omega)]
  | succ d ih =>
    intro i f j
    show zfold (fun k a => upd a k (G (a k))) d (i + 1) (upd f i (G (f i))) j = _
    rw [ih]
    simp only [upd]
    by_cases c1 : j = i
    · rw [if_neg (by omega), if_pos c1, if_pos (by omega), c1]
    · by_cases c2 : i + 1 ≤ j ∧ j < i + 1 + d
      · rw [if_pos c2, if_neg c1, if_pos (by omega)]
      · rw [if_neg c2, if_neg c1, if_neg (by omega)]
theorem all_fold {a : Nat → Int32} {n : Nat} : (zfold (X7_orderOf_L38_F a) n 0 (nI 1) = nI 1 ∧ ∀ j, j < n → a j = nI j) ∨ (zfold (X7_orderOf_L38_F a) n 0 (nI 1) = nI 0 ∧ ∃ j, j < n ∧ ¬ a j = nI j) := by
  refine zfold_I (n := n) (fun i v => (v = nI 1 ∧ ∀ j, j < i → a j = nI j) ∨ (v = nI 0 ∧ ∃ j, j < i ∧ ¬ a j = nI j)) (F := X7_orderOf_L38_F a) (fun i v hi h => ?_) n 0 (nI 1) (by omega) (Or.inl ⟨rfl, fun j hj => absurd hj (Nat.not_lt_zero j)⟩)
  unfold X7_orderOf_L38_F
  by_cases c : a i = nI i
  · rw [if_pos c]
    rcases h with ⟨rfl, h⟩ | ⟨rfl, j, h1, h2⟩
    · refine Or.inl ⟨by decide, fun j hj => ?_⟩
      rcases Nat.lt_succ_iff_lt_or_eq.mp hj with q | q
      · exact h j q
      · rw [q]; exact c
    · exact Or.inr ⟨by decide, j, by omega, h2⟩
  · rw [if_neg c]
    rcases h with ⟨rfl, h⟩ | ⟨rfl, j, h1, h2⟩
    · exact Or.inr ⟨by decide, i, by omega, c⟩
    · exact Or.inr ⟨by decide, i, by omega, c⟩
theorem least_t {P : Nat → Prop} {b : Nat} (h : ∃ t, 1 ≤ t ∧ t ≤ b ∧ P t) : ∃ t, 1 ≤ t ∧ t ≤ b ∧ P t ∧ ∀ s, 1 ≤ s → s < t → ¬ P s := by
  obtain ⟨t, h1, h2, h3⟩ := h
  induction t using Nat.strongRecOn with
  | ind t ih =>
    rcases Classical.em (∃ s, 1 ≤ s ∧ s < t ∧ P s) with q | q
    · obtain ⟨s, q1, q2, q3⟩ := q
      exact ih s q2 q1 (by omega) q3
    · exact ⟨t, h1, h2, h3, fun s q1 q2 q3 => q ⟨s, q1, q2, q3⟩⟩
section PN4
variable {n r : Nat}
/-- T is the order of the r-th renaming -/
def ORD (n r T : Nat) : Prop := 1 ≤ T ∧ T ≤ 12 ∧ (∀ j, j < n → pw n r T j = j) ∧ ∀ s, 1 ≤ s → s < T → ¬ ∀ j, j < n → pw n r s j = j
theorem ord_ex (h2 : 2 ≤ n) (hn : n ≤ 7) (hr : r < X7_factorial_n n) : ∃ T, ORD n r T := least_t (has_order h2 hn hr)
theorem nI_pw {t j : Nat} (hn : n ≤ 7) (hr : r < X7_factorial_n n) (hj : j < n) : nI (pw n r t j) = nI j ↔ pw n r t j = j := nI_eq (by have := pw_lt hn hr t j hj; omega) (by omega)
theorem ref_ord (hn : n ≤ 7) (hr : r < X7_factorial_n n) {T : Nat} (hT : ORD n r T) {nm : Nat → Int32} (hm : ∀ j, j < n → nm j = nI (rn n r j)) : ∀ (u t d i : Nat) (a : Nat → Int32), t + u = T → 1 ≤ t → u + 2 ≤ d → (∀ j, j < n → a j = nI (pw n r t j)) → ∃ a' z, zfoldB (X7_orderOf_L29_B n) (X7_orderOf_L29_F nm n) d i (a, t, nI 0) = (some (nI T, a'), z) := by
  obtain ⟨o1, o2, o3, o4⟩ := hT
  intro u
  induction u with
  | zero =>
    intro t d i a ht h1 hd ha
    have e : t = T := by omega
    subst e
    obtain ⟨d, rfl⟩ : ∃ d', d = d' + 1 + 1 := ⟨d - 2, by omega⟩
    have hall : zfold (X7_orderOf_L38_F a) n 0 (nI 1) = nI 1 := by
      rcases all_fold (a := a) (n := n) with q | q
      · exact q.1
      · obtain ⟨q1, j, q2, q3⟩ := q
        exact absurd (by rw [ha j q2, o3 j q2]) q3
    have hB : X7_orderOf_L29_B n i (a, t, nI 0) = none := by
      unfold X7_orderOf_L29_B
      rw [if_pos (show nI 0 = 0 from rfl)]
      simp only [zlet]
      exact ite_same _
    have hF : X7_orderOf_L29_F nm n i (a, t, nI 0) = (a, t, nI 1) := by
      unfold X7_orderOf_L29_F
      rw [if_pos (show nI 0 = 0 from rfl)]
      simp only [zlet]
      show (if zfold (X7_orderOf_L38_F a) n 0 (nI 1) = 0 then _ else _) = _
      rw [hall, if_neg (by decide)]
    have hB2 : X7_orderOf_L29_B n (i + 1) (a, t, nI 1) = some (nI t, a) := by
      unfold X7_orderOf_L29_B
      exact if_neg (show ¬ nI 1 = 0 by decide)
    exact ⟨a, (a, t, nI 1), by rw [zfoldB, hB, hF, zfoldB, hB2]⟩
  | succ u ih =>
    intro t d i a ht h1 hd ha
    obtain ⟨d, rfl⟩ : ∃ d', d = d' + 1 := ⟨d - 1, by omega⟩
    have hno : zfold (X7_orderOf_L38_F a) n 0 (nI 1) = nI 0 := by
      rcases all_fold (a := a) (n := n) with q | q
      · refine absurd (fun j hj => ?_) (o4 t h1 (by omega))
        have := q.2 j hj
        rw [ha j hj] at this
        exact (nI_pw hn hr hj).mp this
      · exact q.1
    have hB : X7_orderOf_L29_B n i (a, t, nI 0) = none := by
      unfold X7_orderOf_L29_B
      rw [if_pos (show nI 0 = 0 from rfl)]
      simp only [zlet]
      exact ite_same _
    have hF : X7_orderOf_L29_F nm n i (a, t, nI 0) = (zfold (X7_orderOf_L80_F nm) n 0 a, t + 1, nI 0) := by
      unfold X7_orderOf_L29_F
      rw [if_pos (show nI 0 = 0 from rfl)]
      simp only [zlet]
      show (if zfold (X7_orderOf_L38_F a) n 0 (nI 1) = 0 then _ else _) = _
      rw [hno, if_pos (show nI 0 = 0 from rfl)]
    have h80 : ∀ j, j < n → zfold (X7_orderOf_L80_F nm) n 0 a j = nI (pw n r (t + 1) j) := by
      intro j hj
      show zfold (fun k a => upd a k ((fun x : Int32 => nm x.toNatClampNeg) (a k))) n 0 a j = _
      rw [map_fold (G := fun x : Int32 => nm x.toNatClampNeg), if_pos (by omega), ha j hj]
      show nm (nI (pw n r t j)).toNatClampNeg = _
      have hp := pw_lt hn hr t j hj
      rw [pk_cl (x := nI (pw n r t j)) (pw n r t j) rfl (by omega), hm _ hp]
      rfl
    obtain ⟨a', z, h9⟩ := ih (t + 1) d (i + 1) _ (by omega) (by omega) (by omega) h80
    exact ⟨a', z, by rw [zfoldB, hB, hF]; exact h9⟩
theorem ref_order (hn : n ≤ 7) (hr : r < X7_factorial_n n) {T : Nat} (hT : ORD n r T) {nm ag : Nat → Int32} (hm : ∀ j, j < n → nm j = nI (rn n r j)) : (∃ b z, zfoldB (X7_orderOf_L29_B n) (X7_orderOf_L29_F nm n) 14 0 (zfold (X7_orderOf_L2_F nm) n 0 ag, 1, nI 0) = (some b, z)) ∧ X7_orderOf_v nm ag n = nI T := by
  have h0 : ∀ j, j < n → zfold (X7_orderOf_L2_F nm) n 0 ag j = nI (pw n r 1 j) := by
    have key : ∀ (d i : Nat) (f : Nat → Int32) (j : Nat), zfold (X7_orderOf_L2_F nm) d i f j = if i ≤ j ∧ j < i + d then nm j else f j := by
      intro d
      induction d with
      | zero => intro i f j; show f j = _; rw [if_neg (by omega)]
      | succ d ih =>
        intro i f j
        show zfold (X7_orderOf_L2_F nm) d (i + 1) (upd f i (nm i)) j = _
        rw [ih]
        simp only [upd]
        by_cases c1 : j = i
        · rw [if_neg (by omega), if_pos c1, if_pos (by omega), c1]
        · by_cases c2 : i + 1 ≤ j ∧ j < i + 1 + d
          · rw [if_pos c2, if_pos (by omega)]
          · rw [if_neg c2, if_neg c1, if_neg (by omega)]
    intro j hj
    rw [key, if_pos (by omega), hm j hj]
    rfl
  have o2 := hT.2.1
  have o1 := hT.1
  obtain ⟨a', z, h9⟩ := ref_ord hn hr hT hm (T - 1) 1 14 0 _ (by omega) (by omega) (by omega) h0
  refine ⟨⟨_, _, h9⟩, ?_⟩
  unfold X7_orderOf_v
  rw [h9]
  rfl
theorem nm_ok (h2 : 2 ≤ n) (hn : n ≤ 7) : nmOK n := by
  intro r hr nm fr ag
  have hm : ∀ j, j < n → X7_layNames_c102 nm fr n r j = nI (rn n r j) := fun j hj => by
    rw [names_at hn hr, if_pos hj]
    unfold rn
    rw [if_pos hj]
  obtain ⟨T, hT⟩ := ord_ex h2 hn hr
  obtain ⟨q1, q2⟩ := ref_order (ag := ag) hn hr hT hm
  refine ⟨fun j hj => by rw [hm j hj]; exact vp_in_nI (rn_lt hn hr hj) (by omega), q1, ?_⟩
  rw [q2]
  exact vp_in_nI (by have := hT.2.1; omega) (by decide)
theorem fold33 {ren a : Nat → Int32} : ((zfold (X1_orderOfRenaming_L33_F ren) n 0 (a, nI 1)).2 = nI 1 ∧ ∀ j, j < n → ren (a j).toNatClampNeg = nI j) ∨ ((zfold (X1_orderOfRenaming_L33_F ren) n 0 (a, nI 1)).2 = nI 0 ∧ ∃ j, j < n ∧ ¬ ren (a j).toNatClampNeg = nI j) := by
  have key := zfold_I (n := n) (fun i (v : (Nat → Int32) × Int32) => (∀ j, i ≤ j → v.1 j = a j) ∧ ((v.2 = nI 1 ∧ ∀ j, j < i → ren (a j).toNatClampNeg = nI j) ∨ (v.2 = nI 0 ∧ ∃ j, j < i ∧ ¬ ren (a j).toNatClampNeg = nI j))) (F := X1_orderOfRenaming_L33_F ren) (fun i v hi h => ?_) n 0 (a, nI 1) (by omega) ⟨fun j _ => rfl, Or.inl ⟨rfl, fun j hj => absurd hj (Nat.not_lt_zero j)⟩⟩
  · exact key.2
  · obtain ⟨v1, v2⟩ := v
    obtain ⟨h0, h⟩ := h
    have e0 : v1 i = a i := h0 i (Nat.le_refl _)
    unfold X1_orderOfRenaming_L33_F
    simp only [pk_us, e0]
    by_cases c : ren (a i).toNatClampNeg = nI i
    · rw [if_pos c]
      refine ⟨fun j hj => by show upd v1 i _ j = _; rw [pk_un (by omega)]; exact h0 j (by omega), ?_⟩
      rcases h with ⟨q1, q2⟩ | ⟨q1, j, q2, q3⟩
      · refine Or.inl ⟨by show v2 &&& nI 1 = nI 1; rw [show v2 = nI 1 from q1]; decide, fun j hj => ?_⟩
        rcases Nat.lt_succ_iff_lt_or_eq.mp hj with u | u
        · exact q2 j u
        · rw [u]; exact c
      · exact Or.inr ⟨by show v2 &&& nI 1 = nI 0; rw [show v2 = nI 0 from q1]; decide, j, by omega, q3⟩
    · rw [if_neg c]
      refine ⟨fun j hj => by show upd v1 i _ j = _; rw [pk_un (by omega)]; exact h0 j (by omega), Or.inr ⟨?_, i, by omega, c⟩⟩
      show v2 &&& nI 0 = nI 0
      rcases h with ⟨q1, -⟩ | ⟨q1, -⟩
      · rw [show v2 = nI 1 from q1]; decide
      · rw [show v2 = nI 0 from q1]; decide
theorem fold33_1 {ren a : Nat → Int32} : ∀ j, (zfold (X1_orderOfRenaming_L33_F ren) n 0 (a, nI 1)).1 j = if j < n then ren (a j).toNatClampNeg else a j := by
  have key : ∀ (d i : Nat) (f : Nat → Int32) (v : Int32), (zfold (X1_orderOfRenaming_L33_F ren) d i (f, v)).1 = zfold (fun k a => upd a k ((fun x : Int32 => ren x.toNatClampNeg) (a k))) d i f := by
    intro d
    induction d with
    | zero => intro i f v; rfl
    | succ d ih =>
      intro i f v
      show (zfold (X1_orderOfRenaming_L33_F ren) d (i + 1) (X1_orderOfRenaming_L33_F ren i (f, v))).1 = zfold _ d (i + 1) (upd f i (ren (f i).toNatClampNeg))
      have e : X1_orderOfRenaming_L33_F ren i (f, v) = (upd f i (ren (f i).toNatClampNeg), (X1_orderOfRenaming_L33_F ren i (f, v)).2) := by
        unfold X1_orderOfRenaming_L33_F
        split <;> rfl
      rw [e]
      exact ih (i + 1) _ _
  intro j
  rw [key, map_fold (G := fun x : Int32 => ren x.toNatClampNeg)]
  by_cases c : j < n
  · rw [if_pos (by omega), if_pos c]
  · rw [if_neg (by omega), if_neg c]
theorem cls_ord (hn : n ≤ 7) (hr : r < X7_factorial_n n) {T : Nat} (hT : ORD n r T) {ren : Nat → Int32} (hm : ∀ j, j < n → ren j = nI (rn n r j)) : ∀ (d t : Nat) (a : Nat → Int32), t + d = 12 → 1 ≤ t → t ≤ T → (∀ j, j < n → a j = nI (pw n r (t - 1) j)) → zpick (zfoldB (X1_orderOfRenaming_L22_B ren n) (X1_orderOfRenaming_L22_F ren n) d t a) (fun b => b.1) (fun _ => nI 12) = nI T := by
  obtain ⟨o1, o2, o3, o4⟩ := hT
  intro d
  induction d with
  | zero =>
    intro t a ht h1 h3 ha
    show nI 12 = nI T
    rw [show T = 12 by omega]
  | succ d ih =>
    intro t a ht h1 h3 ha
    have hstep : ∀ j, j < n → ren (a j).toNatClampNeg = nI (pw n r t j) := fun j hj => by
      have hp := pw_lt hn hr (t - 1) j hj
      rw [ha j hj, pk_cl (x := nI (pw n r (t - 1) j)) (pw n r (t - 1) j) rfl (by omega), hm _ hp]
      obtain ⟨s, rfl⟩ : ∃ s, t = s + 1 := ⟨t - 1, by omega⟩
      rfl
    rcases fold33 (n := n) (ren := ren) (a := a) with ⟨q1, q2⟩ | ⟨q1, j, q2, q3⟩
    · have hid : ∀ j, j < n → pw n r t j = j := fun j hj => (nI_pw hn hr hj).mp ((hstep j hj).symm.trans (q2 j hj))
      have e : t = T := by
        rcases Nat.lt_or_ge t T with u | u
        · exact absurd hid (o4 t h1 u)
        · omega
      have hB : X1_orderOfRenaming_L22_B ren n t a = some (nI t, (zfold (X1_orderOfRenaming_L33_F ren) n 0 (a, nI 1)).1) := by
        unfold X1_orderOfRenaming_L22_B
        simp only [zlet]
        rw [q1, if_neg (by decide)]
      rw [zfoldB, hB, e]
      rfl
    · have hne : t ≠ T := fun u => q3 (by rw [hstep j q2, u, o3 j q2])
      have hB : X1_orderOfRenaming_L22_B ren n t a = none := by
        unfold X1_orderOfRenaming_L22_B
        simp only [zlet]
        rw [q1, if_pos (show nI 0 = 0 from rfl)]
      have hF : X1_orderOfRenaming_L22_F ren n t a = (zfold (X1_orderOfRenaming_L33_F ren) n 0 (a, nI 1)).1 := by
        unfold X1_orderOfRenaming_L22_F
        simp only [zlet]
        rw [q1, if_pos (show nI 0 = 0 from rfl)]
      rw [zfoldB, hB, hF]
      refine ih (t + 1) _ (by omega) (by omega) (by omega) (fun j hj => ?_)
      rw [fold33_1, if_pos hj, hstep j hj, Nat.add_sub_cancel]
theorem cls_order (hn : n ≤ 7) (hr : r < X7_factorial_n n) {T : Nat} (hT : ORD n r T) {ren mv : Nat → Int32} (hm : ∀ j, j < n → ren j = nI (rn n r j)) : X1_orderOfRenaming_v ren mv n = nI T := by
  unfold X1_orderOfRenaming_v
  simp only [zlet]
  refine cls_ord hn hr hT hm 11 1 _ (by decide) (by decide) hT.1 (fun j hj => ?_)
  have key : ∀ (d i : Nat) (f : Nat → Int32) (j : Nat), zfold X1_orderOfRenaming_L2_F d i f j = if i ≤ j ∧ j < i + d then nI j else f j := by
    intro d
    induction d with
    | zero => intro i f j; show f j = _; rw [if_neg (by omega)]
    | succ d ih =>
      intro i f j
      show zfold X1_orderOfRenaming_L2_F d (i + 1) (upd f i (nI i)) j = _
      rw [ih]
      simp only [upd]
      by_cases c1 : j = i
      · rw [if_neg (by omega), if_pos c1, if_pos (by omega), c1]
      · by_cases c2 : i + 1 ≤ j ∧ j < i + 1 + d
        · rw [if_pos c2, if_pos (by omega)]
        · rw [if_neg c2, if_neg c1, if_neg (by omega)]
  rw [key, if_pos (by omega)]
  rfl
end PN4
