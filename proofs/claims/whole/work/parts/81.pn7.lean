/-! ===== study against nameAll ===== -/
theorem zfold_R {α β : Type} {F : Nat → α → α} {F' : Nat → β → β} {n : Nat} (R : Nat → α → β → Prop) (h : ∀ i a b, i < n → R i a b → R (i + 1) (F i a) (F' i b)) : ∀ (d i : Nat) (a : α) (b : β), i + d = n → R i a b → R n (zfold F d i a) (zfold F' d i b) := by
  intro d
  induction d with
  | zero => intro i a b e q; rw [show n = i by omega]; exact q
  | succ d ih => intro i a b e q; exact ih (i + 1) _ _ (by omega) (h i a b (by omega) q)
theorem fac_same : ∀ n, n < 8 → X1_factorial_n n = X7_factorial_n n := by decide +kernel
theorem toL_cong {f g : Nat → Int32} {n : Nat} (h : ∀ j, j < n → f j = g j) : (toL f n).Perm (toL g n) := by rw [toL_ext h]
theorem MB_perm {n L : Nat} {f g : Nat → Int32} (h : (toL f L).Perm (toL g L)) (hg : ∀ j, j < L → MB n (g j)) : ∀ j, j < L → MB n (f j) := by
  intro j hj
  have hm : f j ∈ toL f L := List.mem_map.mpr ⟨j, List.mem_range.mpr hj, rfl⟩
  obtain ⟨k, hk, e⟩ := List.mem_map.mp (h.mem_iff.mp hm)
  rw [← e]
  exact hg k (List.mem_range.mp hk)
theorem keep_same {k1 k2 : Nat → Int32} {T : Nat} (hT : 1 ≤ T) (h : ∀ j, j < 13 → k1 j = k2 j) (hT2 : T ≤ 12) : ∀ j, j < 13 → upd (upd k1 0 (k1 0 + nI 1)) T (upd k1 0 (k1 0 + nI 1) T + nI 1) j = upd (upd k2 T (k2 T + nI 1)) 0 (upd k2 T (k2 T + nI 1) 0 + nI 1) j := by
  intro j hj
  simp only [upd]
  by_cases c1 : j = T
  · rw [if_pos c1, if_neg (by omega), if_neg (by omega), if_pos c1, h T (by omega)]
  · rw [if_neg c1]
    by_cases c2 : j = 0
    · rw [if_pos c2, if_pos c2, if_neg (by omega), h 0 (by omega)]
    · rw [if_neg c2, if_neg c2, if_neg c1, h j hj]
section ST
variable {n L : Nat} {msk lm own0 o0 : Nat → Int32}
def ownF (msk own0 : Nat → Int32) (L : Nat) : Nat → Int32 := srtF (va_cpy msk own0 0 0 L) L
theorem own_perm : (toL (ownF msk own0 L) L).Perm (toL msk L) := by
  unfold ownF
  refine (srt_ok (f := va_cpy msk own0 0 0 L) (n := L)).2.1.trans (toL_cong (fun j hj => ?_))
  unfold va_cpy
  rw [if_pos (by omega), Nat.zero_add, Nat.sub_zero]
def STR (n L : Nat) (r : Nat) (a : (Nat → Int32) × (Nat → Int32) × (Nat → Int32) × (Nat → Int32) × (Nat → Int32)) (b : (Nat → Int32) × (Nat → Int32) × (Nat → Int32) × (Nat → Int32) × (Nat → Int32) × (Nat → Int32)) : Prop :=
  (∀ j, j < L → a.1 j = b.2.2.1 j) ∧ (∀ j, j < 13 → a.2.1 j = b.1 j) ∧ (r < X7_factorial_n n → ∀ k, k < 7 → a.2.2.2.1 k = nI (rn n r k))
theorem st_step (h2 : 2 ≤ n) (hn : n ≤ 7) (hlm : ∀ j, j < L → lm j = msk j) (ho : ∀ j, j < L → o0 j = ownF msk own0 L j) (hm : ∀ j, j < L → MB n (msk j)) {r : Nat} {a : (Nat → Int32) × (Nat → Int32) × (Nat → Int32) × (Nat → Int32) × (Nat → Int32)} {b : (Nat → Int32) × (Nat → Int32) × (Nat → Int32) × (Nat → Int32) × (Nat → Int32) × (Nat → Int32)} (hr : r < X7_factorial_n n) (h : STR n L r a b) :
    STR n L (r + 1) (X1_study_L77_F n L msk own0 r a) (X7_nameAll_L99_F n L lm o0 r b) := by
  obtain ⟨hl, hk, hrn⟩ := h
  have hre := hrn hr
  obtain ⟨T, hT⟩ := ord_ex h2 hn hr
  have o1 : X1_orderOfRenaming_v a.2.2.2.1 a.2.2.2.2 n = nI T := cls_order hn hr hT (fun j hj => hre j (by omega))
  have o2 : X7_orderOf_v (X7_layNames_c102 b.2.2.2.1 b.2.2.2.2.2 n r) b.2.2.2.2.1 n = nI T := (ref_order hn hr hT (fun j hj => by rw [names_at hn hr, if_pos hj]; unfold rn; rw [if_pos hj])).2
  have hT12 : T ≤ 12 := hT.2.1
  have hT1 : 1 ≤ T := hT.1
  have cT : (nI T).toNatClampNeg = T := nI_clamp (by omega)
  have hnx : r + 1 < X7_factorial_n n → ∀ k, k < 7 → X1_nextRenaming_c72 a.2.2.2.1 n k = nI (rn n (r + 1) k) := fun q => next_rn h2 hn q hre
  have i1 : ∀ j, j < L → X1_rename_c71_70 a.2.2.2.1 a.2.2.1 (srtF (va_cpy msk own0 0 0 L) L) L j = fimg n r L msk j := by
    intro j hj
    refine (cls_img70 hn hre (MB_perm (own_perm (own0 := own0)) hm) j hj).trans ?_
    exact fimg_perm own_perm j hj
  have i2 : ∀ j, j < L → X7_sortForm_c105 (zfold (X7_nameAll_L121_F n lm r b.2.2.2.1 b.2.2.2.2.2) L 0 b.2.1) L j = fimg n r L msk j := by
    intro j hj
    rw [ref_img hn hr j hj]
    exact fimg_perm (toL_cong hlm) j hj
  unfold X1_study_L77_F X7_nameAll_L99_F
  simp only [zlet]
  rw [o1, o2, cT]
  generalize X1_rename_c71_70 a.2.2.2.1 a.2.2.1 (srtF (va_cpy msk own0 0 0 L) L) L = A at i1 ⊢
  generalize hrr : zfold (X7_nameAll_L121_F n lm r b.2.2.2.1 b.2.2.2.2.2) L 0 b.2.1 = rr at i2 ⊢
  have e1 : X1_compareRows_v L A a.1 = X7_compareForm_v (X7_sortForm_c105 rr L) b.2.2.1 L := by
    rw [cmp_same]
    exact cmp_ext (fun j hj => (i1 j hj).trans (i2 j hj).symm) hl
  have e2 : X1_compareRows_v L A (srtF (va_cpy msk own0 0 0 L) L) = X7_compareForm_v (X7_sortForm_c105 rr L) o0 L := by
    rw [cmp_same]
    exact cmp_ext (fun j hj => (i1 j hj).trans (i2 j hj).symm) (fun j hj => (ho j hj).symm)
  rw [e1, e2]
  have hks := keep_same hT1 hk hT12
  have p1 : ∀ j, j < L → va_cpy A a.1 0 0 L j = zfold (X7_nameAll_L222_F L rr) L 0 b.2.2.1 j := by
    intro j hj
    have e : zfold (X7_nameAll_L222_F L rr) L 0 b.2.2.1 j = _ := put_fold (G := fun k => (X7_sortForm_c105 rr L) k) L 0 b.2.2.1 j
    rw [e, if_pos (by omega)]
    unfold va_cpy
    rw [if_pos (by omega), Nat.zero_add, Nat.sub_zero]
    exact (i1 j hj).trans (i2 j hj).symm
  have p2 : ∀ j, j < L → va_cpy A a.1 0 0 L j = zfold (X7_nameAll_L222v2_F L rr) L 0 b.2.2.1 j := p1
  by_cases c1 : 0 ≤ X7_compareForm_v (X7_sortForm_c105 rr L) b.2.2.1 L
  · rw [if_pos c1, if_pos c1, if_pos c1]
    by_cases c2 : X7_compareForm_v (X7_sortForm_c105 rr L) o0 L = 0
    · rw [if_pos c2, if_pos c2]; exact ⟨hl, hks, hnx⟩
    · rw [if_neg c2, if_neg c2]; exact ⟨hl, hk, hnx⟩
  · rw [if_neg c1, if_neg c1, if_neg c1]
    by_cases c2 : X7_compareForm_v (X7_sortForm_c105 rr L) o0 L = 0
    · rw [if_pos c2, if_pos c2]; exact ⟨p2, hks, hnx⟩
    · rw [if_neg c2, if_neg c2]; exact ⟨p1, hk, hnx⟩
theorem zz13 {f : Nat → Int32} : ∀ j, j < 13 → fillF 13 (nI 0) f j = nI 0 := by
  intro j hj
  have e : fillF 13 (nI 0) f j = _ := put_fold (G := fun _ => nI 0) 13 0 f j
  rw [e, if_pos (by omega)]
theorem study_same (h2 : 2 ≤ n) (hn : n ≤ 7) (hlm : ∀ j, j < L → lm j = msk j) (hm : ∀ j, j < L → MB n (msk j)) {lea kee own im ren mv nm ag fr fm bs ow kp : Nat → Int32} :
    (∀ j, j < L → X1_study_c68 0 n L msk lea kee own im ren mv j = X7_nameAll_c106 n L lm nm ag fr fm bs ow kp j) ∧ (∀ j, j < 13 → X1_study_c69 0 n L msk lea kee own im ren mv j = X7_nameAll_c108 n L lm nm ag fr fm bs ow kp j) := by
  unfold X1_study_c68 X1_study_c69 X7_nameAll_c106 X7_nameAll_c108
  simp only [zlet, if_true]
  rw [fac_same n (by omega)]
  have e23 : ∀ j, j < L → zfold (X7_nameAll_L23_F lm) L 0 fm j = msk j := by
    intro j hj
    have e : zfold (X7_nameAll_L23_F lm) L 0 fm j = _ := put_fold (G := lm) L 0 fm j
    rw [e, if_pos (by omega), hlm j hj]
  have es : ∀ j, j < L → X7_sortForm_c105 (zfold (X7_nameAll_L23_F lm) L 0 fm) L j = ownF msk own L j := by
    intro j hj
    rw [sort_same]
    unfold ownF
    refine srt_ext (fun j hj => ?_) j hj
    rw [e23 j hj]
    unfold va_cpy
    rw [if_pos (by omega), Nat.zero_add, Nat.sub_zero]
  have e59 : ∀ j, j < L → (zfold (X7_nameAll_L59_F L (zfold (X7_nameAll_L23_F lm) L 0 fm)) L 0 (ow, bs)).1 j = ownF msk own L j ∧ (zfold (X7_nameAll_L59_F L (zfold (X7_nameAll_L23_F lm) L 0 fm)) L 0 (ow, bs)).2 j = ownF msk own L j := by
    intro j hj
    have q : ∀ (d i : Nat) (x : (Nat → Int32) × (Nat → Int32)), zfold (X7_nameAll_L59_F L (zfold (X7_nameAll_L23_F lm) L 0 fm)) d i x = (zfold (fun k a => upd a k (X7_sortForm_c105 (zfold (X7_nameAll_L23_F lm) L 0 fm) L k)) d i x.1, zfold (fun k a => upd a k (X7_sortForm_c105 (zfold (X7_nameAll_L23_F lm) L 0 fm) L k)) d i x.2) := by
      intro d
      induction d with
      | zero => intro i x; rfl
      | succ d ih => intro i x; exact ih (i + 1) _
    rw [q]
    refine ⟨?_, ?_⟩
    · show zfold _ L 0 ow j = _
      rw [put_fold, if_pos (by omega)]; exact es j hj
    · show zfold _ L 0 bs j = _
      rw [put_fold, if_pos (by omega)]; exact es j hj
  have z := zfold_R (n := X7_factorial_n n) (F := X1_study_L77_F n L msk own) (F' := X7_nameAll_L99_F n L lm (zfold (X7_nameAll_L59_F L (zfold (X7_nameAll_L23_F lm) L 0 fm)) L 0 (ow, bs)).1) (STR n L)
    (fun i a b hi q => st_step h2 hn hlm (fun j hj => (e59 j hj).1) hm hi q) (X7_factorial_n n) 0
    (va_cpy (srtF (va_cpy msk own 0 0 L) L) lea 0 0 L, fillF 13 (nI 0) kee, im, X1_startRenaming_c72 ren, mv)
    (zfold (X7_nameAll_L2_F) 13 0 kp, X7_sortForm_c105 (zfold (X7_nameAll_L23_F lm) L 0 fm) L, (zfold (X7_nameAll_L59_F L (zfold (X7_nameAll_L23_F lm) L 0 fm)) L 0 (ow, bs)).2, nm, ag, fr) (by omega)
    ⟨fun j hj => by
      refine Eq.trans ?_ (e59 j hj).2.symm
      exact (if_pos (by omega)).trans (by rw [Nat.zero_add, Nat.sub_zero]; rfl), fun j hj => by
      show fillF 13 (nI 0) kee j = fillF 13 (nI 0) kp j
      rw [zz13 j hj, zz13 j hj], fun _ => start_rn hn⟩
  exact ⟨z.1, z.2.1⟩
/-- the least form, and how many renamings of each order keep -/
def LEAST (n L : Nat) (msk : Nat → Int32) : Nat → Int32 := X7_nameAll_c106 n L msk (fun _ => 0) (fun _ => 0) (fun _ => 0) (fun _ => 0) (fun _ => 0) (fun _ => 0) (fun _ => 0)
def KEEPS (n L : Nat) (msk : Nat → Int32) : Nat → Int32 := X7_nameAll_c108 n L msk (fun _ => 0) (fun _ => 0) (fun _ => 0) (fun _ => 0) (fun _ => 0) (fun _ => 0) (fun _ => 0)
theorem study_is (h2 : 2 ≤ n) (hn : n ≤ 7) (hm : ∀ j, j < L → MB n (msk j)) {lea kee own im ren mv : Nat → Int32} :
    (∀ j, j < L → X1_study_c68 0 n L msk lea kee own im ren mv j = LEAST n L msk j) ∧ (∀ j, j < 13 → X1_study_c69 0 n L msk lea kee own im ren mv j = KEEPS n L msk j) := study_same h2 hn (fun _ _ => rfl) hm
theorem names_is (h2 : 2 ≤ n) (hn : n ≤ 7) (hlm : ∀ j, j < L → lm j = msk j) (hm : ∀ j, j < L → MB n (msk j)) {nm ag fr fm bs ow kp : Nat → Int32} :
    (∀ j, j < L → X7_nameAll_c106 n L lm nm ag fr fm bs ow kp j = LEAST n L msk j) ∧ (∀ j, j < 13 → X7_nameAll_c108 n L lm nm ag fr fm bs ow kp j = KEEPS n L msk j) := by
  have a := study_same h2 hn hlm hm (lea := fun _ => 0) (kee := fun _ => 0) (own := fun _ => 0) (im := fun _ => 0) (ren := fun _ => 0) (mv := fun _ => 0) (nm := nm) (ag := ag) (fr := fr) (fm := fm) (bs := bs) (ow := ow) (kp := kp)
  have b := study_is h2 hn hm (lea := fun _ => 0) (kee := fun _ => 0) (own := fun _ => 0) (im := fun _ => 0) (ren := fun _ => 0) (mv := fun _ => 0)
  exact ⟨fun j hj => (a.1 j hj).symm.trans (b.1 j hj), fun j hj => (a.2 j hj).symm.trans (b.2 j hj)⟩
end ST
