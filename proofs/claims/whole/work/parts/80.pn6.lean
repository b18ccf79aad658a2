/-! ===== the least form and what keeps: both alike ===== -/
theorem cmp_same {f g : Nat → Int32} {n : Nat} : X1_compareRows_v n f g = X7_compareForm_v f g n := by
  unfold X1_compareRows_v X7_compareForm_v
  have st : ∀ (d i : Nat) (c : Int32), ¬ c = 0 → (zfoldX (X7_compareForm_L5_B f g) (X7_compareForm_L5_F f g) d i c).2 = c := by
    intro d i c hc
    cases d with
    | zero => rfl
    | succ d =>
      rw [zfoldX_hit (b := c) (by unfold X7_compareForm_L5_B; rw [if_neg hc])]
  have key : ∀ (d i : Nat), zpick (zfoldB (X1_compareRows_L2_B f g) (X1_compareRows_L2_F f g) d i ()) (fun b => b) (fun _ => nI 0) = (zfoldX (X7_compareForm_L5_B f g) (X7_compareForm_L5_F f g) d i (nI 0)).2 := by
    intro d
    induction d with
    | zero => intro i; rfl
    | succ d ih =>
      intro i
      have e0 : X7_compareForm_L5_B f g i (nI 0) = none := by
        unfold X7_compareForm_L5_B
        rw [if_pos (show nI 0 = 0 from rfl)]
        split
        · split <;> rfl
        · rfl
      have e1 : zfoldX (X7_compareForm_L5_B f g) (X7_compareForm_L5_F f g) (d + 1) i (nI 0) = zfoldX (X7_compareForm_L5_B f g) (X7_compareForm_L5_F f g) d (i + 1) (X7_compareForm_L5_F f g i (nI 0)) := by
        simp only [zfoldX, e0]
      rw [e1]
      by_cases c : f i = g i
      · have e2 : X1_compareRows_L2_B f g i () = none := if_pos c
        have e3 : X7_compareForm_L5_F f g i (nI 0) = nI 0 := by
          unfold X7_compareForm_L5_F
          rw [if_pos (show nI 0 = 0 from rfl), c, if_pos (Int32.le_refl _), if_pos (Int32.le_refl _)]
        rw [e3, ← ih (i + 1)]
        simp only [zfoldB, e2]
      · have e2 : X1_compareRows_L2_B f g i () = some (icmp (f i) (g i)) := if_neg c
        have e4 : X7_compareForm_L5_F f g i (nI 0) = icmp (f i) (g i) := by
          unfold X7_compareForm_L5_F icmp
          rw [if_pos (show nI 0 = 0 from rfl)]
          by_cases c1 : g i ≤ f i
          · rw [if_pos c1, if_pos c1, if_neg c, if_neg (fun q => c (Int32.le_antisymm q c1))]
            rfl
          · rw [if_neg c1, if_neg c1]
        have e5 : ¬ icmp (f i) (g i) = 0 := by
          unfold icmp
          by_cases c1 : g i ≤ f i
          · rw [if_pos c1, if_neg c]; decide
          · rw [if_neg c1]; decide
        rw [e4, st _ _ _ e5]
        simp only [zfoldB, e2]
        rfl
  exact key n 0
theorem cmp_ext {f g f' g' : Nat → Int32} {n : Nat} (h1 : ∀ j, j < n → f j = f' j) (h2 : ∀ j, j < n → g j = g' j) : X7_compareForm_v f g n = X7_compareForm_v f' g' n := by
  unfold X7_compareForm_v
  rw [zfoldX_ext (n := n) (B' := X7_compareForm_L5_B f' g') (F' := X7_compareForm_L5_F f' g') (fun i a hi => by unfold X7_compareForm_L5_B; rw [h1 i hi, h2 i hi]) (fun i a hi => by unfold X7_compareForm_L5_F; rw [h1 i hi, h2 i hi]) n 0 _ (by omega)]
theorem put_fold {G : Nat → Int32} : ∀ (d i : Nat) (f : Nat → Int32) (j : Nat), zfold (fun k a => upd a k (G k)) d i f j = if i ≤ j ∧ j < i + d then G j else f j := by
  intro d
  induction d with
  | zero => intro i f j; show f j = _; rw [if_neg (by omega)]
  | succ d ih =>
    intro i f j
    show zfold (fun k a => upd a k (G k)) d (i + 1) (upd f i (G i)) j = _
    rw [ih]
    simp only [upd]
    by_cases c1 : j = i
    · rw [if_neg (by omega), if_pos c1, if_pos (by omega), c1]
    · by_cases c2 : i + 1 ≤ j ∧ j < i + 1 + d
      · rw [if_pos c2, if_pos (by omega)]
      · rw [if_neg c2, if_neg c1, if_neg (by omega)]
theorem zfold_add {α : Type} {F : Nat → α → α} : ∀ (d e i : Nat) (a : α), zfold F (d + e) i a = zfold F e (i + d) (zfold F d i a) := by
  intro d
  induction d with
  | zero => intro e i a; rw [Nat.zero_add]; rfl
  | succ d ih =>
    intro e i a
    rw [show d + 1 + e = (d + e) + 1 by omega]
    show zfold F (d + e) (i + 1) (F i a) = _
    rw [ih, show i + 1 + d = i + (d + 1) by omega]
    rfl
theorem zfold_id {α : Type} {F : Nat → α → α} {n : Nat} (h : ∀ i a, i < n → F i a = a) {m : Nat} : ∀ (d i : Nat) (a : α), m ≤ i → i + d ≤ n → zfold F d i a = a := by
  intro d
  induction d with
  | zero => intro i a _ _; rfl
  | succ d ih =>
    intro i a h1 h2
    show zfold F d (i + 1) (F i a) = a
    rw [h i a (by omega)]
    exact ih (i + 1) a (by omega) (by omega)
theorem zfold_idm {α : Type} {F : Nat → α → α} {n m : Nat} (h : ∀ i a, m ≤ i → i < n → F i a = a) : ∀ (d i : Nat) (a : α), m ≤ i → i + d ≤ n → zfold F d i a = a := by
  intro d
  induction d with
  | zero => intro i a _ _; rfl
  | succ d ih =>
    intro i a h1 h2
    show zfold F d (i + 1) (F i a) = a
    rw [h i a h1 (by omega)]
    exact ih (i + 1) a (by omega) (by omega)
/-- a mask of the first n points -/
def MB (n : Nat) (v : Int32) : Prop := ∀ j, n ≤ j → j < 7 → (v >>> (nI j &&& 31)) &&& nI 1 = 0
theorem sl31 : ∀ k, k < 32 → (0 : Int32) <<< (nI k) = 0 := by decide +kernel
theorem an31 (x : Int32) : ∃ k, k < 32 ∧ x &&& 31 = nI k := by
  refine ⟨(x.toBitVec &&& 31#32).toNat, ?_, ?_⟩
  · have : (x.toBitVec &&& 31#32).toNat = x.toBitVec.toNat &&& 31 := by rw [BitVec.toNat_and]; rfl
    rw [this]
    have := @Nat.and_le_right x.toBitVec.toNat 31
    omega
  · apply Int32.toBitVec_inj.mp
    rw [Int32.toBitVec_and]
    show x.toBitVec &&& 31#32 = BitVec.ofNat 32 _
    rw [BitVec.ofNat_toNat, BitVec.setWidth_eq]
theorem sl0 (x : Int32) : (0 : Int32) <<< (x &&& 31) = 0 := by
  obtain ⟨k, h1, h2⟩ := an31 x
  rw [h2]
  exact sl31 k h1
/-- a mask after the r-th renaming of n points -/
def rn1 (n r : Nat) (mk : Int32) : Int32 := X7_renamed_v (fun k => nI (rn n r k)) mk n
theorem rn1_ref {n r : Nat} {nm : Nat → Int32} (h : ∀ k, k < n → nm k = nI (rn n r k)) (mk : Int32) : X7_renamed_v nm mk n = rn1 n r mk := by
  unfold rn1 X7_renamed_v
  exact zfold_ext (n := n) (fun i a hi => by unfold X7_renamed_L5_F; rw [h i hi]) n 0 _ (by omega)
theorem rn1_cls70 {n r : Nat} (hn : n ≤ 7) {ren ff : Nat → Int32} {i : Nat} (h : ∀ k, k < 7 → ren k = nI (rn n r k)) (hm : MB n (ff i)) : zfold (X1_rename_L13_70_F ren ff i) 7 0 (nI 0) = rn1 n r (ff i) := by
  rw [show (7 : Nat) = n + (7 - n) by omega, zfold_add, Nat.zero_add]
  rw [zfold_idm (n := 7) (m := n) (fun j a h1 h2 => by unfold X1_rename_L13_70_F; rw [hm j h1 h2, sl0, Int32.or_zero]) (7 - n) n _ (Nat.le_refl _) (by omega)]
  unfold rn1 X7_renamed_v
  exact zfold_ext (n := n) (fun j a hj => by unfold X1_rename_L13_70_F X7_renamed_L5_F; rw [h j (by omega)]) n 0 _ (by omega)
theorem rn1_cls74 {n r : Nat} (hn : n ≤ 7) {ren ff : Nat → Int32} {i : Nat} (h : ∀ k, k < 7 → ren k = nI (rn n r k)) (hm : MB n (ff i)) : zfold (X1_rename_L13_74_F ren ff i) 7 0 (nI 0) = rn1 n r (ff i) := by
  rw [show (7 : Nat) = n + (7 - n) by omega, zfold_add, Nat.zero_add]
  rw [zfold_idm (n := 7) (m := n) (fun j a h1 h2 => by unfold X1_rename_L13_74_F; rw [hm j h1 h2, sl0, Int32.or_zero]) (7 - n) n _ (Nat.le_refl _) (by omega)]
  unfold rn1 X7_renamed_v
  exact zfold_ext (n := n) (fun j a hj => by unfold X1_rename_L13_74_F X7_renamed_L5_F; rw [h j (by omega)]) n 0 _ (by omega)
/-- a form after the r-th renaming -/
def fimg (n r L : Nat) (f : Nat → Int32) : Nat → Int32 := srtF (fun k => rn1 n r (f k)) L
theorem fimg_perm {n r L : Nat} {f g : Nat → Int32} (h : (toL f L).Perm (toL g L)) : ∀ j, j < L → fimg n r L f j = fimg n r L g j := by
  refine srt_perm ?_
  have e : ∀ f : Nat → Int32, toL (fun k => rn1 n r (f k)) L = (toL f L).map (rn1 n r) := by
    intro f
    unfold toL
    rw [List.map_map]
    rfl
  rw [e, e]
  exact h.map _
theorem cls_img70 {n r L : Nat} (hn : n ≤ 7) {ren ff im : Nat → Int32} (h : ∀ k, k < 7 → ren k = nI (rn n r k)) (hm : ∀ i, i < L → MB n (ff i)) : ∀ j, j < L → X1_rename_c71_70 ren im ff L j = fimg n r L ff j := by
  unfold X1_rename_c71_70 fimg
  refine srt_ext (fun j hj => ?_)
  have e : zfold (X1_rename_L2_70_F ren ff) L 0 im j = _ := put_fold (G := fun i => zfold (X1_rename_L13_70_F ren ff i) 7 0 (nI 0)) L 0 im j
  rw [e, if_pos (by omega)]
  exact rn1_cls70 hn h (hm j hj)
theorem cls_img74 {n r L : Nat} (hn : n ≤ 7) {ren ff im : Nat → Int32} (h : ∀ k, k < 7 → ren k = nI (rn n r k)) (hm : ∀ i, i < L → MB n (ff i)) : ∀ j, j < L → X1_rename_c71_74 ren im ff L j = fimg n r L ff j := by
  unfold X1_rename_c71_74 fimg
  refine srt_ext (fun j hj => ?_)
  have e : zfold (X1_rename_L2_74_F ren ff) L 0 im j = _ := put_fold (G := fun i => zfold (X1_rename_L13_74_F ren ff i) 7 0 (nI 0)) L 0 im j
  rw [e, if_pos (by omega)]
  exact rn1_cls74 hn h (hm j hj)
theorem ref_img {n r L : Nat} (hn : n ≤ 7) (hr : r < X7_factorial_n n) {lm n1 f1 fm : Nat → Int32} : ∀ j, j < L → X7_sortForm_c105 (zfold (X7_nameAll_L121_F n lm r n1 f1) L 0 fm) L j = fimg n r L lm j := by
  intro j hj
  rw [sort_same]
  refine srt_ext (fun j hj => ?_) j hj
  have e : zfold (X7_nameAll_L121_F n lm r n1 f1) L 0 fm j = _ := put_fold (G := fun k => X7_renamed_v (X7_layNames_c102 n1 f1 n r) (lm k) n) L 0 fm j
  rw [e, if_pos (by omega)]
  exact rn1_ref (fun k hk => by rw [names_at hn hr, if_pos hk]; unfold rn; rw [if_pos hk]) _
theorem start_rn {n : Nat} (hn : n ≤ 7) {f : Nat → Int32} : ∀ k, k < 7 → X1_startRenaming_c72 f k = nI (rn n 0 k) := by
  intro k hk
  have e : X1_startRenaming_c72 f k = _ := put_fold (G := nI) 7 0 f k
  rw [e, if_pos (by omega)]
  have z : ∀ n, n < 8 → ∀ k, k < 7 → k = rn n 0 k := by decide +kernel
  rw [← z n (by omega) k hk]
