/-! ===== kinds: the same over naturals, for the kernel ===== -/
theorem alB_all {f : Nat → Bool} : ∀ {n : Nat}, (∀ k, k < n → f k = true) → alB f n = true
  | 0, _ => rfl
  | n + 1, h => by
    show (f n && alB f n) = true
    rw [h n (by omega), alB_all (fun k hk => h k (by omega))]
    rfl
def rnN (n p mk : Nat) : Nat := zfold (fun k a => a ||| (((mk >>> k) &&& 1) <<< dg p k)) n 0 0
theorem sh_1 : ∀ mk, mk < 64 → ∀ k, k < 7 → (nI mk >>> (nI k &&& 31)) &&& nI 1 = nI ((mk >>> k) &&& 1) := by decide +kernel
theorem sh_2 : ∀ b, b < 2 → ∀ s, s < 8 → nI b <<< (nI s &&& 31) = nI (b <<< s) ∧ b <<< s < 256 := by decide +kernel
theorem nI_or (a b : Nat) : nI a ||| nI b = nI (a ||| b) := by
  apply Int32.toBitVec_inj.mp
  rw [Int32.toBitVec_or]
  show BitVec.ofNat 32 a ||| BitVec.ofNat 32 b = BitVec.ofNat 32 (a ||| b)
  apply BitVec.eq_of_toNat_eq
  rw [BitVec.toNat_or, BitVec.toNat_ofNat, BitVec.toNat_ofNat, BitVec.toNat_ofNat, Nat.or_mod_two_pow]
theorem nI_and (a b : Nat) : nI a &&& nI b = nI (a &&& b) := by
  apply Int32.toBitVec_inj.mp
  rw [Int32.toBitVec_and]
  show BitVec.ofNat 32 a &&& BitVec.ofNat 32 b = BitVec.ofNat 32 (a &&& b)
  apply BitVec.eq_of_toNat_eq
  rw [BitVec.toNat_and, BitVec.toNat_ofNat, BitVec.toNat_ofNat, BitVec.toNat_ofNat, Nat.and_mod_two_pow]
theorem bit_lt (a : Nat) : a &&& 1 < 2 := by
  have := @Nat.and_le_right a 1
  omega
theorem rn1_N {n r mk : Nat} (hn : n ≤ 7) (hr : r < X7_factorial_n n) (hm : mk < 64) : rn1 n r (nI mk) = nI (rnN n (nmP n r) mk) ∧ rnN n (nmP n r) mk < 256 := by
  unfold rn1 X7_renamed_v rnN
  refine zfold_R (n := n) (fun _ (a : Int32) b => a = nI b ∧ b < 256) (fun k a b hk h => ?_) n 0 (nI 0) 0 (by omega) ⟨rfl, by omega⟩
  obtain ⟨rfl, hb⟩ := h
  unfold X7_renamed_L5_F
  have hs := rn_lt hn hr hk
  have e := rn_dg (n := n) (r := r) (k := k) hn hr
  rw [if_pos hk] at e
  obtain ⟨q1, q2⟩ := sh_2 ((mk >>> k) &&& 1) (bit_lt _) (rn n r k) (by omega)
  rw [sh_1 mk hm k (by omega), e, q1, nI_or]
  exact ⟨rfl, Nat.or_lt_two_pow (n := 8) hb q2⟩
def insN (x : Nat) : List Nat → List Nat
  | [] => [x]
  | y :: ys => if x ≤ y then x :: y :: ys else y :: insN x ys
def srtN : List Nat → List Nat
  | [] => []
  | x :: l => insN x (srtN l)
theorem insN_perm (x : Nat) : ∀ l, (insN x l).Perm (x :: l) := by
  intro l
  induction l with
  | nil => exact List.Perm.refl _
  | cons y ys ih =>
    unfold insN
    split
    · exact List.Perm.refl _
    · exact (ih.cons y).trans (List.Perm.swap x y ys)
theorem srtN_perm : ∀ l, (srtN l).Perm l := by
  intro l
  induction l with
  | nil => exact List.Perm.refl _
  | cons x l ih => exact (insN_perm x _).trans (ih.cons x)
theorem insN_sorted (x : Nat) : ∀ l : List Nat, l.Pairwise (fun a b => a ≤ b) → (insN x l).Pairwise (fun a b => a ≤ b) := by
  intro l
  induction l with
  | nil => intro _; exact List.pairwise_singleton _ _
  | cons y ys ih =>
    intro h
    obtain ⟨h1, h2⟩ := List.pairwise_cons.mp h
    unfold insN
    split
    · rename_i c
      refine List.pairwise_cons.mpr ⟨fun z hz => ?_, h⟩
      rcases List.mem_cons.mp hz with rfl | q
      · exact c
      · exact Nat.le_trans c (h1 z q)
    · rename_i c
      refine List.pairwise_cons.mpr ⟨fun z hz => ?_, ih h2⟩
      rcases List.mem_cons.mp ((insN_perm x ys).mem_iff.mp hz) with rfl | q
      · omega
      · exact h1 z q
theorem srtN_sorted : ∀ l, (srtN l).Pairwise (fun a b => a ≤ b) := by
  intro l
  induction l with
  | nil => exact List.Pairwise.nil
  | cons x l ih => exact insN_sorted x _ ih
theorem nI_le31 {a b : Nat} (ha : a < 2147483648) (hb : b < 2147483648) : nI a ≤ nI b ↔ a ≤ b := by
  rw [Int32.le_iff_toInt_le, nI_toInt ha, nI_toInt hb]
  omega
theorem sort_N {f : Nat → Int32} {m : Nat} {l : List Nat} (h : toL f m = l.map nI) (hb : ∀ x, x ∈ l → x < 2147483648) : toL (srtF f m) m = (srtN l).map nI := by
  obtain ⟨a1, a2, -⟩ := srt_ok (f := f) (n := m)
  refine List.Perm.eq_of_pairwise (le := fun a b : Int32 => a ≤ b) (fun a b _ _ h1 h2 => Int32.le_antisymm h1 h2) (srtd_L a1) ?_ (a2.trans ?_)
  · refine List.pairwise_map.mpr ((srtN_sorted l).imp_of_mem (fun {a b} ha hb' q => ?_))
    exact (nI_le31 (hb a ((srtN_perm l).mem_iff.mp ha)) (hb b ((srtN_perm l).mem_iff.mp hb'))).mpr q
  · rw [h]
    exact ((srtN_perm l).map nI).symm
def lexGE : List Nat → List Nat → Bool
  | a :: as, b :: bs => if a < b then false else if b < a then true else lexGE as bs
  | _, _ => true
theorem cmp_lex {f g : Nat → Int32} : ∀ (la lb : List Nat) (i : Nat), la.length = lb.length → (∀ x, x ∈ la → x < 2147483648) → (∀ x, x ∈ lb → x < 2147483648) → (∀ j, j < la.length → f (i + j) = nI (la.getD j 0)) → (∀ j, j < lb.length → g (i + j) = nI (lb.getD j 0)) →
    (0 ≤ (zfoldX (X7_compareForm_L5_B f g) (X7_compareForm_L5_F f g) la.length i (nI 0)).2 ↔ lexGE la lb = true) := by
  intro la
  induction la with
  | nil =>
    intro lb i hl _ _ _ _
    cases lb with
    | nil => exact ⟨fun _ => rfl, fun _ => show (0 : Int32) ≤ nI 0 by decide⟩
    | cons b bs => cases hl
  | cons a as ih =>
    intro lb i hl ha hb hf hg
    cases lb with
    | nil => cases hl
    | cons b bs =>
      have a9 : a < 2147483648 := ha a List.mem_cons_self
      have b9 : b < 2147483648 := hb b List.mem_cons_self
      have f0 : f i = nI a := hf 0 (by simp)
      have g0 : g i = nI b := hg 0 (by simp)
      have e0 : X7_compareForm_L5_B f g i (nI 0) = none := by
        unfold X7_compareForm_L5_B
        rw [if_pos (show nI 0 = 0 from rfl)]
        split
        · split <;> rfl
        · rfl
      have e1 : zfoldX (X7_compareForm_L5_B f g) (X7_compareForm_L5_F f g) (a :: as).length i (nI 0) = zfoldX (X7_compareForm_L5_B f g) (X7_compareForm_L5_F f g) as.length (i + 1) (X7_compareForm_L5_F f g i (nI 0)) := by
        simp only [List.length_cons, zfoldX, e0]
      have st : ∀ (d i : Nat) (c : Int32), ¬ c = 0 → (zfoldX (X7_compareForm_L5_B f g) (X7_compareForm_L5_F f g) d i c).2 = c := by
        intro d i c hc
        cases d with
        | zero => rfl
        | succ d =>
          rw [zfoldX_hit (b := c) (by unfold X7_compareForm_L5_B; rw [if_neg hc])]
      have eF : X7_compareForm_L5_F f g i (nI 0) = if a < b then -1 else if b < a then nI 1 else nI 0 := by
        unfold X7_compareForm_L5_F
        rw [if_pos (show nI 0 = 0 from rfl), f0, g0]
        by_cases c1 : a < b
        · rw [if_neg (fun q => by have := (nI_le31 b9 a9).mp q; omega), if_pos c1]
        · rw [if_pos ((nI_le31 b9 a9).mpr (by omega)), if_neg c1]
          by_cases c2 : b < a
          · rw [if_neg (fun q => by have := (nI_le31 a9 b9).mp q; omega), if_pos c2]
          · rw [if_pos ((nI_le31 a9 b9).mpr (by omega)), if_neg c2]
      rw [e1, eF]
      show _ ↔ (if a < b then false else if b < a then true else lexGE as bs) = true
      by_cases c1 : a < b
      · rw [if_pos c1, if_pos c1, st _ _ _ (by decide)]
        exact ⟨fun q => absurd q (by decide), fun q => by cases q⟩
      · rw [if_neg c1, if_neg c1]
        by_cases c2 : b < a
        · rw [if_pos c2, if_pos c2, st _ _ _ (by decide)]
          exact ⟨fun _ => rfl, fun _ => by decide⟩
        · rw [if_neg c2, if_neg c2]
          refine ih bs (i + 1) (by simpa using hl) (fun x hx => ha x (List.mem_cons_of_mem _ hx)) (fun x hx => hb x (List.mem_cons_of_mem _ hx)) (fun j hj => ?_) (fun j hj => ?_)
          · rw [show i + 1 + j = i + (j + 1) by omega]
            exact hf (j + 1) (by simpa using hj)
          · rw [show i + 1 + j = i + (j + 1) by omega]
            exact hg (j + 1) (by simpa using hj)
theorem toL_get {f : Nat → Int32} {m : Nat} {l : List Nat} (h : toL f m = l.map nI) : l.length = m ∧ ∀ j, j < m → f j = nI (l.getD j 0) := by
  have hl : l.length = m := by
    have := congrArg List.length h
    simp [toL] at this
    omega
  refine ⟨hl, fun j hj => ?_⟩
  have e := toL_at (f := f) hj
  rw [h, List.getElem?_map, List.getElem?_eq_getElem (by omega)] at e
  rw [List.getD_eq_getElem?_getD, List.getElem?_eq_getElem (by omega)]
  simpa using e.symm
def LSb (n : Nat) (l : List Nat) : Bool := alB (fun r => frc (nmP n r) (fun p => lexGE (srtN (l.map (rnN n p))) l)) (X7_factorial_n n)
theorem LS_iff {n m : Nat} {f : Nat → Int32} {l : List Nat} (hn : n ≤ 7) (h : toL f m = l.map nI) (hb : ∀ x, x ∈ l → x < 64) : LST n m f ↔ LSb n l = true := by
  obtain ⟨hl, hg⟩ := toL_get h
  have key : ∀ r, r < X7_factorial_n n → (0 ≤ X7_compareForm_v (fimg n r m f) f m ↔ frc (nmP n r) (fun p => lexGE (srtN (l.map (rnN n p))) l) = true) := by
    intro r hr
    rw [frc_eq]
    have e1 : toL (fun k => rn1 n r (f k)) m = (l.map (rnN n (nmP n r))).map nI := by
      have : toL (fun k => rn1 n r (f k)) m = (toL f m).map (rn1 n r) := by
        unfold toL
        rw [List.map_map]
        rfl
      rw [this, h, List.map_map, List.map_map]
      exact List.map_congr_left (fun x hx => (rn1_N hn hr (hb x hx)).1)
    have hb2 : ∀ x, x ∈ l.map (rnN n (nmP n r)) → x < 2147483648 := by
      intro x hx
      obtain ⟨y, hy, rfl⟩ := List.mem_map.mp hx
      have := (rn1_N hn hr (hb y hy)).2
      omega
    have e2 := sort_N e1 hb2
    obtain ⟨l2, g2⟩ := toL_get e2
    unfold X7_compareForm_v
    have q := cmp_lex (f := fimg n r m f) (g := f) (srtN (l.map (rnN n (nmP n r)))) l 0 (by omega) (fun x hx => hb2 x ((srtN_perm _).mem_iff.mp hx)) (fun x hx => by have := hb x hx; omega)
      (fun j hj => by rw [Nat.zero_add]; exact g2 j (by omega)) (fun j hj => by rw [Nat.zero_add]; exact hg j (by omega))
    rw [l2] at q
    exact q
  constructor
  · intro q
    exact alB_all (fun r hr => (key r hr).mp (q r hr))
  · intro q r hr
    exact (key r hr).mpr (alB_at q r hr)
