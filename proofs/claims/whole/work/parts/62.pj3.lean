/-! ===== both looks agree: the six signs, each below, at, above or not known ===== -/
theorem wkA_ext {L L' : Nat → Int32} (h : ∀ i, i < 6 → L i = L' i) : wkA L = wkA L' := zfold_ext (n := 6) (fun i a hi => by rw [h i hi]) 6 0 _ (Nat.le_refl _)
theorem term_ext {L L' : Nat → Int32} (h : ∀ i, i < 6 → L i = L' i) {j : Nat} (hj : j < 3) : X7_term_v L j = X7_term_v L' j := by
  unfold X7_term_v
  rw [h 2 (by decide), h 3 (by decide), h (2 * j) (by omega), h (2 * j + 1) (by omega)]
theorem wkT_ext {L L' : Nat → Int32} (h : ∀ i, i < 6 → L i = L' i) {o t : Nat} : wkT L o t = wkT L' o t := zfold_ext (n := 3) (fun i a hi => by simp only [term_ext h hi]) 3 0 _ (Nat.le_refl _)
theorem wkA_lt {L : Nat → Int32} : (wkA L).2 < 6 := by
  unfold wkA
  refine zfold_I (n := 6) (fun _ (a : Nat × Nat) => a.2 < 6) (fun i a hi h => ?_) 6 0 (0, 0) (by decide) (by decide)
  split
  · exact hi
  · exact h
theorem wkD_ext {L L' : Nat → Int32} (h : ∀ i, i < 6 → L i = L' i) : wkD L = wkD L' := by
  have hl := wkA_lt (L := L')
  unfold wkD wkK
  rw [wkA_ext h, wkT_ext h]
  generalize wkT L' (wkA L').1 (wkA L').2 = q
  generalize wkA L' = r at hl ⊢
  by_cases c3 : nI r.2 - nI r.2 / nI 2 * nI 2 = 0
  · rw [if_pos c3, if_pos c3, h (r.2 + 1) (zat1 hl c3)]
  · rw [if_neg c3, if_neg c3, h (r.2 - 1) (by omega)]
theorem jdD_ext {J J' : Nat → Nat → Int32} (h : ∀ i k, i < 3 → k < 2 → J i k = J' i k) : jdD J = jdD J' := by
  have hA : jdA J = jdA J' := zfoldB_ext (n := 3) (fun i a hi => by unfold jdB; rw [h i 0 hi (by decide), h i 1 hi (by decide)]) (fun i a hi => by unfold jdF; rw [h i 0 hi (by decide), h i 1 hi (by decide)]) 3 0 _ (Nat.le_refl _)
  have hI : ∀ am, jdA J' = (none, am) → am.1 = -4 ∨ am.1 = nI 0 ∨ am.1 = nI 1 ∨ am.1 = nI 2 := by
    intro am e
    have q := (zfoldB_PQ (n := 3) (fun (z : Int32 × Int32 × Int32) => z.1 = -4 ∨ z.1 = nI 0 ∨ z.1 = nI 1 ∨ z.1 = nI 2) (fun _ => True) (B := jdB J') (F := jdF J') (fun i a hi ha => ?_) (fun _ _ _ _ _ _ => trivial) 3 0 ((-4), nI 0, nI 0) (by decide) (Or.inl rfl)).2
    · have e2 : zfoldB (jdB J') (jdF J') 3 0 ((-4), nI 0, nI 0) = (none, am) := e
      rw [e2] at q
      exact q
    · unfold jdF
      have hi3 : nI i = nI 0 ∨ nI i = nI 1 ∨ nI i = nI 2 := by
        rcases (show i = 0 ∨ i = 1 ∨ i = 2 by omega) with rfl | rfl | rfl
        · exact Or.inl rfl
        · exact Or.inr (Or.inl rfl)
        · exact Or.inr (Or.inr rfl)
      repeat' split
      all_goals first | exact ha | exact Or.inr hi3
  unfold jdD
  rw [hA]
  cases e : jdA J' with
  | mk o am =>
    cases o with
    | some u => rfl
    | none =>
      show jdK J am = jdK J' am
      rcases hI am e with q | q | q | q
      · unfold jdK
        simp only [if_pos q]
      · unfold jdK tlD
        rw [show am.1.toNatClampNeg = 0 by rw [q]; rfl, h 0 0 (by decide) (by decide), h 0 1 (by decide) (by decide)]
      · unfold jdK tlD
        rw [show am.1.toNatClampNeg = 1 by rw [q]; rfl, h 1 0 (by decide) (by decide), h 1 1 (by decide) (by decide)]
      · unfold jdK tlD
        rw [show am.1.toNatClampNeg = 2 by rw [q]; rfl, h 2 0 (by decide) (by decide), h 2 1 (by decide) (by decide)]
/-- a sign by its code -/
def cvS (k : Nat) : Int32 := if k = 0 then -1 else if k = 1 then 0 else if k = 2 then 1 else nI 9
def cvJ (x : Int32) : Int32 := if x = nI 9 then -4 else x
def cL (k : Nat) (i : Nat) : Int32 := cvS (k / 4 ^ i % 4)
def jwOk (k : Nat) : Bool :=
  let w := wkD (cL k); let j := jdD (fun t s => cvJ (cL k (2 * t + s)))
  (w.1 == j.1) && (w.1 != 2 || ((w.2.1 / 2 == j.2.1) && (w.2.1 % 2 == j.2.2.1) && (w.2.2 == j.2.2.2) && (w.2.2 == -1 || w.2.2 == 0 || w.2.2 == 1)))
def allB (f : Nat → Bool) : Nat → Bool
  | 0 => true
  | n + 1 => f n && allB f n
theorem allB_at {f : Nat → Bool} : ∀ {n : Nat}, allB f n = true → ∀ k, k < n → f k = true
  | 0, _, k, hk => absurd hk (Nat.not_lt_zero k)
  | n + 1, h, k, hk => by
    have h2 : f n = true ∧ allB f n = true := by simpa [allB] using h
    rcases Nat.lt_succ_iff_lt_or_eq.mp hk with q | q
    · exact allB_at h2.2 k q
    · rw [q]; exact h2.1
set_option maxRecDepth 100000 in
theorem jw_all : allB jwOk 4096 = true := by decide +kernel
