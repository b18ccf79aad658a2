/-! ===== the pure part: one relation of five points: the class's judge against the reference's work ===== -/
theorem zfold_ext {α : Type} {F F' : Nat → α → α} {n : Nat} (h : ∀ i a, i < n → F i a = F' i a) : ∀ (d i : Nat) (a : α), i + d ≤ n → zfold F d i a = zfold F' d i a := by
  intro d
  induction d with
  | zero => intro i a _; rfl
  | succ d ih =>
    intro i a hi
    show zfold F d (i + 1) (F i a) = zfold F' d (i + 1) (F' i a)
    rw [h i a (by omega)]
    exact ih (i + 1) _ (by omega)
theorem zfoldB_ext {α β : Type} {B B' : Nat → α → Option β} {F F' : Nat → α → α} {n : Nat} (hB : ∀ i a, i < n → B i a = B' i a) (h : ∀ i a, i < n → F i a = F' i a) : ∀ (d i : Nat) (a : α), i + d ≤ n → zfoldB B F d i a = zfoldB B' F' d i a := by
  intro d
  induction d with
  | zero => intro i a _; rfl
  | succ d ih =>
    intro i a hi
    simp only [zfoldB]
    rw [hB i a (by omega), h i a (by omega), ih (i + 1) _ (by omega)]
/-- the reference's look at six signs: how many are open, and which -/
def wkA (L : Nat → Int32) : Nat × Nat := zfold (fun k a9 => if L k = nI 9 then (a9.1 + 1, k) else (a9.1, a9.2)) 6 0 (0, 0)
def wkT (L : Nat → Int32) (o t : Nat) : Int32 × Int32 := zfold (fun j a9 => if (nI o) = 0 then (if (X7_term_v L j) ≤ 0 then (if 0 ≤ (X7_term_v L j) then (a9.1 + (nI 0), a9.2 + (nI 0)) else (a9.1 + (nI 0), a9.2 + (nI 1))) else (if 0 ≤ (X7_term_v L j) then (a9.1 + (nI 1), a9.2 + (nI 0)) else (a9.1 + (nI 1), a9.2 + (nI 1)))) else (if ((nI t) / (nI 2)) = (nI j) then (a9.1, a9.2) else (if (X7_term_v L j) ≤ 0 then (if 0 ≤ (X7_term_v L j) then (a9.1 + (nI 0), a9.2 + (nI 0)) else (a9.1 + (nI 0), a9.2 + (nI 1))) else (if 0 ≤ (X7_term_v L j) then (a9.1 + (nI 1), a9.2 + (nI 0)) else (a9.1 + (nI 1), a9.2 + (nI 1)))))) 3 0 (nI 0, nI 0)
/-- what comes of it: 0 nothing, 1 a contradiction, 2 a sign: which of the six, and its value -/
def wkS (L : Nat → Int32) (t : Nat) (q : Int32 × Int32) (p : Int32) : Nat × Nat × Int32 :=
  if p = 0 then (0, 0, 0) else if q.1 ≤ 0 then (if q.2 ≤ 0 then (2, t, nI 0 * p * (if (nI t) / (nI 2) = nI 1 then -1 else nI 1)) else (2, t, nI 1 * p * (if (nI t) / (nI 2) = nI 1 then -1 else nI 1))) else if q.2 ≤ 0 then (2, t, (-1) * p * (if (nI t) / (nI 2) = nI 1 then -1 else nI 1)) else (0, 0, 0)
def wkD (L : Nat → Int32) : Nat × Nat × Int32 :=
  if nI (wkA L).1 ≤ nI 1 then
    (if nI (wkA L).1 = 0 then (if (wkT L (wkA L).1 (wkA L).2).1 = 0 then (if (wkT L (wkA L).1 (wkA L).2).2 = 0 then (0, 0, 0) else (1, 0, 0)) else (if (wkT L (wkA L).1 (wkA L).2).2 = 0 then (1, 0, 0) else (0, 0, 0)))
     else if (nI (wkA L).2) - (nI (wkA L).2) / (nI 2) * (nI 2) = 0 then wkS L (wkA L).2 (wkT L (wkA L).1 (wkA L).2) (L ((wkA L).2 + 1)) else wkS L (wkA L).2 (wkT L (wkA L).1 (wkA L).2) (L ((wkA L).2 - 1)))
  else (0, 0, 0)
theorem work_13 {sg sx : Nat → Int32} {a b c d e : Nat} : X7_work_p76_13 sg sx a b c d e = (wkD (X7_laySix_c101 sg sx a b c d e)).1 := by
  show zlet (wkA (X7_laySix_c101 sg sx a b c d e)) _ = _
  simp only [zlet, wkD, wkS]
  show (if nI (wkA _).1 ≤ nI 1 then (zlet (wkT _ _ _) _) else _) = _
  simp only [zlet]
  generalize X7_laySix_c101 sg sx a b c d e = L
  generalize wkT L (wkA L).1 (wkA L).2 = q
  generalize wkA L = r
  repeat' split
  all_goals first | rfl | contradiction
theorem work_14 {cmT : Nat} {sg sx : Nat → Int32} {a b c d e : Nat} : X7_work_p76_14 cmT sg sx a b c d e = if (wkD (X7_laySix_c101 sg sx a b c d e)).1 = 2 then X7_tells_p76_14 (wkD (X7_laySix_c101 sg sx a b c d e)).2.1 a b c d e else cmT := by
  show zlet (wkA (X7_laySix_c101 sg sx a b c d e)) _ = _
  simp only [zlet, wkD, wkS]
  show (if nI (wkA _).1 ≤ nI 1 then (zlet (wkT _ _ _) _) else _) = _
  simp only [zlet]
  generalize X7_laySix_c101 sg sx a b c d e = L
  generalize wkT L (wkA L).1 (wkA L).2 = q
  generalize wkA L = r
  by_cases c1 : nI r.1 ≤ nI 1 <;> by_cases c2 : nI r.1 = 0 <;> by_cases c3 : nI r.2 - nI r.2 / nI 2 * nI 2 = 0 <;> by_cases c4 : q.1 ≤ 0 <;> by_cases c5 : q.2 ≤ 0 <;> simp only [if_pos, if_neg, c1, c2, c3, c4, c5, not_false_eq_true] <;> repeat' split
  all_goals first | rfl | contradiction | simp_all
theorem work_15 {cmS : Int32} {sg sx : Nat → Int32} {a b c d e : Nat} : X7_work_p76_15 cmS sg sx a b c d e = if (wkD (X7_laySix_c101 sg sx a b c d e)).1 = 2 then X7_tells_p76_15 (wkD (X7_laySix_c101 sg sx a b c d e)).2.1 (wkD (X7_laySix_c101 sg sx a b c d e)).2.2 a b c d e else cmS := by
  show zlet (wkA (X7_laySix_c101 sg sx a b c d e)) _ = _
  simp only [zlet, wkD, wkS]
  show (if nI (wkA _).1 ≤ nI 1 then (zlet (wkT _ _ _) _) else _) = _
  simp only [zlet]
  generalize X7_laySix_c101 sg sx a b c d e = L
  generalize wkT L (wkA L).1 (wkA L).2 = q
  generalize wkA L = r
  by_cases c1 : nI r.1 ≤ nI 1 <;> by_cases c2 : nI r.1 = 0 <;> by_cases c3 : nI r.2 - nI r.2 / nI 2 * nI 2 = 0 <;> by_cases c4 : q.1 ≤ 0 <;> by_cases c5 : q.2 ≤ 0 <;> simp only [if_pos, if_neg, c1, c2, c3, c4, c5, not_false_eq_true] <;> repeat' split
  all_goals first | rfl | contradiction | simp_all
