/-! ===== the pure part: one relation of five points: the class's judge against the reference's work ===== -/
theorem zfold_ext {α : Type} {F F' : Nat → α → α} {n : Nat} (h : ∀ i a, i < n → F i a = F' i a) : ∀ (d i : Nat) (a : α), i + d ≤ n → zfold F d i a = zfold F' d i a := by
  intro d
  induction d with
  | zero => intro i a _; rfl
  | succ d ih =>
    intro i a hi
    show zfold F d (i + 1) (F i a) = zfold F' d (i + 1) (F' i a)
    rw [h i a (by omega)]
    exact ih (i + 1) _ (by omega)
theorem zfoldB_ext {α β : Type} {B B' : Nat → α → Option β} {F F' : Nat → α → α} {n : Nat} (hB : ∀ i a, i < n → B i a = B' i a) (h : ∀ i a, i < n → F i a = F' i a) : ∀ (d i : Nat) (a : α), i + d ≤ n → zfoldB B F d i a = zfoldB B' F' d i a := by
  intro d
  induction d with
  | zero => intro i a _; rfl
  | succ d ih =>
    intro i a hi
    simp only [zfoldB]
    rw [hB i a (by omega), h i a (by omega), ih (i + 1) _ (by omega)]
/-- the reference's look at six signs: how many are open, and which -/
def wkA (L : Nat → Int32) : Nat × Nat := zfold (fun k a9 => if L k = nI 9 then (a9.1 + 1, k) else (a9.1, a9.2)) 6 0 (0, 0)
def wkT (L : Nat → Int32) (o t : Nat) : Int32 × Int32 := zfold (fun j a9 => if (nI o) = 0 then (if (X7_term_v L j) ≤ 0 then (if 0 ≤ (X7_term_v L j) then (a9.1 + (nI 0), a9.2 + (nI 0)) else (a9.1 + (nI 0), a9.2 + (nI 1))) else (if 0 ≤ (X7_term_v L j) then (a9.1 + (nI 1), a9.2 + (nI 0)) else (a9.1 + (nI 1), a9.2 + (nI 1)))) else (if ((nI t) / (nI 2)) = (nI j) then (a9.1, a9.2) else (if (X7_term_v L j) ≤ 0 then (if 0 ≤ (X7_term_v L j) then (a9.1 + (nI 0), a9.2 + (nI 0)) else (a9.1 + (nI 0), a9.2 + (nI 1))) else (if 0 ≤ (X7_term_v L j) then (a9.1 + (nI 1), a9.2 + (nI 0)) else (a9.1 + (nI 1), a9.2 + (nI 1)))))) 3 0 (nI 0, nI 0)
/-- what comes of it: 0 nothing, 1 a contradiction, 2 a sign: which of the six, and its value -/
def wkSK {α : Type} (f : Nat → Nat → Int32 → α) (t : Nat) (q : Int32 × Int32) (p : Int32) : α :=
  if p = 0 then f 0 0 0 else if q.1 ≤ 0 then (if q.2 ≤ 0 then (if (nI t) / (nI 2) = nI 1 then f 2 t (nI 0 * p * (-1)) else f 2 t (nI 0 * p * nI 1)) else (if (nI t) / (nI 2) = nI 1 then f 2 t (nI 1 * p * (-1)) else f 2 t (nI 1 * p * nI 1))) else if q.2 ≤ 0 then (if (nI t) / (nI 2) = nI 1 then f 2 t ((-1) * p * (-1)) else f 2 t ((-1) * p * nI 1)) else f 0 0 0
def wkK {α : Type} (f : Nat → Nat → Int32 → α) (L : Nat → Int32) (r : Nat × Nat) (q : Int32 × Int32) : α :=
  if nI r.1 ≤ nI 1 then
    (if nI r.1 = 0 then (if q.1 = 0 then (if q.2 = 0 then f 0 0 0 else f 1 0 0) else (if q.2 = 0 then f 1 0 0 else f 0 0 0))
     else if (nI r.2) - (nI r.2) / (nI 2) * (nI 2) = 0 then wkSK f r.2 q (L (r.2 + 1)) else wkSK f r.2 q (L (r.2 - 1)))
  else f 0 0 0
theorem wkSK_map {α β : Type} (f : Nat → Nat → Int32 → α) (g : α → β) (t : Nat) (q : Int32 × Int32) (p : Int32) : wkSK (fun a b c => g (f a b c)) t q p = g (wkSK f t q p) := by
  unfold wkSK
  repeat' split
  all_goals rfl
theorem wkK_map {α β : Type} (f : Nat → Nat → Int32 → α) (g : α → β) (L : Nat → Int32) (r : Nat × Nat) (q : Int32 × Int32) : wkK (fun a b c => g (f a b c)) L r q = g (wkK f L r q) := by
  unfold wkK
  simp only [wkSK_map f g]
  repeat' split
  all_goals rfl
def wkD (L : Nat → Int32) : Nat × Nat × Int32 := wkK (fun a b c => (a, b, c)) L (wkA L) (wkT L (wkA L).1 (wkA L).2)
theorem wkD_map {β : Type} (g : Nat × Nat × Int32 → β) (L : Nat → Int32) : wkK (fun a b c => g (a, b, c)) L (wkA L) (wkT L (wkA L).1 (wkA L).2) = g (wkD L) := wkK_map (fun a b c => (a, b, c)) g L _ _
theorem work_13 {sg sx : Nat → Int32} {a b c d e : Nat} : X7_work_p76_13 sg sx a b c d e = (wkD (X7_laySix_c101 sg sx a b c d e)).1 := by
  have eA : zfold (X7_work_L25_F sg sx a b c d e) 6 0 (0, 0) = wkA (X7_laySix_c101 sg sx a b c d e) := rfl
  have eT : ∀ o t, zfold (X7_work_L73_F sg sx a b c d e o t) 3 0 (nI 0, nI 0) = wkT (X7_laySix_c101 sg sx a b c d e) o t := fun _ _ => rfl
  rw [← wkD_map (fun z => z.1)]
  unfold X7_work_p76_13
  simp only [zlet, eA, eT, wkK, wkSK]
theorem work_14 {cmT : Nat} {sg sx : Nat → Int32} {a b c d e : Nat} : X7_work_p76_14 cmT sg sx a b c d e = (fun z : Nat × Nat × Int32 => if z.1 = 2 then X7_tells_p76_14 z.2.1 a b c d e else cmT) (wkD (X7_laySix_c101 sg sx a b c d e)) := by
  have eA : zfold (X7_work_L25_F sg sx a b c d e) 6 0 (0, 0) = wkA (X7_laySix_c101 sg sx a b c d e) := rfl
  have eT : ∀ o t, zfold (X7_work_L73_F sg sx a b c d e o t) 3 0 (nI 0, nI 0) = wkT (X7_laySix_c101 sg sx a b c d e) o t := fun _ _ => rfl
  refine Eq.trans ?_ (wkD_map (fun z : Nat × Nat × Int32 => if z.1 = 2 then X7_tells_p76_14 z.2.1 a b c d e else cmT) _)
  unfold X7_work_p76_14
  simp only [zlet, eA, eT, wkK, wkSK, if_true, show ¬ (0 : Nat) = 2 from by decide, show ¬ (1 : Nat) = 2 from by decide, if_false]
theorem work_15 {cmS : Int32} {sg sx : Nat → Int32} {a b c d e : Nat} : X7_work_p76_15 cmS sg sx a b c d e = (fun z : Nat × Nat × Int32 => if z.1 = 2 then X7_tells_p76_15 z.2.1 z.2.2 a b c d e else cmS) (wkD (X7_laySix_c101 sg sx a b c d e)) := by
  have eA : zfold (X7_work_L25_F sg sx a b c d e) 6 0 (0, 0) = wkA (X7_laySix_c101 sg sx a b c d e) := rfl
  have eT : ∀ o t, zfold (X7_work_L73_F sg sx a b c d e o t) 3 0 (nI 0, nI 0) = wkT (X7_laySix_c101 sg sx a b c d e) o t := fun _ _ => rfl
  refine Eq.trans ?_ (wkD_map (fun z : Nat × Nat × Int32 => if z.1 = 2 then X7_tells_p76_15 z.2.1 z.2.2 a b c d e else cmS) _)
  unfold X7_work_p76_15
  simp only [zlet, eA, eT, wkK, wkSK, if_true, show ¬ (0 : Nat) = 2 from by decide, show ¬ (1 : Nat) = 2 from by decide, if_false]
