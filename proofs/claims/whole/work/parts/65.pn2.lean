/-! ===== all renamings of at most seven points, one by one: each has an order of at most 12; the class's next one is the reference's next ===== -/
def frc (m : Nat) (f : Nat → Bool) : Bool := match m with
  | 0 => f 0
  | k + 1 => f (k + 1)
theorem frc_eq (m : Nat) (f : Nat → Bool) : frc m f = f m := by
  cases m <;> rfl
def alB (f : Nat → Bool) : Nat → Bool
  | 0 => true
  | n + 1 => f n && alB f n
theorem alB_at {f : Nat → Bool} : ∀ {n : Nat}, alB f n = true → ∀ k, k < n → f k = true
  | 0, _, k, hk => absurd hk (Nat.not_lt_zero k)
  | n + 1, h, k, hk => by
    have h2 : f n = true ∧ alB f n = true := by simpa [alB] using h
    rcases Nat.lt_succ_iff_lt_or_eq.mp hk with q | q
    · exact alB_at h2.2 k q
    · rw [q]; exact h2.1
/-- names as one number, eight by eight -/
def pk8 (l : List Nat) : Nat := l.foldr (fun x a => x + 8 * a) 0
def dg (m k : Nat) : Nat := m / 8 ^ k % 8
def nmP (n r : Nat) : Nat := pk8 (unr n (List.range n) r)
def nxOk (n r : Nat) : Bool := frc (nmP n r) (fun m => frc (nmP n (r + 1)) (fun m' => alB (fun k => X1_nextRenaming_c72 (fun k => nI (if k < n then dg m k else k)) n k == nI (if k < n then dg m' k else k)) 7))
set_option maxRecDepth 100000 in
theorem nx_2 : alB (nxOk 2) 1 = true := by decide +kernel
set_option maxRecDepth 100000 in
theorem nx_3 : alB (nxOk 3) 5 = true := by decide +kernel
set_option maxRecDepth 100000 in
theorem nx_4 : alB (nxOk 4) 23 = true := by decide +kernel
set_option maxRecDepth 100000 in
theorem nx_5 : alB (nxOk 5) 119 = true := by decide +kernel
set_option maxRecDepth 100000 in
theorem nx_6 : alB (nxOk 6) 719 = true := by decide +kernel
set_option maxRecDepth 100000 in
theorem nx_7 : alB (nxOk 7) 5039 = true := by decide +kernel
