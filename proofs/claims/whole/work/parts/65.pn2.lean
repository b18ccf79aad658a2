/-! ===== all renamings of at most seven points, one by one: each has an order of at most 12; the class's next one is the reference's next ===== -/
def frc (m : Nat) (f : Nat → Bool) : Bool := match m with
  | 0 => f 0
  | k + 1 => f (k + 1)
theorem frc_eq (m : Nat) (f : Nat → Bool) : frc m f = f m := by
  cases m <;> rfl
def alB (f : Nat → Bool) : Nat → Bool
  | 0 => true
  | n + 1 => f n && alB f n
theorem alB_at {f : Nat → Bool} : ∀ {n : Nat}, alB f n = true → ∀ k, k < n → f k = true
  | 0, _, k, hk => absurd hk (Nat.not_lt_zero k)
  | n + 1, h, k, hk => by
    have h2 : f n = true ∧ alB f n = true := by simpa [alB] using h
    rcases Nat.lt_succ_iff_lt_or_eq.mp hk with q | q
    · exact alB_at h2.2 k q
    · rw [q]; exact h2.1
/-- names as one number, eight by eight -/
def pk8 (l : List Nat) : Nat := l.foldr (fun x a => x + 8 * a) 0
def dg (m k : Nat) : Nat := m / 8 ^ k % 8
def nmP (n r : Nat) : Nat := pk8 (unr n (List.range n) r)
def nxOk (n r : Nat) : Bool := frc (nmP n r) (fun m => frc (nmP n (r + 1)) (fun m' => alB (fun k => X1_nextRenaming_c72 (fun k => nI (if k < n then dg m k else k)) n k == nI (if k < n then dg m' k else k)) 7))
set_option maxRecDepth 100000 in
theorem nx_2 : alB (nxOk 2) 1 = true := by decide +kernel
set_option maxRecDepth 100000 in
theorem nx_3 : alB (nxOk 3) 5 = true := by decide +kernel
set_option maxRecDepth 100000 in
theorem nx_4 : alB (nxOk 4) 23 = true := by decide +kernel
set_option maxRecDepth 100000 in
theorem nx_5 : alB (nxOk 5) 119 = true := by decide +kernel
set_option maxRecDepth 100000 in
theorem nx_6 : alB (nxOk 6) 719 = true := by decide +kernel
set_option maxRecDepth 100000 in
theorem nx_7_0 : alB (fun k => nxOk 7 (0 + k)) 360 = true := by decide +kernel
set_option maxRecDepth 100000 in
theorem nx_7_1 : alB (fun k => nxOk 7 (360 + k)) 360 = true := by decide +kernel
set_option maxRecDepth 100000 in
theorem nx_7_2 : alB (fun k => nxOk 7 (720 + k)) 360 = true := by decide +kernel
set_option maxRecDepth 100000 in
theorem nx_7_3 : alB (fun k => nxOk 7 (1080 + k)) 360 = true := by decide +kernel
set_option maxRecDepth 100000 in
theorem nx_7_4 : alB (fun k => nxOk 7 (1440 + k)) 360 = true := by decide +kernel
set_option maxRecDepth 100000 in
theorem nx_7_5 : alB (fun k => nxOk 7 (1800 + k)) 360 = true := by decide +kernel
set_option maxRecDepth 100000 in
theorem nx_7_6 : alB (fun k => nxOk 7 (2160 + k)) 360 = true := by decide +kernel
set_option maxRecDepth 100000 in
theorem nx_7_7 : alB (fun k => nxOk 7 (2520 + k)) 360 = true := by decide +kernel
set_option maxRecDepth 100000 in
theorem nx_7_8 : alB (fun k => nxOk 7 (2880 + k)) 360 = true := by decide +kernel
set_option maxRecDepth 100000 in
theorem nx_7_9 : alB (fun k => nxOk 7 (3240 + k)) 360 = true := by decide +kernel
set_option maxRecDepth 100000 in
theorem nx_7_10 : alB (fun k => nxOk 7 (3600 + k)) 360 = true := by decide +kernel
set_option maxRecDepth 100000 in
theorem nx_7_11 : alB (fun k => nxOk 7 (3960 + k)) 360 = true := by decide +kernel
set_option maxRecDepth 100000 in
theorem nx_7_12 : alB (fun k => nxOk 7 (4320 + k)) 360 = true := by decide +kernel
set_option maxRecDepth 100000 in
theorem nx_7_13 : alB (fun k => nxOk 7 (4680 + k)) 359 = true := by decide +kernel
theorem nx_7 : ∀ r, r < 5039 → nxOk 7 r = true := by
  intro r hr
  rcases (show (0 ≤ r ∧ r < 360) ∨ (360 ≤ r ∧ r < 720) ∨ (720 ≤ r ∧ r < 1080) ∨ (1080 ≤ r ∧ r < 1440) ∨ (1440 ≤ r ∧ r < 1800) ∨ (1800 ≤ r ∧ r < 2160) ∨ (2160 ≤ r ∧ r < 2520) ∨ (2520 ≤ r ∧ r < 2880) ∨ (2880 ≤ r ∧ r < 3240) ∨ (3240 ≤ r ∧ r < 3600) ∨ (3600 ≤ r ∧ r < 3960) ∨ (3960 ≤ r ∧ r < 4320) ∨ (4320 ≤ r ∧ r < 4680) ∨ (4680 ≤ r ∧ r < 5039) by omega) with q | q | q | q | q | q | q | q | q | q | q | q | q | q
  · have e := alB_at nx_7_0 (r - 0) (by omega)
    rw [show 0 + (r - 0) = r by omega] at e
    exact e
  · have e := alB_at nx_7_1 (r - 360) (by omega)
    rw [show 360 + (r - 360) = r by omega] at e
    exact e
  · have e := alB_at nx_7_2 (r - 720) (by omega)
    rw [show 720 + (r - 720) = r by omega] at e
    exact e
  · have e := alB_at nx_7_3 (r - 1080) (by omega)
    rw [show 1080 + (r - 1080) = r by omega] at e
    exact e
  · have e := alB_at nx_7_4 (r - 1440) (by omega)
    rw [show 1440 + (r - 1440) = r by omega] at e
    exact e
  · have e := alB_at nx_7_5 (r - 1800) (by omega)
    rw [show 1800 + (r - 1800) = r by omega] at e
    exact e
  · have e := alB_at nx_7_6 (r - 2160) (by omega)
    rw [show 2160 + (r - 2160) = r by omega] at e
    exact e
  · have e := alB_at nx_7_7 (r - 2520) (by omega)
    rw [show 2520 + (r - 2520) = r by omega] at e
    exact e
  · have e := alB_at nx_7_8 (r - 2880) (by omega)
    rw [show 2880 + (r - 2880) = r by omega] at e
    exact e
  · have e := alB_at nx_7_9 (r - 3240) (by omega)
    rw [show 3240 + (r - 3240) = r by omega] at e
    exact e
  · have e := alB_at nx_7_10 (r - 3600) (by omega)
    rw [show 3600 + (r - 3600) = r by omega] at e
    exact e
  · have e := alB_at nx_7_11 (r - 3960) (by omega)
    rw [show 3960 + (r - 3960) = r by omega] at e
    exact e
  · have e := alB_at nx_7_12 (r - 4320) (by omega)
    rw [show 4320 + (r - 4320) = r by omega] at e
    exact e
  · have e := alB_at nx_7_13 (r - 4680) (by omega)
    rw [show 4680 + (r - 4680) = r by omega] at e
    exact e
