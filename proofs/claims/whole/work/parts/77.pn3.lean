/-! ===== renamings in general: the r-th in both, and its order ===== -/
theorem zfoldX_ext {α : Type} {B B' : Nat → α → Option α} {F F' : Nat → α → α} {n : Nat} (hB : ∀ i a, i < n → B i a = B' i a) (h : ∀ i a, i < n → F i a = F' i a) : ∀ (d i : Nat) (a : α), i + d ≤ n → zfoldX B F d i a = zfoldX B' F' d i a := by
  intro d
  induction d with
  | zero => intro i a _; rfl
  | succ d ih =>
    intro i a hi
    simp only [zfoldX]
    rw [hB i a (by omega), h i a (by omega), ih (i + 1) _ (by omega)]
def same7 (f g : Nat → Int32) : Prop := ∀ k, k < 7 → f k = g k
theorem exch7 {f g : Nat → Int32} {i j : Nat} (h : same7 f g) (hi : i < 7) (hj : j < 7) : same7 (X1_exchange_c72 f i j) (X1_exchange_c72 g i j) := by
  intro k hk
  unfold X1_exchange_c72
  simp only [upd]
  rw [h i hi, h j hj, h k hk]
theorem next_ext {f g : Nat → Int32} {n : Nat} (h2 : 2 ≤ n) (hn : n ≤ 7) (h : same7 f g) : same7 (X1_nextRenaming_c72 f n) (X1_nextRenaming_c72 g n) := by
  have e4 : zfoldX (X1_nextRenaming_L4_B f n) (X1_nextRenaming_L4_F f n) (n - 1) 0 () = zfoldX (X1_nextRenaming_L4_B g n) (X1_nextRenaming_L4_F g n) (n - 1) 0 () :=
    zfoldX_ext (n := n - 1) (fun i a hi => by unfold X1_nextRenaming_L4_B; rw [h _ (by omega), h _ (by omega)]) (fun i a hi => by unfold X1_nextRenaming_L4_F; rw [h _ (by omega), h _ (by omega)]) _ _ _ (by omega)
  have hst := zfoldX_stop (B := X1_nextRenaming_L4_B g n) (F := X1_nextRenaming_L4_F g n) (n - 1) 0 ()
  intro k hk
  unfold X1_nextRenaming_c72
  simp only [zlet]
  rw [e4]
  generalize (zfoldX (X1_nextRenaming_L4_B g n) (X1_nextRenaming_L4_F g n) (n - 1) 0 ()).1 = ic at hst ⊢
  by_cases c : 0 ≤ nI (n - 1 - ic) - nI 1
  · rw [if_pos c, if_pos c]
    have hic : 1 ≤ n - 1 - ic := zm1_ge9 c
    have e40 : zfoldX (X1_nextRenaming_L40_B f n ic) (X1_nextRenaming_L40_F f n ic) (ic + 1) 0 () = zfoldX (X1_nextRenaming_L40_B g n ic) (X1_nextRenaming_L40_F g n ic) (ic + 1) 0 () :=
      zfoldX_ext (n := ic + 1) (fun i a hi => by unfold X1_nextRenaming_L40_B; rw [h _ (by omega), h _ (by omega)]) (fun i a hi => by unfold X1_nextRenaming_L40_F; rw [h _ (by omega), h _ (by omega)]) _ _ _ (by omega)
    have h40 := zfoldX_stop (B := X1_nextRenaming_L40_B g n ic) (F := X1_nextRenaming_L40_F g n ic) (ic + 1) 0 ()
    rw [e40]
    generalize (zfoldX (X1_nextRenaming_L40_B g n ic) (X1_nextRenaming_L40_F g n ic) (ic + 1) 0 ()).1 = jc at h40 ⊢
    have key : ∀ (d i : Nat) (f g : Nat → Int32), i + d ≤ (ic + 1) / 2 → same7 f g → same7 (zfold (X1_nextRenaming_L82_F n ic) d i f) (zfold (X1_nextRenaming_L82_F n ic) d i g) := by
      intro d
      induction d with
      | zero => intro i f g _ q; exact q
      | succ d ih =>
        intro i f g hi q
        exact ih (i + 1) _ _ (by omega) (by unfold X1_nextRenaming_L82_F; exact exch7 q (by omega) (by omega))
    exact key _ 0 _ _ (by omega) (exch7 h (by omega) (by omega)) k hk
  · rw [if_neg c, if_neg c]
    exact h k hk
theorem unr_lt {N : Nat} : ∀ (m : Nat) (l : List Nat) (lf : Nat), m ≤ 7 → l.length = m → lf < X7_factorial_n m → (∀ x, x ∈ l → x < N) → ∀ x, x ∈ unr m l lf → x < N := by
  intro m
  induction m with
  | zero => intro l lf _ _ _ _ x hx; exact absurd hx List.not_mem_nil
  | succ m ih =>
    intro l lf hm hl hlf h x hx
    have hf := rfac_b m (by omega)
    have hs := rfac_s m (by omega)
    have hat : lf / X7_factorial_n m < m + 1 := by
      rw [hs, Nat.mul_comm] at hlf
      exact Nat.div_lt_of_lt_mul hlf
    rcases List.mem_cons.mp hx with e | e
    · rw [e, List.getD_eq_getElem?_getD, List.getElem?_eq_getElem (by omega)]
      exact h _ (List.getElem_mem _)
    · exact ih _ _ (by omega) (by rw [List.length_eraseIdx_of_lt (by omega)]; omega) (Nat.mod_lt _ hf.1) (fun y hy => h y (List.mem_of_mem_eraseIdx hy)) x e
theorem dg_pk : ∀ (l : List Nat) (k : Nat), (∀ x, x ∈ l → x < 8) → k < l.length → dg (pk8 l) k = l.getD k 0 := by
  intro l
  induction l with
  | nil => intro k _ hk; exact absurd hk (Nat.not_lt_zero k)
  | cons x l ih =>
    intro k h hk
    have hx : x < 8 := h x List.mem_cons_self
    show (x + 8 * pk8 l) / 8 ^ k % 8 = _
    cases k with
    | zero =>
      show (x + 8 * pk8 l) / 1 % 8 = x
      omega
    | succ k =>
      rw [Nat.pow_succ, Nat.mul_comm (8 ^ k) 8, ← Nat.div_div_eq_div_mul, show (x + 8 * pk8 l) / 8 = pk8 l by omega]
      exact ih k (fun y hy => h y (List.mem_cons_of_mem _ hy)) (by simpa using hk)
/-- the r-th renaming of n points, on all seven -/
def rn (n r k : Nat) : Nat := if k < n then (unr n (List.range n) r).getD k 0 else k
theorem rn_dg {n r k : Nat} (hn : n ≤ 7) (hr : r < X7_factorial_n n) : (if k < n then dg (nmP n r) k else k) = rn n r k := by
  unfold rn
  by_cases c : k < n
  · rw [if_pos c, if_pos c]
    exact dg_pk _ _ (fun x hx => by have := unr_lt (N := n) n (List.range n) r hn List.length_range hr (fun y hy => List.mem_range.mp hy) x hx; omega) (by rw [unr_len]; exact c)
  · rw [if_neg c, if_neg c]
theorem rn_lt {n r k : Nat} (hn : n ≤ 7) (hr : r < X7_factorial_n n) (hk : k < n) : rn n r k < n := by
  unfold rn
  rw [if_pos hk, List.getD_eq_getElem?_getD, List.getElem?_eq_getElem (by rw [unr_len]; exact hk)]
  exact unr_lt (N := n) n (List.range n) r hn List.length_range hr (fun y hy => List.mem_range.mp hy) _ (List.getElem_mem _)
theorem fac_v : X7_factorial_n 2 = 2 ∧ X7_factorial_n 3 = 6 ∧ X7_factorial_n 4 = 24 ∧ X7_factorial_n 5 = 120 ∧ X7_factorial_n 6 = 720 ∧ X7_factorial_n 7 = 5040 := by decide +kernel
theorem next_rn {n r : Nat} (h2 : 2 ≤ n) (hn : n ≤ 7) (hr : r + 1 < X7_factorial_n n) {f : Nat → Int32} (h : ∀ k, k < 7 → f k = nI (rn n r k)) : ∀ k, k < 7 → X1_nextRenaming_c72 f n k = nI (rn n (r + 1) k) := by
  intro k hk
  have q : nxOk n r = true := by
    obtain ⟨f2, f3, f4, f5, f6, f7⟩ := fac_v
    rcases (show n = 2 ∨ n = 3 ∨ n = 4 ∨ n = 5 ∨ n = 6 ∨ n = 7 by omega) with rfl | rfl | rfl | rfl | rfl | rfl
    · exact alB_at nx_2 r (by omega)
    · exact alB_at nx_3 r (by omega)
    · exact alB_at nx_4 r (by omega)
    · exact alB_at nx_5 r (by omega)
    · exact alB_at nx_6 r (by omega)
    · exact nx_7 r (by omega)
  unfold nxOk at q
  rw [frc_eq, frc_eq] at q
  have q9 := alB_at q k hk
  rw [beq_iff_eq] at q9
  rw [rn_dg hn (by omega)] at q9
  rw [← q9]
  refine next_ext h2 hn (fun j hj => ?_) k hk
  rw [h j hj, rn_dg hn (by omega)]
/-- the t-th power of the r-th renaming -/
def pw (n r : Nat) : Nat → Nat → Nat
  | 0, j => j
  | t + 1, j => rn n r (pw n r t j)
theorem pw_lt {n r : Nat} (hn : n ≤ 7) (hr : r < X7_factorial_n n) : ∀ t j, j < n → pw n r t j < n := by
  intro t
  induction t with
  | zero => intro j hj; exact hj
  | succ t ih => intro j hj; exact rn_lt hn hr (ih j hj)
def pwd (m : Nat) : Nat → Nat → Nat
  | 0, j => j
  | t + 1, j => dg m (pwd m t j)
def orOk (n r : Nat) : Bool := frc (nmP n r) (fun m => !(alB (fun t => !(alB (fun j => pwd m (t + 1) j == j) n)) 12))
set_option maxRecDepth 100000 in
theorem or_2 : alB (orOk 2) 2 = true := by decide +kernel
set_option maxRecDepth 100000 in
theorem or_3 : alB (orOk 3) 6 = true := by decide +kernel
set_option maxRecDepth 100000 in
theorem or_4 : alB (orOk 4) 24 = true := by decide +kernel
set_option maxRecDepth 100000 in
theorem or_5 : alB (orOk 5) 120 = true := by decide +kernel
set_option maxRecDepth 100000 in
theorem or_6 : alB (orOk 6) 720 = true := by decide +kernel
set_option maxRecDepth 100000 in
theorem or_7_0 : alB (fun k => orOk 7 (0 + k)) 360 = true := by decide +kernel
set_option maxRecDepth 100000 in
theorem or_7_1 : alB (fun k => orOk 7 (360 + k)) 360 = true := by decide +kernel
set_option maxRecDepth 100000 in
theorem or_7_2 : alB (fun k => orOk 7 (720 + k)) 360 = true := by decide +kernel
set_option maxRecDepth 100000 in
theorem or_7_3 : alB (fun k => orOk 7 (1080 + k)) 360 = true := by decide +kernel
set_option maxRecDepth 100000 in
theorem or_7_4 : alB (fun k => orOk 7 (1440 + k)) 360 = true := by decide +kernel
set_option maxRecDepth 100000 in
theorem or_7_5 : alB (fun k => orOk 7 (1800 + k)) 360 = true := by decide +kernel
set_option maxRecDepth 100000 in
theorem or_7_6 : alB (fun k => orOk 7 (2160 + k)) 360 = true := by decide +kernel
set_option maxRecDepth 100000 in
theorem or_7_7 : alB (fun k => orOk 7 (2520 + k)) 360 = true := by decide +kernel
set_option maxRecDepth 100000 in
theorem or_7_8 : alB (fun k => orOk 7 (2880 + k)) 360 = true := by decide +kernel
set_option maxRecDepth 100000 in
theorem or_7_9 : alB (fun k => orOk 7 (3240 + k)) 360 = true := by decide +kernel
set_option maxRecDepth 100000 in
theorem or_7_10 : alB (fun k => orOk 7 (3600 + k)) 360 = true := by decide +kernel
set_option maxRecDepth 100000 in
theorem or_7_11 : alB (fun k => orOk 7 (3960 + k)) 360 = true := by decide +kernel
set_option maxRecDepth 100000 in
theorem or_7_12 : alB (fun k => orOk 7 (4320 + k)) 360 = true := by decide +kernel
set_option maxRecDepth 100000 in
theorem or_7_13 : alB (fun k => orOk 7 (4680 + k)) 360 = true := by decide +kernel
theorem or_7 : ∀ r, r < 5040 → orOk 7 r = true := by
  intro r hr
  rcases (show (0 ≤ r ∧ r < 360) ∨ (360 ≤ r ∧ r < 720) ∨ (720 ≤ r ∧ r < 1080) ∨ (1080 ≤ r ∧ r < 1440) ∨ (1440 ≤ r ∧ r < 1800) ∨ (1800 ≤ r ∧ r < 2160) ∨ (2160 ≤ r ∧ r < 2520) ∨ (2520 ≤ r ∧ r < 2880) ∨ (2880 ≤ r ∧ r < 3240) ∨ (3240 ≤ r ∧ r < 3600) ∨ (3600 ≤ r ∧ r < 3960) ∨ (3960 ≤ r ∧ r < 4320) ∨ (4320 ≤ r ∧ r < 4680) ∨ (4680 ≤ r ∧ r < 5040) by omega) with q | q | q | q | q | q | q | q | q | q | q | q | q | q
  · have e := alB_at or_7_0 (r - 0) (by omega)
    rw [show 0 + (r - 0) = r by omega] at e
    exact e
  · have e := alB_at or_7_1 (r - 360) (by omega)
    rw [show 360 + (r - 360) = r by omega] at e
    exact e
  · have e := alB_at or_7_2 (r - 720) (by omega)
    rw [show 720 + (r - 720) = r by omega] at e
    exact e
  · have e := alB_at or_7_3 (r - 1080) (by omega)
    rw [show 1080 + (r - 1080) = r by omega] at e
    exact e
  · have e := alB_at or_7_4 (r - 1440) (by omega)
    rw [show 1440 + (r - 1440) = r by omega] at e
    exact e
  · have e := alB_at or_7_5 (r - 1800) (by omega)
    rw [show 1800 + (r - 1800) = r by omega] at e
    exact e
  · have e := alB_at or_7_6 (r - 2160) (by omega)
    rw [show 2160 + (r - 2160) = r by omega] at e
    exact e
  · have e := alB_at or_7_7 (r - 2520) (by omega)
    rw [show 2520 + (r - 2520) = r by omega] at e
    exact e
  · have e := alB_at or_7_8 (r - 2880) (by omega)
    rw [show 2880 + (r - 2880) = r by omega] at e
    exact e
  · have e := alB_at or_7_9 (r - 3240) (by omega)
    rw [show 3240 + (r - 3240) = r by omega] at e
    exact e
  · have e := alB_at or_7_10 (r - 3600) (by omega)
    rw [show 3600 + (r - 3600) = r by omega] at e
    exact e
  · have e := alB_at or_7_11 (r - 3960) (by omega)
    rw [show 3960 + (r - 3960) = r by omega] at e
    exact e
  · have e := alB_at or_7_12 (r - 4320) (by omega)
    rw [show 4320 + (r - 4320) = r by omega] at e
    exact e
  · have e := alB_at or_7_13 (r - 4680) (by omega)
    rw [show 4680 + (r - 4680) = r by omega] at e
    exact e
theorem alB_no {f : Nat → Bool} : ∀ {n : Nat}, alB f n = false → ∃ k, k < n ∧ f k = false
  | 0, h => by cases h
  | n + 1, h => by
    cases hf : f n with
    | false => exact ⟨n, by omega, hf⟩
    | true =>
      have h2 : alB f n = false := by
        have : (f n && alB f n) = false := h
        rw [hf] at this
        exact this
      obtain ⟨k, h3, h4⟩ := alB_no h2
      exact ⟨k, by omega, h4⟩
theorem pw_dg {n r : Nat} (hn : n ≤ 7) (hr : r < X7_factorial_n n) : ∀ t j, j < n → pwd (nmP n r) t j = pw n r t j := by
  intro t
  induction t with
  | zero => intro j hj; rfl
  | succ t ih =>
    intro j hj
    show dg (nmP n r) (pwd (nmP n r) t j) = rn n r (pw n r t j)
    rw [ih j hj, ← rn_dg hn hr, if_pos (pw_lt hn hr t j hj)]
theorem has_order {n r : Nat} (h2 : 2 ≤ n) (hn : n ≤ 7) (hr : r < X7_factorial_n n) : ∃ t, 1 ≤ t ∧ t ≤ 12 ∧ ∀ j, j < n → pw n r t j = j := by
  have q : orOk n r = true := by
    obtain ⟨f2, f3, f4, f5, f6, f7⟩ := fac_v
    rcases (show n = 2 ∨ n = 3 ∨ n = 4 ∨ n = 5 ∨ n = 6 ∨ n = 7 by omega) with rfl | rfl | rfl | rfl | rfl | rfl
    · exact alB_at or_2 r (by omega)
    · exact alB_at or_3 r (by omega)
    · exact alB_at or_4 r (by omega)
    · exact alB_at or_5 r (by omega)
    · exact alB_at or_6 r (by omega)
    · exact or_7 r (by omega)
  unfold orOk at q
  rw [frc_eq] at q
  have q2 : alB (fun t => !(alB (fun j => pwd (nmP n r) (t + 1) j == j) n)) 12 = false := by
    simpa using q
  obtain ⟨t, h3, h4⟩ := alB_no q2
  have h5 : alB (fun j => pwd (nmP n r) (t + 1) j == j) n = true := by simpa using h4
  refine ⟨t + 1, by omega, by omega, fun j hj => ?_⟩
  have := alB_at h5 j hj
  rw [beq_iff_eq, pw_dg hn hr _ j hj] at this
  exact this
