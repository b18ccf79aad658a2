theorem pig : ∀ (n p : Nat) (f : Nat → Nat), (∀ j, j < p → f j < n) → (∀ i j, i < p → j < p → f i = f j → i = j) → p ≤ n := by
  intro n
  induction n with
  | zero =>
    intro p f h1 h2
    rcases Nat.eq_zero_or_pos p with h | h
    · omega
    · exact absurd (h1 0 h) (Nat.not_lt_zero _)
  | succ n ih =>
    intro p f h1 h2
    by_cases hx : ∃ j, j < p ∧ f j = n
    · obtain ⟨k, hk, hf⟩ := hx
      have e := ih (p - 1) (fun i => if i < k then f i else f (i + 1)) (fun j hj => by
        show (if j < k then f j else f (j + 1)) < n
        split
        · rename_i c
          have a := h1 j (by omega)
          rcases Nat.lt_succ_iff_lt_or_eq.mp a with q | q
          · exact q
          · exact absurd (h2 j k (by omega) hk (by omega)) (by omega)
        · rename_i c
          have a := h1 (j + 1) (by omega)
          rcases Nat.lt_succ_iff_lt_or_eq.mp a with q | q
          · exact q
          · exact absurd (h2 (j + 1) k (by omega) hk (by omega)) (by omega)) (fun i j hi hj hij => by
        have hij : (if i < k then f i else f (i + 1)) = (if j < k then f j else f (j + 1)) := hij
        split at hij <;> split at hij
        · exact h2 i j (by omega) (by omega) hij
        · exact absurd (h2 i (j + 1) (by omega) (by omega) hij) (by omega)
        · exact absurd (h2 (i + 1) j (by omega) (by omega) hij) (by omega)
        · have := h2 (i + 1) (j + 1) (by omega) (by omega) hij
          omega)
      omega
    · have e := ih p f (fun j hj => by
        rcases Nat.lt_succ_iff_lt_or_eq.mp (h1 j hj) with q | q
        · exact q
        · exact absurd ⟨j, hj, q⟩ hx) h2
      omega
/-- what a text is while it is read -/
def txI (p l : Nat) (w : Int32) (lo sz : Nat → Int32) : Prop := p ≤ 10 ∧ l ≤ 12 ∧ (¬ w = 0 → 1 ≤ l) ∧ (∀ j, j < l → vp_in (sz j) 6) ∧ (∀ j, j < p → nI 97 ≤ lo j ∧ lo j ≤ nI 106) ∧ (∀ i j, i < p → j < p → lo i = lo j → i = j)
def ltN (x : Int32) : Nat := (x.toInt - 97).toNat
theorem ltN_lt {x : Int32} (h1 : nI 97 ≤ x) (h2 : x ≤ nI 106) : ltN x < 10 := by
  have a := Int32.le_iff_toInt_le.mp h1
  have b := Int32.le_iff_toInt_le.mp h2
  rw [show (nI 97).toInt = 97 by decide] at a
  rw [show (nI 106).toInt = 106 by decide] at b
  unfold ltN
  omega
theorem ltN_eq {x y : Int32} (h1 : nI 97 ≤ x) (h2 : nI 97 ≤ y) (h : ltN x = ltN y) : x = y := by
  have a := Int32.le_iff_toInt_le.mp h1
  have b := Int32.le_iff_toInt_le.mp h2
  rw [show (nI 97).toInt = 97 by decide] at a b
  unfold ltN at h
  exact Int32.toInt_inj.mp (by omega)
theorem txI_room {p l : Nat} {w : Int32} {lo sz : Nat → Int32} {lt : Int32} (h : txI p l w lo sz) (h1 : 97 ≤ lt) (h2 : lt ≤ 106) (h3 : ∀ j, j < p → ¬ lo j = lt) : p < 10 := by
  have e := pig 10 (p + 1) (fun j => ltN (if j = p then lt else lo j)) (fun j hj => by
    show ltN (if j = p then lt else lo j) < 10
    split
    · exact ltN_lt h1 h2
    · exact ltN_lt (h.2.2.2.2.1 j (by omega)).1 (h.2.2.2.2.1 j (by omega)).2) (fun i j hi hj hij => by
    have q : (if i = p then lt else lo i) = (if j = p then lt else lo j) := ltN_eq (by split; exact h1; exact (h.2.2.2.2.1 i (by omega)).1) (by split; exact h1; exact (h.2.2.2.2.1 j (by omega)).1) hij
    split at q <;> split at q
    · omega
    · exact absurd q.symm (h3 j (by omega))
    · exact absurd q (h3 i (by omega))
    · exact h.2.2.2.2.2 i j (by omega) (by omega) q)
  omega
theorem pointOf_sp {pts lns ltr : Nat} {inw lt : Int32} {lo : Nat → Int32} : (∃ k, k < pts ∧ lo k = lt ∧ (∀ j, j < k → ¬ lo j = lt) ∧ X4_pointOf_v pts lns ltr inw lo lt = nI k ∧ X4_pointOf_pT0_0 pts lns ltr inw lo lt = pts ∧ X4_pointOf_cT1 pts lns ltr inw lo lt = lo) ∨
    ((∀ j, j < pts → ¬ lo j = lt) ∧ X4_pointOf_v pts lns ltr inw lo lt = nI pts ∧ X4_pointOf_pT0_0 pts lns ltr inw lo lt = pts + 1 ∧ X4_pointOf_cT1 pts lns ltr inw lo lt = upd lo pts lt) := by
  obtain ⟨j1, j2⟩ := zfoldB_I (B := X4_pointOf_L2_B pts lo lt) (F := X4_pointOf_L2_F lo lt) (n := pts) (fun i _ => ∀ j, j < i → ¬ lo j = lt) (fun b => ∃ k, k < pts ∧ lo k = lt ∧ (∀ j, j < k → ¬ lo j = lt) ∧ b = (nI k, pts, lo)) (fun i a hi h hB j hj => by
    unfold X4_pointOf_L2_B at hB
    split at hB
    · cases hB
    · rename_i c
      rcases Nat.lt_succ_iff_lt_or_eq.mp hj with q | q
      · exact h j q
      · rw [q]; exact c) (fun i a b hi h hB => by
    unfold X4_pointOf_L2_B at hB
    split at hB
    · rename_i c
      cases hB
      exact ⟨i, hi, c, h, rfl⟩
    · cases hB) pts 0 () (by omega) (fun j h => absurd h (Nat.not_lt_zero j))
  unfold X4_pointOf_v X4_pointOf_pT0_0 X4_pointOf_cT1
  generalize zfoldB (X4_pointOf_L2_B pts lo lt) (X4_pointOf_L2_F lo lt) pts 0 () = r at j1 j2 ⊢
  obtain ⟨b, a⟩ := r
  cases b with
  | some b =>
    obtain ⟨k, hk, h1, h2, h3⟩ := j1 b a rfl
    subst h3
    exact Or.inl ⟨k, hk, h1, h2, rfl, rfl, rfl⟩
  | none => exact Or.inr ⟨j2 a rfl, rfl, rfl, rfl⟩
theorem point_I {p l l' n : Nat} {w w' lt : Int32} {lo sz sz' : Nat → Int32} (h : txI p l w lo sz) (h1 : 97 ≤ lt) (h2 : lt ≤ 106) (hl : l' ≤ 12) (hw : 1 ≤ l') (hs : ∀ j, j < l' → vp_in (sz' j) 6) : txI (X4_pointOf_pT0_0 p l' n w' lo lt) l' w' (X4_pointOf_cT1 p l' n w' lo lt) sz' := by
  rcases pointOf_sp (pts := p) (lns := l') (ltr := n) (inw := w') (lt := lt) (lo := lo) with ⟨k, hk, e1, e2, e3, e4, e5⟩ | ⟨e1, e3, e4, e5⟩
  · rw [e4, e5]
    exact ⟨h.1, hl, fun _ => hw, hs, h.2.2.2.2.1, h.2.2.2.2.2⟩
  · rw [e4, e5]
    refine ⟨txI_room h h1 h2 e1, hl, fun _ => hw, hs, fun j hj => ?_, fun i j hi hj hij => ?_⟩
    · simp only [upd]
      split
      · exact ⟨h1, h2⟩
      · exact h.2.2.2.2.1 j (by omega)
    · simp only [upd] at hij
      split at hij <;> split at hij
      · omega
      · exact absurd hij.symm (e1 j (by omega))
      · exact absurd hij (e1 i (by omega))
      · exact h.2.2.2.2.2 i j (by omega) (by omega) hij
theorem vp_in_s {x : Int32} (h : vp_in x 5) : vp_in (x + nI 1) 6 := by
  rw [zvin h, nI_add]
  exact vp_in_nI (by have := zvlt h; omega) (by decide)
theorem ends_I {p l : Nat} {w : Int32} {lo sz : Nat → Int32} (h : txI p l w lo sz) : txI p l (X4_endsWord_pT0_3 l w sz) lo sz := by
  refine ⟨h.1, h.2.1, fun q => h.2.2.1 (fun q2 => q ?_), h.2.2.2.1, h.2.2.2.2.1, h.2.2.2.2.2⟩
  unfold X4_endsWord_pT0_3
  rw [if_pos q2]
  rfl
theorem adds_I {p l n : Nat} {w lt : Int32} {lo sz mk : Nat → Int32} (h : txI p l w lo sz) (hv : ¬ X4_addsLetter_v p l n w lo sz mk lt = 0) : txI (X4_addsLetter_pT0_0 p l n w lo sz mk lt) (X4_addsLetter_pT0_1 p l n w lo sz mk lt) (X4_addsLetter_pT0_3 p l n w lo sz mk lt) (X4_addsLetter_cT1 p l n w lo sz mk lt) (X4_addsLetter_cT2 p l n w lo sz mk lt) := by
  unfold X4_addsLetter_v at hv
  unfold X4_addsLetter_pT0_0 X4_addsLetter_pT0_1 X4_addsLetter_pT0_3 X4_addsLetter_cT1 X4_addsLetter_cT2
  by_cases c1 : lt < nI 97
  · rw [if_pos c1] at hv
    exact absurd rfl hv
  by_cases c2 : nI 106 < lt
  · rw [if_neg c1, if_pos c2] at hv
    exact absurd rfl hv
  have h1 : 97 ≤ lt := Int32.not_lt.mp c1
  have h2 : lt ≤ 106 := Int32.not_lt.mp c2
  simp only [if_neg c1, if_neg c2] at hv ⊢
  by_cases c3 : w = 0
  · simp only [if_pos c3] at hv ⊢
    by_cases c4 : X4_startsWord_v l = 0
    · simp only [if_pos c4] at hv
      exact absurd rfl hv
    have hl := startsWord_ok h.2.1 c4
    have hs : ∀ j, j < l + 1 → vp_in (upd sz l (nI 0) j) 6 := fun j hj => by
      simp only [upd]
      split
      · exact vp_in_nI (by decide) (by decide)
      · exact h.2.2.2.1 j (by omega)
    simp only [if_neg c4] at hv ⊢
    by_cases c5 : nI 5 ≤ upd sz l (nI 0) (l + 1 - 1)
    · simp only [if_pos c5] at hv
      exact absurd rfl hv
    simp only [if_neg c5] at hv ⊢
    split
    · refine point_I h h1 h2 (by omega) (by omega) (fun j hj => ?_)
      show vp_in (upd (upd sz l (nI 0)) (l + 1 - 1) (upd sz l (nI 0) (l + 1 - 1) + nI 1) j) 6
      rw [show upd (upd sz l (nI 0)) (l + 1 - 1) (upd sz l (nI 0) (l + 1 - 1) + nI 1) j = if j = l + 1 - 1 then upd sz l (nI 0) (l + 1 - 1) + nI 1 else upd sz l (nI 0) j from rfl]
      split
      · exact vp_in_s (vp_in5 (hs _ (by omega)) c5)
      · exact hs j hj
    · rename_i c6
      exact absurd (by rw [if_neg c6]; rfl) hv
  · simp only [if_neg c3] at hv ⊢
    have hl := h.2.2.1 c3
    by_cases c5 : nI 5 ≤ sz (l - 1)
    · simp only [if_pos c5] at hv
      exact absurd rfl hv
    simp only [if_neg c5] at hv ⊢
    split
    · refine point_I h h1 h2 h.2.1 hl (fun j hj => ?_)
      rw [show upd sz (l - 1) (sz (l - 1) + nI 1) j = if j = l - 1 then sz (l - 1) + nI 1 else sz j from rfl]
      split
      · exact vp_in_s (vp_in5 (h.2.2.2.1 _ (by omega)) c5)
      · exact h.2.2.2.1 j hj
    · rename_i c6
      exact absurd (by rw [if_neg c6]; rfl) hv
abbrev mX4_take : zM := (cX4_take, 5, (some .int), RX4, wsX4_take, "take")
theorem hiX4_take_X4 : ∀ w ∈ wsX40, w ∈ wsX4_take := fun w h => List.mem_cons_of_mem _ (List.mem_append_right _ h)
theorem lkX4_take_9 : Cond.fieldLink RX4 9 "ConfigSearch$Text" "points" "I" ∈ wsX4_take := by decide +kernel
theorem lkX4_take_15 : Cond.fieldLink RX4 15 "ConfigSearch$Text" "lines" "I" ∈ wsX4_take := by decide +kernel
theorem lkX4_take_18 : Cond.fieldLink RX4 18 "ConfigSearch$Text" "letters" "I" ∈ wsX4_take := by decide +kernel
theorem lkX4_take_36 : Cond.fieldLink RX4 36 "ConfigSearch$Text" "inWord" "Z" ∈ wsX4_take := by decide +kernel
theorem okk_X4_addsLetter : zOk yX4_addsLetter 1 := by unfold zOk; decide +kernel
theorem okk_X4_endsWord : zOk yX4_endsWord 0 := by unfold zOk; decide +kernel
def X4_take_L22_F (tp : Nat → Int32) (i : Nat) (a9 : (Nat) × (Nat) × (Nat) × (Int32) × (Nat → Int32) × (Nat → Int32) × (Nat → Nat → Int32) × (Nat → Int32)) : (Nat) × (Nat) × (Nat) × (Int32) × (Nat → Int32) × (Nat → Int32) × (Nat → Nat → Int32) × (Nat → Int32) := if (tp i) = (nI 32) then (if (X4_endsWord_v a9.2.1 a9.2.2.2.1 a9.2.2.2.2.2.1) = 0 then (a9.1, a9.2.1, a9.2.2.1, a9.2.2.2.1, a9.2.2.2.2.1, a9.2.2.2.2.2.1, a9.2.2.2.2.2.2.1, a9.2.2.2.2.2.2.2) else (a9.1, a9.2.1, a9.2.2.1, X4_endsWord_pT0_3 a9.2.1 a9.2.2.2.1 a9.2.2.2.2.2.1, a9.2.2.2.2.1, a9.2.2.2.2.2.1, a9.2.2.2.2.2.2.1, a9.2.2.2.2.2.2.2)) else (if (X4_addsLetter_v a9.1 a9.2.1 a9.2.2.1 a9.2.2.2.1 a9.2.2.2.2.1 a9.2.2.2.2.2.1 a9.2.2.2.2.2.2.2 (tp i)) = 0 then (a9.1, a9.2.1, a9.2.2.1, a9.2.2.2.1, a9.2.2.2.2.1, a9.2.2.2.2.2.1, a9.2.2.2.2.2.2.1, a9.2.2.2.2.2.2.2) else (X4_addsLetter_pT0_0 a9.1 a9.2.1 a9.2.2.1 a9.2.2.2.1 a9.2.2.2.2.1 a9.2.2.2.2.2.1 a9.2.2.2.2.2.2.2 (tp i), X4_addsLetter_pT0_1 a9.1 a9.2.1 a9.2.2.1 a9.2.2.2.1 a9.2.2.2.2.1 a9.2.2.2.2.2.1 a9.2.2.2.2.2.2.2 (tp i), X4_addsLetter_pT0_2 a9.1 a9.2.1 a9.2.2.1 a9.2.2.2.1 a9.2.2.2.2.1 a9.2.2.2.2.2.1 a9.2.2.2.2.2.2.2 (tp i), X4_addsLetter_pT0_3 a9.1 a9.2.1 a9.2.2.1 a9.2.2.2.1 a9.2.2.2.2.1 a9.2.2.2.2.2.1 a9.2.2.2.2.2.2.2 (tp i), X4_addsLetter_cT1 a9.1 a9.2.1 a9.2.2.1 a9.2.2.2.1 a9.2.2.2.2.1 a9.2.2.2.2.2.1 a9.2.2.2.2.2.2.2 (tp i), X4_addsLetter_cT2 a9.1 a9.2.1 a9.2.2.1 a9.2.2.2.1 a9.2.2.2.2.1 a9.2.2.2.2.2.1 a9.2.2.2.2.2.2.2 (tp i), X4_addsLetter_cT4 a9.1 a9.2.1 a9.2.2.1 a9.2.2.2.1 a9.2.2.2.2.1 a9.2.2.2.2.2.1 a9.2.2.2.2.2.2.1 a9.2.2.2.2.2.2.2 (tp i), X4_addsLetter_cT16 a9.1 a9.2.1 a9.2.2.1 a9.2.2.2.1 a9.2.2.2.2.1 a9.2.2.2.2.2.1 a9.2.2.2.2.2.2.2 (tp i)))
def X4_take_L22_B (tp : Nat → Int32) (i : Nat) (a9 : (Nat) × (Nat) × (Nat) × (Int32) × (Nat → Int32) × (Nat → Int32) × (Nat → Nat → Int32) × (Nat → Int32)) : Option ((Int32) × (Nat) × (Nat) × (Nat) × (Int32) × (Nat → Int32) × (Nat → Int32) × (Nat → Nat → Int32) × (Nat → Int32)) := if (tp i) = (nI 32) then (if (X4_endsWord_v a9.2.1 a9.2.2.2.1 a9.2.2.2.2.2.1) = 0 then (some (nI i, a9.1, a9.2.1, a9.2.2.1, X4_endsWord_pT0_3 a9.2.1 a9.2.2.2.1 a9.2.2.2.2.2.1, a9.2.2.2.2.1, a9.2.2.2.2.2.1, a9.2.2.2.2.2.2.1, a9.2.2.2.2.2.2.2)) else none) else (if (X4_addsLetter_v a9.1 a9.2.1 a9.2.2.1 a9.2.2.2.1 a9.2.2.2.2.1 a9.2.2.2.2.2.1 a9.2.2.2.2.2.2.2 (tp i)) = 0 then (some (nI i, X4_addsLetter_pT0_0 a9.1 a9.2.1 a9.2.2.1 a9.2.2.2.1 a9.2.2.2.2.1 a9.2.2.2.2.2.1 a9.2.2.2.2.2.2.2 (tp i), X4_addsLetter_pT0_1 a9.1 a9.2.1 a9.2.2.1 a9.2.2.2.1 a9.2.2.2.2.1 a9.2.2.2.2.2.1 a9.2.2.2.2.2.2.2 (tp i), X4_addsLetter_pT0_2 a9.1 a9.2.1 a9.2.2.1 a9.2.2.2.1 a9.2.2.2.2.1 a9.2.2.2.2.2.1 a9.2.2.2.2.2.2.2 (tp i), X4_addsLetter_pT0_3 a9.1 a9.2.1 a9.2.2.1 a9.2.2.2.1 a9.2.2.2.2.1 a9.2.2.2.2.2.1 a9.2.2.2.2.2.2.2 (tp i), X4_addsLetter_cT1 a9.1 a9.2.1 a9.2.2.1 a9.2.2.2.1 a9.2.2.2.2.1 a9.2.2.2.2.2.1 a9.2.2.2.2.2.2.2 (tp i), X4_addsLetter_cT2 a9.1 a9.2.1 a9.2.2.1 a9.2.2.2.1 a9.2.2.2.2.1 a9.2.2.2.2.2.1 a9.2.2.2.2.2.2.2 (tp i), X4_addsLetter_cT4 a9.1 a9.2.1 a9.2.2.1 a9.2.2.2.1 a9.2.2.2.2.1 a9.2.2.2.2.2.1 a9.2.2.2.2.2.2.1 a9.2.2.2.2.2.2.2 (tp i), X4_addsLetter_cT16 a9.1 a9.2.1 a9.2.2.1 a9.2.2.2.1 a9.2.2.2.2.1 a9.2.2.2.2.2.1 a9.2.2.2.2.2.2.2 (tp i))) else none)
def X4_take_v (tp : Nat → Int32) (lo sz : Nat → Int32) (wd : Nat → Nat → Int32) (msk : Nat → Int32) (len : Nat) : Int32 := zpick (zfoldB (X4_take_L22_B tp) (X4_take_L22_F tp) len 0 (0, 0, 0, nI 0, lo, sz, wd, msk)) (fun b => b.1) (fun am22 => if (X4_endsWord_v am22.2.1 am22.2.2.2.1 am22.2.2.2.2.2.1) = 0 then (nI len) else (if (nI am22.2.1) ≤ 0 then (nI len) else (-1)))
def X4_take_pT0_0 (tp : Nat → Int32) (lo sz : Nat → Int32) (wd : Nat → Nat → Int32) (msk : Nat → Int32) (len : Nat) : Nat := zpick (zfoldB (X4_take_L22_B tp) (X4_take_L22_F tp) len 0 (0, 0, 0, nI 0, lo, sz, wd, msk)) (fun b => b.2.1) (fun am22 => if (X4_endsWord_v am22.2.1 am22.2.2.2.1 am22.2.2.2.2.2.1) = 0 then am22.1 else (if (nI am22.2.1) ≤ 0 then am22.1 else am22.1))
def X4_take_pT0_1 (tp : Nat → Int32) (lo sz : Nat → Int32) (wd : Nat → Nat → Int32) (msk : Nat → Int32) (len : Nat) : Nat := zpick (zfoldB (X4_take_L22_B tp) (X4_take_L22_F tp) len 0 (0, 0, 0, nI 0, lo, sz, wd, msk)) (fun b => b.2.2.1) (fun am22 => if (X4_endsWord_v am22.2.1 am22.2.2.2.1 am22.2.2.2.2.2.1) = 0 then am22.2.1 else (if (nI am22.2.1) ≤ 0 then am22.2.1 else am22.2.1))
def X4_take_pT0_2 (tp : Nat → Int32) (lo sz : Nat → Int32) (wd : Nat → Nat → Int32) (msk : Nat → Int32) (len : Nat) : Nat := zpick (zfoldB (X4_take_L22_B tp) (X4_take_L22_F tp) len 0 (0, 0, 0, nI 0, lo, sz, wd, msk)) (fun b => b.2.2.2.1) (fun am22 => if (X4_endsWord_v am22.2.1 am22.2.2.2.1 am22.2.2.2.2.2.1) = 0 then am22.2.2.1 else (if (nI am22.2.1) ≤ 0 then am22.2.2.1 else am22.2.2.1))
def X4_take_pT0_3 (tp : Nat → Int32) (lo sz : Nat → Int32) (wd : Nat → Nat → Int32) (msk : Nat → Int32) (len : Nat) : Int32 := zpick (zfoldB (X4_take_L22_B tp) (X4_take_L22_F tp) len 0 (0, 0, 0, nI 0, lo, sz, wd, msk)) (fun b => b.2.2.2.2.1) (fun am22 => if (X4_endsWord_v am22.2.1 am22.2.2.2.1 am22.2.2.2.2.2.1) = 0 then (X4_endsWord_pT0_3 am22.2.1 am22.2.2.2.1 am22.2.2.2.2.2.1) else (if (nI am22.2.1) ≤ 0 then (X4_endsWord_pT0_3 am22.2.1 am22.2.2.2.1 am22.2.2.2.2.2.1) else (X4_endsWord_pT0_3 am22.2.1 am22.2.2.2.1 am22.2.2.2.2.2.1)))
def X4_take_cT1 (tp : Nat → Int32) (lo sz : Nat → Int32) (wd : Nat → Nat → Int32) (msk : Nat → Int32) (len : Nat) : Nat → Int32 := zpick (zfoldB (X4_take_L22_B tp) (X4_take_L22_F tp) len 0 (0, 0, 0, nI 0, lo, sz, wd, msk)) (fun b => b.2.2.2.2.2.1) (fun am22 => if (X4_endsWord_v am22.2.1 am22.2.2.2.1 am22.2.2.2.2.2.1) = 0 then am22.2.2.2.2.1 else (if (nI am22.2.1) ≤ 0 then am22.2.2.2.2.1 else am22.2.2.2.2.1))
def X4_take_cT2 (tp : Nat → Int32) (lo sz : Nat → Int32) (wd : Nat → Nat → Int32) (msk : Nat → Int32) (len : Nat) : Nat → Int32 := zpick (zfoldB (X4_take_L22_B tp) (X4_take_L22_F tp) len 0 (0, 0, 0, nI 0, lo, sz, wd, msk)) (fun b => b.2.2.2.2.2.2.1) (fun am22 => if (X4_endsWord_v am22.2.1 am22.2.2.2.1 am22.2.2.2.2.2.1) = 0 then am22.2.2.2.2.2.1 else (if (nI am22.2.1) ≤ 0 then am22.2.2.2.2.2.1 else am22.2.2.2.2.2.1))
def X4_take_cT4 (tp : Nat → Int32) (lo sz : Nat → Int32) (wd : Nat → Nat → Int32) (msk : Nat → Int32) (len : Nat) : Nat → Nat → Int32 := zpick (zfoldB (X4_take_L22_B tp) (X4_take_L22_F tp) len 0 (0, 0, 0, nI 0, lo, sz, wd, msk)) (fun b => b.2.2.2.2.2.2.2.1) (fun am22 => if (X4_endsWord_v am22.2.1 am22.2.2.2.1 am22.2.2.2.2.2.1) = 0 then am22.2.2.2.2.2.2.1 else (if (nI am22.2.1) ≤ 0 then am22.2.2.2.2.2.2.1 else am22.2.2.2.2.2.2.1))
def X4_take_cT16 (tp : Nat → Int32) (lo sz : Nat → Int32) (wd : Nat → Nat → Int32) (msk : Nat → Int32) (len : Nat) : Nat → Int32 := zpick (zfoldB (X4_take_L22_B tp) (X4_take_L22_F tp) len 0 (0, 0, 0, nI 0, lo, sz, wd, msk)) (fun b => b.2.2.2.2.2.2.2.2) (fun am22 => if (X4_endsWord_v am22.2.1 am22.2.2.2.1 am22.2.2.2.2.2.1) = 0 then am22.2.2.2.2.2.2.2 else (if (nI am22.2.1) ≤ 0 then am22.2.2.2.2.2.2.2 else am22.2.2.2.2.2.2.2))
set_option maxRecDepth 100000 in
set_option maxHeartbeats 4000000 in
theorem c_X4_take_2 (G : zG) (ex : Bool) (g : Nat → va_E) (pt0 ln0 lt0 iw0 : Int32) (tp : Nat → Int32) (lo sz : Nat → Int32) (wd : Nat → Nat → Int32) (msk : Nat → Int32) (len : Nat) (hlen : len ≤ 80) (h2 : g 2 = (oTxt G 2 pt0 ln0 lt0 iw0)) (h1 : g 1 = (zI G 80 tp)) (h3 : g 3 = (zI G 10 lo)) (h4 : g 4 = (zI G 12 sz)) (h5 : g 5 = (zR G 12 (zrw G 12 6))) (h6 : ∀ l9, l9 < 12 → g (6 + l9) = zI G 5 (wd l9)) (h18 : g 18 = (zI G 12 msk)) : zC G yX4_take wsX4_take (zrm 3 67) ex [.ref (zB G + 2), .ref (zB G + 1), .int (nI len)] (zN, g) (fun r h => r = some (.int (X4_take_v tp lo sz wd msk len)) ∧ h = (zN, zus g [(2, (oTxt G 2 (nI (X4_take_pT0_0 tp lo sz wd msk len)) (nI (X4_take_pT0_1 tp lo sz wd msk len)) (nI (X4_take_pT0_2 tp lo sz wd msk len)) (X4_take_pT0_3 tp lo sz wd msk len))), (3, zI G 10 (X4_take_cT1 tp lo sz wd msk len)), (4, zI G 12 (X4_take_cT2 tp lo sz wd msk len)), (6, zI G 5 ((X4_take_cT4 tp lo sz wd msk len) 0)), (7, zI G 5 ((X4_take_cT4 tp lo sz wd msk len) 1)), (8, zI G 5 ((X4_take_cT4 tp lo sz wd msk len) 2)), (9, zI G 5 ((X4_take_cT4 tp lo sz wd msk len) 3)), (10, zI G 5 ((X4_take_cT4 tp lo sz wd msk len) 4)), (11, zI G 5 ((X4_take_cT4 tp lo sz wd msk len) 5)), (12, zI G 5 ((X4_take_cT4 tp lo sz wd msk len) 6)), (13, zI G 5 ((X4_take_cT4 tp lo sz wd msk len) 7)), (14, zI G 5 ((X4_take_cT4 tp lo sz wd msk len) 8)), (15, zI G 5 ((X4_take_cT4 tp lo sz wd msk len) 9)), (16, zI G 5 ((X4_take_cT4 tp lo sz wd msk len) 10)), (17, zI G 5 ((X4_take_cT4 tp lo sz wd msk len) 11)), (18, zI G 12 (X4_take_cT16 tp lo sz wd msk len))])) := by
  refine zC_of mX4_take (lv := [some (.ref (zB G + 2)), some (.ref (zB G + 1)), some (.int (nI len)), none, none]) rfl rfl (by decide) (by intro v hv; simp at hv; rcases hv with rfl | rfl | rfl <;> rfl) (Nat.le_of_ble_eq_true rfl) rfl ?_
  refine z_0 ?_
  refine z_heap (g' := zu (zus g []) 2 (oTxt G 2 pt0 ln0 lt0 iw0)) (zu_self (zus g []) 2 _ h2).symm ?_
  refine z_n (L' := [(2, (oTxt G 2 pt0 ln0 lt0 iw0))]) rfl ?_
  refine z_heap (g' := zu (zus g [(2, (oTxt G 2 pt0 ln0 lt0 iw0))]) 3 (zI G 10 lo)) (zu_self (zus g [(2, (oTxt G 2 pt0 ln0 lt0 iw0))]) 3 _ h3).symm ?_
  refine z_n (L' := [(2, (oTxt G 2 pt0 ln0 lt0 iw0)), (3, (zI G 10 lo))]) rfl ?_
  refine z_heap (g' := zu (zus g [(2, (oTxt G 2 pt0 ln0 lt0 iw0)), (3, (zI G 10 lo))]) 4 (zI G 12 sz)) (zu_self (zus g [(2, (oTxt G 2 pt0 ln0 lt0 iw0)), (3, (zI G 10 lo))]) 4 _ h4).symm ?_
  refine z_n (L' := [(2, (oTxt G 2 pt0 ln0 lt0 iw0)), (3, (zI G 10 lo)), (4, (zI G 12 sz))]) rfl ?_
  refine z_heap (g' := zu (zus g [(2, (oTxt G 2 pt0 ln0 lt0 iw0)), (3, (zI G 10 lo)), (4, (zI G 12 sz))]) 6 (zI G 5 (wd 0))) (zu_self (zus g [(2, (oTxt G 2 pt0 ln0 lt0 iw0)), (3, (zI G 10 lo)), (4, (zI G 12 sz))]) 6 _ (h6 0 (by decide))).symm ?_
  refine z_n (L' := [(2, (oTxt G 2 pt0 ln0 lt0 iw0)), (3, (zI G 10 lo)), (4, (zI G 12 sz)), (6, (zI G 5 (wd 0)))]) rfl ?_
  refine z_heap (g' := zu (zus g [(2, (oTxt G 2 pt0 ln0 lt0 iw0)), (3, (zI G 10 lo)), (4, (zI G 12 sz)), (6, (zI G 5 (wd 0)))]) 7 (zI G 5 (wd 1))) (zu_self (zus g [(2, (oTxt G 2 pt0 ln0 lt0 iw0)), (3, (zI G 10 lo)), (4, (zI G 12 sz)), (6, (zI G 5 (wd 0)))]) 7 _ (h6 1 (by decide))).symm ?_
  refine z_n (L' := [(2, (oTxt G 2 pt0 ln0 lt0 iw0)), (3, (zI G 10 lo)), (4, (zI G 12 sz)), (6, (zI G 5 (wd 0))), (7, (zI G 5 (wd 1)))]) rfl ?_
  refine z_heap (g' := zu (zus g [(2, (oTxt G 2 pt0 ln0 lt0 iw0)), (3, (zI G 10 lo)), (4, (zI G 12 sz)), (6, (zI G 5 (wd 0))), (7, (zI G 5 (wd 1)))]) 8 (zI G 5 (wd 2))) (zu_self (zus g [(2, (oTxt G 2 pt0 ln0 lt0 iw0)), (3, (zI G 10 lo)), (4, (zI G 12 sz)), (6, (zI G 5 (wd 0))), (7, (zI G 5 (wd 1)))]) 8 _ (h6 2 (by decide))).symm ?_
  refine z_n (L' := [(2, (oTxt G 2 pt0 ln0 lt0 iw0)), (3, (zI G 10 lo)), (4, (zI G 12 sz)), (6, (zI G 5 (wd 0))), (7, (zI G 5 (wd 1))), (8, (zI G 5 (wd 2)))]) rfl ?_
  refine z_heap (g' := zu (zus g [(2, (oTxt G 2 pt0 ln0 lt0 iw0)), (3, (zI G 10 lo)), (4, (zI G 12 sz)), (6, (zI G 5 (wd 0))), (7, (zI G 5 (wd 1))), (8, (zI G 5 (wd 2)))]) 9 (zI G 5 (wd 3))) (zu_self (zus g [(2, (oTxt G 2 pt0 ln0 lt0 iw0)), (3, (zI G 10 lo)), (4, (zI G 12 sz)), (6, (zI G 5 (wd 0))), (7, (zI G 5 (wd 1))), (8, (zI G 5 (wd 2)))]) 9 _ (h6 3 (by decide))).symm ?_
  refine z_n (L' := [(2, (oTxt G 2 pt0 ln0 lt0 iw0)), (3, (zI G 10 lo)), (4, (zI G 12 sz)), (6, (zI G 5 (wd 0))), (7, (zI G 5 (wd 1))), (8, (zI G 5 (wd 2))), (9, (zI G 5 (wd 3)))]) rfl ?_
  refine z_heap (g' := zu (zus g [(2, (oTxt G 2 pt0 ln0 lt0 iw0)), (3, (zI G 10 lo)), (4, (zI G 12 sz)), (6, (zI G 5 (wd 0))), (7, (zI G 5 (wd 1))), (8, (zI G 5 (wd 2))), (9, (zI G 5 (wd 3)))]) 10 (zI G 5 (wd 4))) (zu_self (zus g [(2, (oTxt G 2 pt0 ln0 lt0 iw0)), (3, (zI G 10 lo)), (4, (zI G 12 sz)), (6, (zI G 5 (wd 0))), (7, (zI G 5 (wd 1))), (8, (zI G 5 (wd 2))), (9, (zI G 5 (wd 3)))]) 10 _ (h6 4 (by decide))).symm ?_
  refine z_n (L' := [(2, (oTxt G 2 pt0 ln0 lt0 iw0)), (3, (zI G 10 lo)), (4, (zI G 12 sz)), (6, (zI G 5 (wd 0))), (7, (zI G 5 (wd 1))), (8, (zI G 5 (wd 2))), (9, (zI G 5 (wd 3))), (10, (zI G 5 (wd 4)))]) rfl ?_
  refine z_heap (g' := zu (zus g [(2, (oTxt G 2 pt0 ln0 lt0 iw0)), (3, (zI G 10 lo)), (4, (zI G 12 sz)), (6, (zI G 5 (wd 0))), (7, (zI G 5 (wd 1))), (8, (zI G 5 (wd 2))), (9, (zI G 5 (wd 3))), (10, (zI G 5 (wd 4)))]) 11 (zI G 5 (wd 5))) (zu_self (zus g [(2, (oTxt G 2 pt0 ln0 lt0 iw0)), (3, (zI G 10 lo)), (4, (zI G 12 sz)), (6, (zI G 5 (wd 0))), (7, (zI G 5 (wd 1))), (8, (zI G 5 (wd 2))), (9, (zI G 5 (wd 3))), (10, (zI G 5 (wd 4)))]) 11 _ (h6 5 (by decide))).symm ?_
  refine z_n (L' := [(2, (oTxt G 2 pt0 ln0 lt0 iw0)), (3, (zI G 10 lo)), (4, (zI G 12 sz)), (6, (zI G 5 (wd 0))), (7, (zI G 5 (wd 1))), (8, (zI G 5 (wd 2))), (9, (zI G 5 (wd 3))), (10, (zI G 5 (wd 4))), (11, (zI G 5 (wd 5)))]) rfl ?_
  refine z_heap (g' := zu (zus g [(2, (oTxt G 2 pt0 ln0 lt0 iw0)), (3, (zI G 10 lo)), (4, (zI G 12 sz)), (6, (zI G 5 (wd 0))), (7, (zI G 5 (wd 1))), (8, (zI G 5 (wd 2))), (9, (zI G 5 (wd 3))), (10, (zI G 5 (wd 4))), (11, (zI G 5 (wd 5)))]) 12 (zI G 5 (wd 6))) (zu_self (zus g [(2, (oTxt G 2 pt0 ln0 lt0 iw0)), (3, (zI G 10 lo)), (4, (zI G 12 sz)), (6, (zI G 5 (wd 0))), (7, (zI G 5 (wd 1))), (8, (zI G 5 (wd 2))), (9, (zI G 5 (wd 3))), (10, (zI G 5 (wd 4))), (11, (zI G 5 (wd 5)))]) 12 _ (h6 6 (by decide))).symm ?_
  refine z_n (L' := [(2, (oTxt G 2 pt0 ln0 lt0 iw0)), (3, (zI G 10 lo)), (4, (zI G 12 sz)), (6, (zI G 5 (wd 0))), (7, (zI G 5 (wd 1))), (8, (zI G 5 (wd 2))), (9, (zI G 5 (wd 3))), (10, (zI G 5 (wd 4))), (11, (zI G 5 (wd 5))), (12, (zI G 5 (wd 6)))]) rfl ?_
  refine z_heap (g' := zu (zus g [(2, (oTxt G 2 pt0 ln0 lt0 iw0)), (3, (zI G 10 lo)), (4, (zI G 12 sz)), (6, (zI G 5 (wd 0))), (7, (zI G 5 (wd 1))), (8, (zI G 5 (wd 2))), (9, (zI G 5 (wd 3))), (10, (zI G 5 (wd 4))), (11, (zI G 5 (wd 5))), (12, (zI G 5 (wd 6)))]) 13 (zI G 5 (wd 7))) (zu_self (zus g [(2, (oTxt G 2 pt0 ln0 lt0 iw0)), (3, (zI G 10 lo)), (4, (zI G 12 sz)), (6, (zI G 5 (wd 0))), (7, (zI G 5 (wd 1))), (8, (zI G 5 (wd 2))), (9, (zI G 5 (wd 3))), (10, (zI G 5 (wd 4))), (11, (zI G 5 (wd 5))), (12, (zI G 5 (wd 6)))]) 13 _ (h6 7 (by decide))).symm ?_
  refine z_n (L' := [(2, (oTxt G 2 pt0 ln0 lt0 iw0)), (3, (zI G 10 lo)), (4, (zI G 12 sz)), (6, (zI G 5 (wd 0))), (7, (zI G 5 (wd 1))), (8, (zI G 5 (wd 2))), (9, (zI G 5 (wd 3))), (10, (zI G 5 (wd 4))), (11, (zI G 5 (wd 5))), (12, (zI G 5 (wd 6))), (13, (zI G 5 (wd 7)))]) rfl ?_
  refine z_heap (g' := zu (zus g [(2, (oTxt G 2 pt0 ln0 lt0 iw0)), (3, (zI G 10 lo)), (4, (zI G 12 sz)), (6, (zI G 5 (wd 0))), (7, (zI G 5 (wd 1))), (8, (zI G 5 (wd 2))), (9, (zI G 5 (wd 3))), (10, (zI G 5 (wd 4))), (11, (zI G 5 (wd 5))), (12, (zI G 5 (wd 6))), (13, (zI G 5 (wd 7)))]) 14 (zI G 5 (wd 8))) (zu_self (zus g [(2, (oTxt G 2 pt0 ln0 lt0 iw0)), (3, (zI G 10 lo)), (4, (zI G 12 sz)), (6, (zI G 5 (wd 0))), (7, (zI G 5 (wd 1))), (8, (zI G 5 (wd 2))), (9, (zI G 5 (wd 3))), (10, (zI G 5 (wd 4))), (11, (zI G 5 (wd 5))), (12, (zI G 5 (wd 6))), (13, (zI G 5 (wd 7)))]) 14 _ (h6 8 (by decide))).symm ?_
  refine z_n (L' := [(2, (oTxt G 2 pt0 ln0 lt0 iw0)), (3, (zI G 10 lo)), (4, (zI G 12 sz)), (6, (zI G 5 (wd 0))), (7, (zI G 5 (wd 1))), (8, (zI G 5 (wd 2))), (9, (zI G 5 (wd 3))), (10, (zI G 5 (wd 4))), (11, (zI G 5 (wd 5))), (12, (zI G 5 (wd 6))), (13, (zI G 5 (wd 7))), (14, (zI G 5 (wd 8)))]) rfl ?_
  refine z_heap (g' := zu (zus g [(2, (oTxt G 2 pt0 ln0 lt0 iw0)), (3, (zI G 10 lo)), (4, (zI G 12 sz)), (6, (zI G 5 (wd 0))), (7, (zI G 5 (wd 1))), (8, (zI G 5 (wd 2))), (9, (zI G 5 (wd 3))), (10, (zI G 5 (wd 4))), (11, (zI G 5 (wd 5))), (12, (zI G 5 (wd 6))), (13, (zI G 5 (wd 7))), (14, (zI G 5 (wd 8)))]) 15 (zI G 5 (wd 9))) (zu_self (zus g [(2, (oTxt G 2 pt0 ln0 lt0 iw0)), (3, (zI G 10 lo)), (4, (zI G 12 sz)), (6, (zI G 5 (wd 0))), (7, (zI G 5 (wd 1))), (8, (zI G 5 (wd 2))), (9, (zI G 5 (wd 3))), (10, (zI G 5 (wd 4))), (11, (zI G 5 (wd 5))), (12, (zI G 5 (wd 6))), (13, (zI G 5 (wd 7))), (14, (zI G 5 (wd 8)))]) 15 _ (h6 9 (by decide))).symm ?_
  refine z_n (L' := [(2, (oTxt G 2 pt0 ln0 lt0 iw0)), (3, (zI G 10 lo)), (4, (zI G 12 sz)), (6, (zI G 5 (wd 0))), (7, (zI G 5 (wd 1))), (8, (zI G 5 (wd 2))), (9, (zI G 5 (wd 3))), (10, (zI G 5 (wd 4))), (11, (zI G 5 (wd 5))), (12, (zI G 5 (wd 6))), (13, (zI G 5 (wd 7))), (14, (zI G 5 (wd 8))), (15, (zI G 5 (wd 9)))]) rfl ?_
  refine z_heap (g' := zu (zus g [(2, (oTxt G 2 pt0 ln0 lt0 iw0)), (3, (zI G 10 lo)), (4, (zI G 12 sz)), (6, (zI G 5 (wd 0))), (7, (zI G 5 (wd 1))), (8, (zI G 5 (wd 2))), (9, (zI G 5 (wd 3))), (10, (zI G 5 (wd 4))), (11, (zI G 5 (wd 5))), (12, (zI G 5 (wd 6))), (13, (zI G 5 (wd 7))), (14, (zI G 5 (wd 8))), (15, (zI G 5 (wd 9)))]) 16 (zI G 5 (wd 10))) (zu_self (zus g [(2, (oTxt G 2 pt0 ln0 lt0 iw0)), (3, (zI G 10 lo)), (4, (zI G 12 sz)), (6, (zI G 5 (wd 0))), (7, (zI G 5 (wd 1))), (8, (zI G 5 (wd 2))), (9, (zI G 5 (wd 3))), (10, (zI G 5 (wd 4))), (11, (zI G 5 (wd 5))), (12, (zI G 5 (wd 6))), (13, (zI G 5 (wd 7))), (14, (zI G 5 (wd 8))), (15, (zI G 5 (wd 9)))]) 16 _ (h6 10 (by decide))).symm ?_
  refine z_n (L' := [(2, (oTxt G 2 pt0 ln0 lt0 iw0)), (3, (zI G 10 lo)), (4, (zI G 12 sz)), (6, (zI G 5 (wd 0))), (7, (zI G 5 (wd 1))), (8, (zI G 5 (wd 2))), (9, (zI G 5 (wd 3))), (10, (zI G 5 (wd 4))), (11, (zI G 5 (wd 5))), (12, (zI G 5 (wd 6))), (13, (zI G 5 (wd 7))), (14, (zI G 5 (wd 8))), (15, (zI G 5 (wd 9))), (16, (zI G 5 (wd 10)))]) rfl ?_
  refine z_heap (g' := zu (zus g [(2, (oTxt G 2 pt0 ln0 lt0 iw0)), (3, (zI G 10 lo)), (4, (zI G 12 sz)), (6, (zI G 5 (wd 0))), (7, (zI G 5 (wd 1))), (8, (zI G 5 (wd 2))), (9, (zI G 5 (wd 3))), (10, (zI G 5 (wd 4))), (11, (zI G 5 (wd 5))), (12, (zI G 5 (wd 6))), (13, (zI G 5 (wd 7))), (14, (zI G 5 (wd 8))), (15, (zI G 5 (wd 9))), (16, (zI G 5 (wd 10)))]) 17 (zI G 5 (wd 11))) (zu_self (zus g [(2, (oTxt G 2 pt0 ln0 lt0 iw0)), (3, (zI G 10 lo)), (4, (zI G 12 sz)), (6, (zI G 5 (wd 0))), (7, (zI G 5 (wd 1))), (8, (zI G 5 (wd 2))), (9, (zI G 5 (wd 3))), (10, (zI G 5 (wd 4))), (11, (zI G 5 (wd 5))), (12, (zI G 5 (wd 6))), (13, (zI G 5 (wd 7))), (14, (zI G 5 (wd 8))), (15, (zI G 5 (wd 9))), (16, (zI G 5 (wd 10)))]) 17 _ (h6 11 (by decide))).symm ?_
  refine z_n (L' := [(2, (oTxt G 2 pt0 ln0 lt0 iw0)), (3, (zI G 10 lo)), (4, (zI G 12 sz)), (6, (zI G 5 (wd 0))), (7, (zI G 5 (wd 1))), (8, (zI G 5 (wd 2))), (9, (zI G 5 (wd 3))), (10, (zI G 5 (wd 4))), (11, (zI G 5 (wd 5))), (12, (zI G 5 (wd 6))), (13, (zI G 5 (wd 7))), (14, (zI G 5 (wd 8))), (15, (zI G 5 (wd 9))), (16, (zI G 5 (wd 10))), (17, (zI G 5 (wd 11)))]) rfl ?_
  refine z_heap (g' := zu (zus g [(2, (oTxt G 2 pt0 ln0 lt0 iw0)), (3, (zI G 10 lo)), (4, (zI G 12 sz)), (6, (zI G 5 (wd 0))), (7, (zI G 5 (wd 1))), (8, (zI G 5 (wd 2))), (9, (zI G 5 (wd 3))), (10, (zI G 5 (wd 4))), (11, (zI G 5 (wd 5))), (12, (zI G 5 (wd 6))), (13, (zI G 5 (wd 7))), (14, (zI G 5 (wd 8))), (15, (zI G 5 (wd 9))), (16, (zI G 5 (wd 10))), (17, (zI G 5 (wd 11)))]) 18 (zI G 12 msk)) (zu_self (zus g [(2, (oTxt G 2 pt0 ln0 lt0 iw0)), (3, (zI G 10 lo)), (4, (zI G 12 sz)), (6, (zI G 5 (wd 0))), (7, (zI G 5 (wd 1))), (8, (zI G 5 (wd 2))), (9, (zI G 5 (wd 3))), (10, (zI G 5 (wd 4))), (11, (zI G 5 (wd 5))), (12, (zI G 5 (wd 6))), (13, (zI G 5 (wd 7))), (14, (zI G 5 (wd 8))), (15, (zI G 5 (wd 9))), (16, (zI G 5 (wd 10))), (17, (zI G 5 (wd 11)))]) 18 _ h18).symm ?_
  refine z_n (L' := [(2, (oTxt G 2 pt0 ln0 lt0 iw0)), (3, (zI G 10 lo)), (4, (zI G 12 sz)), (6, (zI G 5 (wd 0))), (7, (zI G 5 (wd 1))), (8, (zI G 5 (wd 2))), (9, (zI G 5 (wd 3))), (10, (zI G 5 (wd 4))), (11, (zI G 5 (wd 5))), (12, (zI G 5 (wd 6))), (13, (zI G 5 (wd 7))), (14, (zI G 5 (wd 8))), (15, (zI G 5 (wd 9))), (16, (zI G 5 (wd 10))), (17, (zI G 5 (wd 11))), (18, (zI G 12 msk))]) rfl ?_
  refine z_aload_n dX4_take_0 rfl rfl ?_
  refine z_iconst (v := nI 0) dX4_take_1 rfl (by decide) ?_
  refine z_putN (e9 := (oTxt G 2 (nI 0) ln0 lt0 iw0)) tyX4 tyX4_ok nmX4 dX4_take_2 rfl hiX4_take_X4 0 lkX4_take_9 rfl (by decide +kernel) (Nat.le_of_ble_eq_true rfl) rfl rfl (by decide) (Nat.le_of_ble_eq_true rfl) rfl rfl rfl ?_
  refine z_n (L' := [(2, (oTxt G 2 (nI 0) ln0 lt0 iw0)), (3, (zI G 10 lo)), (4, (zI G 12 sz)), (6, (zI G 5 (wd 0))), (7, (zI G 5 (wd 1))), (8, (zI G 5 (wd 2))), (9, (zI G 5 (wd 3))), (10, (zI G 5 (wd 4))), (11, (zI G 5 (wd 5))), (12, (zI G 5 (wd 6))), (13, (zI G 5 (wd 7))), (14, (zI G 5 (wd 8))), (15, (zI G 5 (wd 9))), (16, (zI G 5 (wd 10))), (17, (zI G 5 (wd 11))), (18, (zI G 12 msk))]) rfl ?_
  refine z_aload_n dX4_take_5 rfl rfl ?_
  refine z_iconst (v := nI 0) dX4_take_6 rfl (by decide) ?_
  refine z_putN (e9 := (oTxt G 2 (nI 0) (nI 0) lt0 iw0)) tyX4 tyX4_ok nmX4 dX4_take_7 rfl hiX4_take_X4 1 lkX4_take_15 rfl (by decide +kernel) (Nat.le_of_ble_eq_true rfl) rfl rfl (by decide) (Nat.le_of_ble_eq_true rfl) rfl rfl rfl ?_
  refine z_n (L' := [(2, (oTxt G 2 (nI 0) (nI 0) lt0 iw0)), (3, (zI G 10 lo)), (4, (zI G 12 sz)), (6, (zI G 5 (wd 0))), (7, (zI G 5 (wd 1))), (8, (zI G 5 (wd 2))), (9, (zI G 5 (wd 3))), (10, (zI G 5 (wd 4))), (11, (zI G 5 (wd 5))), (12, (zI G 5 (wd 6))), (13, (zI G 5 (wd 7))), (14, (zI G 5 (wd 8))), (15, (zI G 5 (wd 9))), (16, (zI G 5 (wd 10))), (17, (zI G 5 (wd 11))), (18, (zI G 12 msk))]) rfl ?_
  refine z_aload_n dX4_take_10 rfl rfl ?_
  refine z_iconst (v := nI 0) dX4_take_11 rfl (by decide) ?_
  refine z_putN (e9 := (oTxt G 2 (nI 0) (nI 0) (nI 0) iw0)) tyX4 tyX4_ok nmX4 dX4_take_12 rfl hiX4_take_X4 2 lkX4_take_18 rfl (by decide +kernel) (Nat.le_of_ble_eq_true rfl) rfl rfl (by decide) (Nat.le_of_ble_eq_true rfl) rfl rfl rfl ?_
  refine z_n (L' := [(2, (oTxt G 2 (nI 0) (nI 0) (nI 0) iw0)), (3, (zI G 10 lo)), (4, (zI G 12 sz)), (6, (zI G 5 (wd 0))), (7, (zI G 5 (wd 1))), (8, (zI G 5 (wd 2))), (9, (zI G 5 (wd 3))), (10, (zI G 5 (wd 4))), (11, (zI G 5 (wd 5))), (12, (zI G 5 (wd 6))), (13, (zI G 5 (wd 7))), (14, (zI G 5 (wd 8))), (15, (zI G 5 (wd 9))), (16, (zI G 5 (wd 10))), (17, (zI G 5 (wd 11))), (18, (zI G 12 msk))]) rfl ?_
  refine z_aload_n dX4_take_15 rfl rfl ?_
  refine z_iconst (v := nI 0) dX4_take_16 rfl (by decide) ?_
  refine z_putN (e9 := (oTxt G 2 (nI 0) (nI 0) (nI 0) (nI 0))) tyX4 tyX4_ok nmX4 dX4_take_17 rfl hiX4_take_X4 7 lkX4_take_36 rfl (by decide +kernel) (Nat.le_of_ble_eq_true rfl) rfl rfl (by decide) (Nat.le_of_ble_eq_true rfl) rfl rfl rfl ?_
  refine z_n (L' := [(2, (oTxt G 2 (nI 0) (nI 0) (nI 0) (nI 0))), (3, (zI G 10 lo)), (4, (zI G 12 sz)), (6, (zI G 5 (wd 0))), (7, (zI G 5 (wd 1))), (8, (zI G 5 (wd 2))), (9, (zI G 5 (wd 3))), (10, (zI G 5 (wd 4))), (11, (zI G 5 (wd 5))), (12, (zI G 5 (wd 6))), (13, (zI G 5 (wd 7))), (14, (zI G 5 (wd 8))), (15, (zI G 5 (wd 9))), (16, (zI G 5 (wd 10))), (17, (zI G 5 (wd 11))), (18, (zI G 12 msk))]) rfl ?_
  refine z_iconst (v := nI 0) dX4_take_20 rfl (by decide) ?_
  refine z_istore_3 dX4_take_21 rfl ?_
  refine z_forB (head := fun i (st9 : (Nat) × (Nat) × (Nat) × (Int32) × (Nat → Int32) × (Nat → Int32) × (Nat → Nat → Int32) × (Nat → Int32)) => ∀ y4 : Option Value, Z G mX4_take (zrm 3 67) ex _ 22 [some (.ref (zB G + 2)), some (.ref (zB G + 1)), some (.int (nI len)), some (.int (nI i)), y4] [] (zN, zus g [(2, (oTxt G 2 (nI st9.1) (nI st9.2.1) (nI st9.2.2.1) st9.2.2.2.1)), (3, (zI G 10 st9.2.2.2.2.1)), (4, (zI G 12 st9.2.2.2.2.2.1)), (6, (zI G 5 (st9.2.2.2.2.2.2.1 0))), (7, (zI G 5 (st9.2.2.2.2.2.2.1 1))), (8, (zI G 5 (st9.2.2.2.2.2.2.1 2))), (9, (zI G 5 (st9.2.2.2.2.2.2.1 3))), (10, (zI G 5 (st9.2.2.2.2.2.2.1 4))), (11, (zI G 5 (st9.2.2.2.2.2.2.1 5))), (12, (zI G 5 (st9.2.2.2.2.2.2.1 6))), (13, (zI G 5 (st9.2.2.2.2.2.2.1 7))), (14, (zI G 5 (st9.2.2.2.2.2.2.1 8))), (15, (zI G 5 (st9.2.2.2.2.2.2.1 9))), (16, (zI G 5 (st9.2.2.2.2.2.2.1 10))), (17, (zI G 5 (st9.2.2.2.2.2.2.1 11))), (18, (zI G 12 st9.2.2.2.2.2.2.2))]) 0 0) (out := fun b _ => (some (Value.int b.1) = some (Value.int (X4_take_v tp lo sz wd msk len))) ∧ ((zN, zus g [(2, (oTxt G 2 (nI b.2.1) (nI b.2.2.1) (nI b.2.2.2.1) b.2.2.2.2.1)), (3, (zI G 10 b.2.2.2.2.2.1)), (4, (zI G 12 b.2.2.2.2.2.2.1)), (6, (zI G 5 (b.2.2.2.2.2.2.2.1 0))), (7, (zI G 5 (b.2.2.2.2.2.2.2.1 1))), (8, (zI G 5 (b.2.2.2.2.2.2.2.1 2))), (9, (zI G 5 (b.2.2.2.2.2.2.2.1 3))), (10, (zI G 5 (b.2.2.2.2.2.2.2.1 4))), (11, (zI G 5 (b.2.2.2.2.2.2.2.1 5))), (12, (zI G 5 (b.2.2.2.2.2.2.2.1 6))), (13, (zI G 5 (b.2.2.2.2.2.2.2.1 7))), (14, (zI G 5 (b.2.2.2.2.2.2.2.1 8))), (15, (zI G 5 (b.2.2.2.2.2.2.2.1 9))), (16, (zI G 5 (b.2.2.2.2.2.2.2.1 10))), (17, (zI G 5 (b.2.2.2.2.2.2.2.1 11))), (18, (zI G 12 b.2.2.2.2.2.2.2.2))]) : zAH) = (zN, zus g [(2, (oTxt G 2 (nI (X4_take_pT0_0 tp lo sz wd msk len)) (nI (X4_take_pT0_1 tp lo sz wd msk len)) (nI (X4_take_pT0_2 tp lo sz wd msk len)) (X4_take_pT0_3 tp lo sz wd msk len))), (3, zI G 10 (X4_take_cT1 tp lo sz wd msk len)), (4, zI G 12 (X4_take_cT2 tp lo sz wd msk len)), (6, zI G 5 ((X4_take_cT4 tp lo sz wd msk len) 0)), (7, zI G 5 ((X4_take_cT4 tp lo sz wd msk len) 1)), (8, zI G 5 ((X4_take_cT4 tp lo sz wd msk len) 2)), (9, zI G 5 ((X4_take_cT4 tp lo sz wd msk len) 3)), (10, zI G 5 ((X4_take_cT4 tp lo sz wd msk len) 4)), (11, zI G 5 ((X4_take_cT4 tp lo sz wd msk len) 5)), (12, zI G 5 ((X4_take_cT4 tp lo sz wd msk len) 6)), (13, zI G 5 ((X4_take_cT4 tp lo sz wd msk len) 7)), (14, zI G 5 ((X4_take_cT4 tp lo sz wd msk len) 8)), (15, zI G 5 ((X4_take_cT4 tp lo sz wd msk len) 9)), (16, zI G 5 ((X4_take_cT4 tp lo sz wd msk len) 10)), (17, zI G 5 ((X4_take_cT4 tp lo sz wd msk len) 11)), (18, zI G 12 (X4_take_cT16 tp lo sz wd msk len))])) (B := (X4_take_L22_B tp)) (F := (X4_take_L22_F tp)) (n := len) (fun _ a => txI a.1 a.2.1 a.2.2.2.1 a.2.2.2.2.1 a.2.2.2.2.2.1) (fun i a hi h hB => by
        unfold X4_take_L22_B at hB
        unfold X4_take_L22_F
        split at hB
        · rename_i c
          split at hB
          · cases hB
          · rename_i c2
            rw [if_pos c, if_neg c2]
            exact ends_I h
        · rename_i c
          split at hB
          · cases hB
          · rename_i c2
            rw [if_neg c, if_neg c2]
            exact adds_I h c2) ?_ len 0 (0, 0, 0, nI 0, lo, sz, wd, msk) (by omega) ⟨Nat.le_of_ble_eq_true rfl, Nat.le_of_ble_eq_true rfl, fun q => absurd rfl q, fun j h => absurd h (Nat.not_lt_zero j), fun j h => absurd h (Nat.not_lt_zero j), fun i j h => absurd h (Nat.not_lt_zero i)⟩ ?_ ?_ _
  · intro i a9 hi hI Ko K
    obtain ⟨p1, l1, n1, w1, lo1, sz1, wd1, mk1⟩ := a9
    intro y4
    have hT : txI p1 l1 w1 lo1 sz1 := hI
    refine z_iload_n dX4_take_22 rfl rfl ?_
    refine z_iload_n dX4_take_23 rfl rfl ?_
    refine z_icmp_ge (tgt := 70) dX4_take_24 rfl (by decide) (fun c24 => ?_) (fun c24 => ?_)
    · exact absurd c24 (nI_ge hi (by omega))
    · refine z_iload_n dX4_take_27 rfl rfl ?_
      refine z_aload_n dX4_take_28 rfl rfl ?_
      refine z_alen dX4_take_29 rfl (Nat.le_of_ble_eq_true rfl) h1 ?_
      refine z_icmp_ge (tgt := 70) dX4_take_30 rfl (by decide) (fun c30 => ?_) (fun c30 => ?_)
      · exact absurd c30 (nI_ge (by omega) (by decide))
      · refine z_aload_n dX4_take_33 rfl rfl ?_
        refine z_iload_n dX4_take_34 rfl rfl ?_
        refine z_ialdN (j := i) dX4_take_35 rfl (Nat.le_of_ble_eq_true rfl) h1 (rfl) (by omega) (by decide) ?_
        refine z_bipush (v := nI 32) dX4_take_36 rfl (by decide) ?_
        refine z_icmp_ne (tgt := 48) dX4_take_38 rfl (by decide) (fun c38 => ?_) (fun c38 => ?_)
        · refine z_aload_n dX4_take_48 rfl rfl ?_
          refine z_aload_n dX4_take_49 rfl rfl ?_
          refine z_iload_n dX4_take_50 rfl rfl ?_
          refine z_ialdN (j := i) dX4_take_51 rfl (Nat.le_of_ble_eq_true rfl) h1 (rfl) (by omega) (by decide) ?_
          refine z_callVi (c_X4_addsLetter_2 G ex _ p1 l1 n1 w1 lo1 sz1 wd1 mk1 (tp i) hT.1 hT.2.1 hT.2.2.1 hT.2.2.2.1 (txI_room hT) rfl rfl rfl h5 (zw12 (P := fun l9 => zus g [(2, (oTxt G 2 (nI p1) (nI l1) (nI n1) w1)), (3, (zI G 10 lo1)), (4, (zI G 12 sz1)), (6, (zI G 5 (wd1 0))), (7, (zI G 5 (wd1 1))), (8, (zI G 5 (wd1 2))), (9, (zI G 5 (wd1 3))), (10, (zI G 5 (wd1 4))), (11, (zI G 5 (wd1 5))), (12, (zI G 5 (wd1 6))), (13, (zI G 5 (wd1 7))), (14, (zI G 5 (wd1 8))), (15, (zI G 5 (wd1 9))), (16, (zI G 5 (wd1 10))), (17, (zI G 5 (wd1 11))), (18, (zI G 12 mk1))] (6 + l9) = zI G 5 (wd1 l9)) rfl rfl rfl rfl rfl rfl rfl rfl rfl rfl rfl rfl) rfl) gX4_take_X4_addsLetter rfl dX4_take_52 rfl rfl rfl okk_X4_addsLetter (Nat.le_of_ble_eq_true rfl) rfl rfl ⟨Nat.le_of_ble_eq_true rfl, Nat.le_of_ble_eq_true rfl⟩ ⟨Nat.le_of_ble_eq_true rfl, Nat.le_of_ble_eq_true rfl⟩ (Nat.le_of_ble_eq_true rfl) ?_
          refine z_nn (L' := [(2, (oTxt G 2 (nI (X4_addsLetter_pT0_0 p1 l1 n1 w1 lo1 sz1 mk1 (tp i))) (nI (X4_addsLetter_pT0_1 p1 l1 n1 w1 lo1 sz1 mk1 (tp i))) (nI (X4_addsLetter_pT0_2 p1 l1 n1 w1 lo1 sz1 mk1 (tp i))) (X4_addsLetter_pT0_3 p1 l1 n1 w1 lo1 sz1 mk1 (tp i)))), (3, (zI G 10 (X4_addsLetter_cT1 p1 l1 n1 w1 lo1 sz1 mk1 (tp i)))), (4, (zI G 12 (X4_addsLetter_cT2 p1 l1 n1 w1 lo1 sz1 mk1 (tp i)))), (6, (zI G 5 ((X4_addsLetter_cT4 p1 l1 n1 w1 lo1 sz1 wd1 mk1 (tp i)) 0))), (7, (zI G 5 ((X4_addsLetter_cT4 p1 l1 n1 w1 lo1 sz1 wd1 mk1 (tp i)) 1))), (8, (zI G 5 ((X4_addsLetter_cT4 p1 l1 n1 w1 lo1 sz1 wd1 mk1 (tp i)) 2))), (9, (zI G 5 ((X4_addsLetter_cT4 p1 l1 n1 w1 lo1 sz1 wd1 mk1 (tp i)) 3))), (10, (zI G 5 ((X4_addsLetter_cT4 p1 l1 n1 w1 lo1 sz1 wd1 mk1 (tp i)) 4))), (11, (zI G 5 ((X4_addsLetter_cT4 p1 l1 n1 w1 lo1 sz1 wd1 mk1 (tp i)) 5))), (12, (zI G 5 ((X4_addsLetter_cT4 p1 l1 n1 w1 lo1 sz1 wd1 mk1 (tp i)) 6))), (13, (zI G 5 ((X4_addsLetter_cT4 p1 l1 n1 w1 lo1 sz1 wd1 mk1 (tp i)) 7))), (14, (zI G 5 ((X4_addsLetter_cT4 p1 l1 n1 w1 lo1 sz1 wd1 mk1 (tp i)) 8))), (15, (zI G 5 ((X4_addsLetter_cT4 p1 l1 n1 w1 lo1 sz1 wd1 mk1 (tp i)) 9))), (16, (zI G 5 ((X4_addsLetter_cT4 p1 l1 n1 w1 lo1 sz1 wd1 mk1 (tp i)) 10))), (17, (zI G 5 ((X4_addsLetter_cT4 p1 l1 n1 w1 lo1 sz1 wd1 mk1 (tp i)) 11))), (18, (zI G 12 (X4_addsLetter_cT16 p1 l1 n1 w1 lo1 sz1 mk1 (tp i))))]) rfl ?_
          refine z_istore_4 dX4_take_55 rfl ?_
          refine z_iload dX4_take_57 rfl rfl ?_
          refine z_if_ne (tgt := 64) dX4_take_59 rfl (by decide) (fun c59 => ?_) (fun c59 => ?_)
          · refine z_iinc_3 (v := nI (i + 1)) dX4_take_64 rfl (zinc _) ?_
            refine z_goto (tgt := 22) dX4_take_67 (by decide) ?_
            have K9 := (K (by simp only [X4_take_L22_B, if_neg c38, if_neg c59]))
            try simp only [X4_take_L22_F, if_neg c38, if_neg c59] at K9
            exact K9 _
          · refine z_iload_n dX4_take_62 rfl rfl ?_
            exact z_ireturn dX4_take_63 rfl rfl (Nat.le_refl _) (Nat.le_refl _) (fun _ => rfl) (Ko (nI i, X4_addsLetter_pT0_0 p1 l1 n1 w1 lo1 sz1 mk1 (tp i), X4_addsLetter_pT0_1 p1 l1 n1 w1 lo1 sz1 mk1 (tp i), X4_addsLetter_pT0_2 p1 l1 n1 w1 lo1 sz1 mk1 (tp i), X4_addsLetter_pT0_3 p1 l1 n1 w1 lo1 sz1 mk1 (tp i), X4_addsLetter_cT1 p1 l1 n1 w1 lo1 sz1 mk1 (tp i), X4_addsLetter_cT2 p1 l1 n1 w1 lo1 sz1 mk1 (tp i), X4_addsLetter_cT4 p1 l1 n1 w1 lo1 sz1 wd1 mk1 (tp i), X4_addsLetter_cT16 p1 l1 n1 w1 lo1 sz1 mk1 (tp i)) (by simp only [X4_take_L22_B, if_neg c38, if_pos c59]))
        · refine z_aload_n dX4_take_41 rfl rfl ?_
          refine z_callVi (c_X4_endsWord_2 G ex _ p1 l1 n1 w1 sz1 hT.2.1 hT.2.2.1 rfl rfl) gX4_take_X4_endsWord rfl dX4_take_42 rfl rfl rfl okk_X4_endsWord (Nat.le_of_ble_eq_true rfl) rfl rfl ⟨Nat.le_of_ble_eq_true rfl, Nat.le_of_ble_eq_true rfl⟩ ⟨Nat.le_of_ble_eq_true rfl, Nat.le_of_ble_eq_true rfl⟩ (Nat.le_of_ble_eq_true rfl) ?_
          refine z_nn (L' := [(2, (oTxt G 2 (nI p1) (nI l1) (nI n1) (X4_endsWord_pT0_3 l1 w1 sz1))), (3, (zI G 10 lo1)), (4, (zI G 12 sz1)), (6, (zI G 5 (wd1 0))), (7, (zI G 5 (wd1 1))), (8, (zI G 5 (wd1 2))), (9, (zI G 5 (wd1 3))), (10, (zI G 5 (wd1 4))), (11, (zI G 5 (wd1 5))), (12, (zI G 5 (wd1 6))), (13, (zI G 5 (wd1 7))), (14, (zI G 5 (wd1 8))), (15, (zI G 5 (wd1 9))), (16, (zI G 5 (wd1 10))), (17, (zI G 5 (wd1 11))), (18, (zI G 12 mk1))]) rfl ?_
          refine z_goto (tgt := 55) dX4_take_45 (by decide) ?_
          refine z_istore_4 dX4_take_55 rfl ?_
          refine z_iload dX4_take_57 rfl rfl ?_
          refine z_if_ne (tgt := 64) dX4_take_59 rfl (by decide) (fun c59 => ?_) (fun c59 => ?_)
          · refine z_iinc_3 (v := nI (i + 1)) dX4_take_64 rfl (zinc _) ?_
            refine z_goto (tgt := 22) dX4_take_67 (by decide) ?_
            have K9 := (K (by simp only [X4_take_L22_B, if_pos c38, if_neg c59]))
            try simp only [X4_take_L22_F, if_pos c38, if_neg c59] at K9
            exact K9 _
          · refine z_iload_n dX4_take_62 rfl rfl ?_
            exact z_ireturn dX4_take_63 rfl rfl (Nat.le_refl _) (Nat.le_refl _) (fun _ => rfl) (Ko (nI i, p1, l1, n1, X4_endsWord_pT0_3 l1 w1 sz1, lo1, sz1, wd1, mk1) (by simp only [X4_take_L22_B, if_pos c38, if_pos c59]))
  · intro b a9 hz22
    exact ⟨by simp only [X4_take_v, hz22, zpick_s], by simp only [X4_take_pT0_0, X4_take_pT0_1, X4_take_pT0_2, X4_take_pT0_3, X4_take_cT1, X4_take_cT2, X4_take_cT4, X4_take_cT16, hz22, zpick_s]⟩
  · intro a9 hz22 hI
    obtain ⟨p1, l1, n1, w1, lo1, sz1, wd1, mk1⟩ := a9
    intro y4
    have hT : txI p1 l1 w1 lo1 sz1 := hI
    refine z_iload_n dX4_take_22 rfl rfl ?_
    refine z_iload_n dX4_take_23 rfl rfl ?_
    refine z_icmp_ge (tgt := 70) dX4_take_24 rfl (by decide) (fun c24 => ?_) (fun c24 => ?_)
    · refine z_aload_n dX4_take_70 rfl rfl ?_
      refine z_callVi (c_X4_endsWord_2 G ex _ p1 l1 n1 w1 sz1 hT.2.1 hT.2.2.1 rfl rfl) gX4_take_X4_endsWord rfl dX4_take_71 rfl rfl rfl okk_X4_endsWord (Nat.le_of_ble_eq_true rfl) rfl rfl ⟨Nat.le_of_ble_eq_true rfl, Nat.le_of_ble_eq_true rfl⟩ ⟨Nat.le_of_ble_eq_true rfl, Nat.le_of_ble_eq_true rfl⟩ (Nat.le_of_ble_eq_true rfl) ?_
      refine z_nn (L' := [(2, (oTxt G 2 (nI p1) (nI l1) (nI n1) (X4_endsWord_pT0_3 l1 w1 sz1))), (3, (zI G 10 lo1)), (4, (zI G 12 sz1)), (6, (zI G 5 (wd1 0))), (7, (zI G 5 (wd1 1))), (8, (zI G 5 (wd1 2))), (9, (zI G 5 (wd1 3))), (10, (zI G 5 (wd1 4))), (11, (zI G 5 (wd1 5))), (12, (zI G 5 (wd1 6))), (13, (zI G 5 (wd1 7))), (14, (zI G 5 (wd1 8))), (15, (zI G 5 (wd1 9))), (16, (zI G 5 (wd1 10))), (17, (zI G 5 (wd1 11))), (18, (zI G 12 mk1))]) rfl ?_
      refine z_if_eq (tgt := 88) dX4_take_74 rfl (by decide) (fun c74 => ?_) (fun c74 => ?_)
      · refine z_iload_n dX4_take_88 rfl rfl ?_
        exact z_ireturn dX4_take_89 rfl rfl (Nat.le_refl _) (Nat.le_refl _) (fun _ => rfl) ⟨by simp only [X4_take_v, hz22, zpick_n, if_pos c74], by simp only [X4_take_pT0_0, X4_take_pT0_1, X4_take_pT0_2, X4_take_pT0_3, X4_take_cT1, X4_take_cT2, X4_take_cT4, X4_take_cT16, hz22, zpick_n, if_pos c74]⟩
      · refine z_aload_n dX4_take_77 rfl rfl ?_
        refine z_get dX4_take_78 rfl hiX4_take_X4 1 lkX4_take_15 (Nat.le_of_ble_eq_true rfl) rfl rfl (by decide) rfl ?_
        refine z_if_le (tgt := 88) dX4_take_81 rfl (by decide) (fun c81 => ?_) (fun c81 => ?_)
        · refine z_iload_n dX4_take_88 rfl rfl ?_
          exact z_ireturn dX4_take_89 rfl rfl (Nat.le_refl _) (Nat.le_refl _) (fun _ => rfl) ⟨by simp only [X4_take_v, hz22, zpick_n, if_neg c74, if_pos c81], by simp only [X4_take_pT0_0, X4_take_pT0_1, X4_take_pT0_2, X4_take_pT0_3, X4_take_cT1, X4_take_cT2, X4_take_cT4, X4_take_cT16, hz22, zpick_n, if_neg c74, if_pos c81]⟩
        · refine z_iconst (v := (-1)) dX4_take_84 rfl (by decide) ?_
          refine z_goto (tgt := 89) dX4_take_85 (by decide) ?_
          exact z_ireturn dX4_take_89 rfl rfl (Nat.le_refl _) (Nat.le_refl _) (fun _ => rfl) ⟨by simp only [X4_take_v, hz22, zpick_n, if_neg c74, if_neg c81], by simp only [X4_take_pT0_0, X4_take_pT0_1, X4_take_pT0_2, X4_take_pT0_3, X4_take_cT1, X4_take_cT2, X4_take_cT4, X4_take_cT16, hz22, zpick_n, if_neg c74, if_neg c81]⟩
    · exact absurd (nI_le (Nat.le_refl _) (by omega)) c24
set_option maxRecDepth 100000 in
set_option maxHeartbeats 4000000 in
theorem c_X4_take_19 (G : zG) (ex : Bool) (g : Nat → va_E) (pt0 ln0 lt0 iw0 : Int32) (tp : Nat → Int32) (lo sz : Nat → Int32) (wd : Nat → Nat → Int32) (msk : Nat → Int32) (len : Nat) (hlen : len ≤ 80) (h19 : g 19 = (oTxt G 19 pt0 ln0 lt0 iw0)) (h1 : g 1 = (zI G 80 tp)) (h20 : g 20 = (zI G 10 lo)) (h21 : g 21 = (zI G 12 sz)) (h22 : g 22 = (zR G 12 (zrw G 12 23))) (h23 : ∀ l9, l9 < 12 → g (23 + l9) = zI G 5 (wd l9)) (h35 : g 35 = (zI G 12 msk)) : zC G yX4_take wsX4_take (zrm 3 67) ex [.ref (zB G + 19), .ref (zB G + 1), .int (nI len)] (zN, g) (fun r h => r = some (.int (X4_take_v tp lo sz wd msk len)) ∧ h = (zN, zus g [(19, (oTxt G 19 (nI (X4_take_pT0_0 tp lo sz wd msk len)) (nI (X4_take_pT0_1 tp lo sz wd msk len)) (nI (X4_take_pT0_2 tp lo sz wd msk len)) (X4_take_pT0_3 tp lo sz wd msk len))), (20, zI G 10 (X4_take_cT1 tp lo sz wd msk len)), (21, zI G 12 (X4_take_cT2 tp lo sz wd msk len)), (23, zI G 5 ((X4_take_cT4 tp lo sz wd msk len) 0)), (24, zI G 5 ((X4_take_cT4 tp lo sz wd msk len) 1)), (25, zI G 5 ((X4_take_cT4 tp lo sz wd msk len) 2)), (26, zI G 5 ((X4_take_cT4 tp lo sz wd msk len) 3)), (27, zI G 5 ((X4_take_cT4 tp lo sz wd msk len) 4)), (28, zI G 5 ((X4_take_cT4 tp lo sz wd msk len) 5)), (29, zI G 5 ((X4_take_cT4 tp lo sz wd msk len) 6)), (30, zI G 5 ((X4_take_cT4 tp lo sz wd msk len) 7)), (31, zI G 5 ((X4_take_cT4 tp lo sz wd msk len) 8)), (32, zI G 5 ((X4_take_cT4 tp lo sz wd msk len) 9)), (33, zI G 5 ((X4_take_cT4 tp lo sz wd msk len) 10)), (34, zI G 5 ((X4_take_cT4 tp lo sz wd msk len) 11)), (35, zI G 12 (X4_take_cT16 tp lo sz wd msk len))])) := by
  refine zC_of mX4_take (lv := [some (.ref (zB G + 19)), some (.ref (zB G + 1)), some (.int (nI len)), none, none]) rfl rfl (by decide) (by intro v hv; simp at hv; rcases hv with rfl | rfl | rfl <;> rfl) (Nat.le_of_ble_eq_true rfl) rfl ?_
  refine z_0 ?_
  refine z_heap (g' := zu (zus g []) 19 (oTxt G 19 pt0 ln0 lt0 iw0)) (zu_self (zus g []) 19 _ h19).symm ?_
  refine z_n (L' := [(19, (oTxt G 19 pt0 ln0 lt0 iw0))]) rfl ?_
  refine z_heap (g' := zu (zus g [(19, (oTxt G 19 pt0 ln0 lt0 iw0))]) 20 (zI G 10 lo)) (zu_self (zus g [(19, (oTxt G 19 pt0 ln0 lt0 iw0))]) 20 _ h20).symm ?_
  refine z_n (L' := [(19, (oTxt G 19 pt0 ln0 lt0 iw0)), (20, (zI G 10 lo))]) rfl ?_
  refine z_heap (g' := zu (zus g [(19, (oTxt G 19 pt0 ln0 lt0 iw0)), (20, (zI G 10 lo))]) 21 (zI G 12 sz)) (zu_self (zus g [(19, (oTxt G 19 pt0 ln0 lt0 iw0)), (20, (zI G 10 lo))]) 21 _ h21).symm ?_
  refine z_n (L' := [(19, (oTxt G 19 pt0 ln0 lt0 iw0)), (20, (zI G 10 lo)), (21, (zI G 12 sz))]) rfl ?_
  refine z_heap (g' := zu (zus g [(19, (oTxt G 19 pt0 ln0 lt0 iw0)), (20, (zI G 10 lo)), (21, (zI G 12 sz))]) 23 (zI G 5 (wd 0))) (zu_self (zus g [(19, (oTxt G 19 pt0 ln0 lt0 iw0)), (20, (zI G 10 lo)), (21, (zI G 12 sz))]) 23 _ (h23 0 (by decide))).symm ?_
  refine z_n (L' := [(19, (oTxt G 19 pt0 ln0 lt0 iw0)), (20, (zI G 10 lo)), (21, (zI G 12 sz)), (23, (zI G 5 (wd 0)))]) rfl ?_
  refine z_heap (g' := zu (zus g [(19, (oTxt G 19 pt0 ln0 lt0 iw0)), (20, (zI G 10 lo)), (21, (zI G 12 sz)), (23, (zI G 5 (wd 0)))]) 24 (zI G 5 (wd 1))) (zu_self (zus g [(19, (oTxt G 19 pt0 ln0 lt0 iw0)), (20, (zI G 10 lo)), (21, (zI G 12 sz)), (23, (zI G 5 (wd 0)))]) 24 _ (h23 1 (by decide))).symm ?_
  refine z_n (L' := [(19, (oTxt G 19 pt0 ln0 lt0 iw0)), (20, (zI G 10 lo)), (21, (zI G 12 sz)), (23, (zI G 5 (wd 0))), (24, (zI G 5 (wd 1)))]) rfl ?_
  refine z_heap (g' := zu (zus g [(19, (oTxt G 19 pt0 ln0 lt0 iw0)), (20, (zI G 10 lo)), (21, (zI G 12 sz)), (23, (zI G 5 (wd 0))), (24, (zI G 5 (wd 1)))]) 25 (zI G 5 (wd 2))) (zu_self (zus g [(19, (oTxt G 19 pt0 ln0 lt0 iw0)), (20, (zI G 10 lo)), (21, (zI G 12 sz)), (23, (zI G 5 (wd 0))), (24, (zI G 5 (wd 1)))]) 25 _ (h23 2 (by decide))).symm ?_
  refine z_n (L' := [(19, (oTxt G 19 pt0 ln0 lt0 iw0)), (20, (zI G 10 lo)), (21, (zI G 12 sz)), (23, (zI G 5 (wd 0))), (24, (zI G 5 (wd 1))), (25, (zI G 5 (wd 2)))]) rfl ?_
  refine z_heap (g' := zu (zus g [(19, (oTxt G 19 pt0 ln0 lt0 iw0)), (20, (zI G 10 lo)), (21, (zI G 12 sz)), (23, (zI G 5 (wd 0))), (24, (zI G 5 (wd 1))), (25, (zI G 5 (wd 2)))]) 26 (zI G 5 (wd 3))) (zu_self (zus g [(19, (oTxt G 19 pt0 ln0 lt0 iw0)), (20, (zI G 10 lo)), (21, (zI G 12 sz)), (23, (zI G 5 (wd 0))), (24, (zI G 5 (wd 1))), (25, (zI G 5 (wd 2)))]) 26 _ (h23 3 (by decide))).symm ?_
  refine z_n (L' := [(19, (oTxt G 19 pt0 ln0 lt0 iw0)), (20, (zI G 10 lo)), (21, (zI G 12 sz)), (23, (zI G 5 (wd 0))), (24, (zI G 5 (wd 1))), (25, (zI G 5 (wd 2))), (26, (zI G 5 (wd 3)))]) rfl ?_
  refine z_heap (g' := zu (zus g [(19, (oTxt G 19 pt0 ln0 lt0 iw0)), (20, (zI G 10 lo)), (21, (zI G 12 sz)), (23, (zI G 5 (wd 0))), (24, (zI G 5 (wd 1))), (25, (zI G 5 (wd 2))), (26, (zI G 5 (wd 3)))]) 27 (zI G 5 (wd 4))) (zu_self (zus g [(19, (oTxt G 19 pt0 ln0 lt0 iw0)), (20, (zI G 10 lo)), (21, (zI G 12 sz)), (23, (zI G 5 (wd 0))), (24, (zI G 5 (wd 1))), (25, (zI G 5 (wd 2))), (26, (zI G 5 (wd 3)))]) 27 _ (h23 4 (by decide))).symm ?_
  refine z_n (L' := [(19, (oTxt G 19 pt0 ln0 lt0 iw0)), (20, (zI G 10 lo)), (21, (zI G 12 sz)), (23, (zI G 5 (wd 0))), (24, (zI G 5 (wd 1))), (25, (zI G 5 (wd 2))), (26, (zI G 5 (wd 3))), (27, (zI G 5 (wd 4)))]) rfl ?_
  refine z_heap (g' := zu (zus g [(19, (oTxt G 19 pt0 ln0 lt0 iw0)), (20, (zI G 10 lo)), (21, (zI G 12 sz)), (23, (zI G 5 (wd 0))), (24, (zI G 5 (wd 1))), (25, (zI G 5 (wd 2))), (26, (zI G 5 (wd 3))), (27, (zI G 5 (wd 4)))]) 28 (zI G 5 (wd 5))) (zu_self (zus g [(19, (oTxt G 19 pt0 ln0 lt0 iw0)), (20, (zI G 10 lo)), (21, (zI G 12 sz)), (23, (zI G 5 (wd 0))), (24, (zI G 5 (wd 1))), (25, (zI G 5 (wd 2))), (26, (zI G 5 (wd 3))), (27, (zI G 5 (wd 4)))]) 28 _ (h23 5 (by decide))).symm ?_
  refine z_n (L' := [(19, (oTxt G 19 pt0 ln0 lt0 iw0)), (20, (zI G 10 lo)), (21, (zI G 12 sz)), (23, (zI G 5 (wd 0))), (24, (zI G 5 (wd 1))), (25, (zI G 5 (wd 2))), (26, (zI G 5 (wd 3))), (27, (zI G 5 (wd 4))), (28, (zI G 5 (wd 5)))]) rfl ?_
  refine z_heap (g' := zu (zus g [(19, (oTxt G 19 pt0 ln0 lt0 iw0)), (20, (zI G 10 lo)), (21, (zI G 12 sz)), (23, (zI G 5 (wd 0))), (24, (zI G 5 (wd 1))), (25, (zI G 5 (wd 2))), (26, (zI G 5 (wd 3))), (27, (zI G 5 (wd 4))), (28, (zI G 5 (wd 5)))]) 29 (zI G 5 (wd 6))) (zu_self (zus g [(19, (oTxt G 19 pt0 ln0 lt0 iw0)), (20, (zI G 10 lo)), (21, (zI G 12 sz)), (23, (zI G 5 (wd 0))), (24, (zI G 5 (wd 1))), (25, (zI G 5 (wd 2))), (26, (zI G 5 (wd 3))), (27, (zI G 5 (wd 4))), (28, (zI G 5 (wd 5)))]) 29 _ (h23 6 (by decide))).symm ?_
  refine z_n (L' := [(19, (oTxt G 19 pt0 ln0 lt0 iw0)), (20, (zI G 10 lo)), (21, (zI G 12 sz)), (23, (zI G 5 (wd 0))), (24, (zI G 5 (wd 1))), (25, (zI G 5 (wd 2))), (26, (zI G 5 (wd 3))), (27, (zI G 5 (wd 4))), (28, (zI G 5 (wd 5))), (29, (zI G 5 (wd 6)))]) rfl ?_
  refine z_heap (g' := zu (zus g [(19, (oTxt G 19 pt0 ln0 lt0 iw0)), (20, (zI G 10 lo)), (21, (zI G 12 sz)), (23, (zI G 5 (wd 0))), (24, (zI G 5 (wd 1))), (25, (zI G 5 (wd 2))), (26, (zI G 5 (wd 3))), (27, (zI G 5 (wd 4))), (28, (zI G 5 (wd 5))), (29, (zI G 5 (wd 6)))]) 30 (zI G 5 (wd 7))) (zu_self (zus g [(19, (oTxt G 19 pt0 ln0 lt0 iw0)), (20, (zI G 10 lo)), (21, (zI G 12 sz)), (23, (zI G 5 (wd 0))), (24, (zI G 5 (wd 1))), (25, (zI G 5 (wd 2))), (26, (zI G 5 (wd 3))), (27, (zI G 5 (wd 4))), (28, (zI G 5 (wd 5))), (29, (zI G 5 (wd 6)))]) 30 _ (h23 7 (by decide))).symm ?_
  refine z_n (L' := [(19, (oTxt G 19 pt0 ln0 lt0 iw0)), (20, (zI G 10 lo)), (21, (zI G 12 sz)), (23, (zI G 5 (wd 0))), (24, (zI G 5 (wd 1))), (25, (zI G 5 (wd 2))), (26, (zI G 5 (wd 3))), (27, (zI G 5 (wd 4))), (28, (zI G 5 (wd 5))), (29, (zI G 5 (wd 6))), (30, (zI G 5 (wd 7)))]) rfl ?_
  refine z_heap (g' := zu (zus g [(19, (oTxt G 19 pt0 ln0 lt0 iw0)), (20, (zI G 10 lo)), (21, (zI G 12 sz)), (23, (zI G 5 (wd 0))), (24, (zI G 5 (wd 1))), (25, (zI G 5 (wd 2))), (26, (zI G 5 (wd 3))), (27, (zI G 5 (wd 4))), (28, (zI G 5 (wd 5))), (29, (zI G 5 (wd 6))), (30, (zI G 5 (wd 7)))]) 31 (zI G 5 (wd 8))) (zu_self (zus g [(19, (oTxt G 19 pt0 ln0 lt0 iw0)), (20, (zI G 10 lo)), (21, (zI G 12 sz)), (23, (zI G 5 (wd 0))), (24, (zI G 5 (wd 1))), (25, (zI G 5 (wd 2))), (26, (zI G 5 (wd 3))), (27, (zI G 5 (wd 4))), (28, (zI G 5 (wd 5))), (29, (zI G 5 (wd 6))), (30, (zI G 5 (wd 7)))]) 31 _ (h23 8 (by decide))).symm ?_
  refine z_n (L' := [(19, (oTxt G 19 pt0 ln0 lt0 iw0)), (20, (zI G 10 lo)), (21, (zI G 12 sz)), (23, (zI G 5 (wd 0))), (24, (zI G 5 (wd 1))), (25, (zI G 5 (wd 2))), (26, (zI G 5 (wd 3))), (27, (zI G 5 (wd 4))), (28, (zI G 5 (wd 5))), (29, (zI G 5 (wd 6))), (30, (zI G 5 (wd 7))), (31, (zI G 5 (wd 8)))]) rfl ?_
  refine z_heap (g' := zu (zus g [(19, (oTxt G 19 pt0 ln0 lt0 iw0)), (20, (zI G 10 lo)), (21, (zI G 12 sz)), (23, (zI G 5 (wd 0))), (24, (zI G 5 (wd 1))), (25, (zI G 5 (wd 2))), (26, (zI G 5 (wd 3))), (27, (zI G 5 (wd 4))), (28, (zI G 5 (wd 5))), (29, (zI G 5 (wd 6))), (30, (zI G 5 (wd 7))), (31, (zI G 5 (wd 8)))]) 32 (zI G 5 (wd 9))) (zu_self (zus g [(19, (oTxt G 19 pt0 ln0 lt0 iw0)), (20, (zI G 10 lo)), (21, (zI G 12 sz)), (23, (zI G 5 (wd 0))), (24, (zI G 5 (wd 1))), (25, (zI G 5 (wd 2))), (26, (zI G 5 (wd 3))), (27, (zI G 5 (wd 4))), (28, (zI G 5 (wd 5))), (29, (zI G 5 (wd 6))), (30, (zI G 5 (wd 7))), (31, (zI G 5 (wd 8)))]) 32 _ (h23 9 (by decide))).symm ?_
  refine z_n (L' := [(19, (oTxt G 19 pt0 ln0 lt0 iw0)), (20, (zI G 10 lo)), (21, (zI G 12 sz)), (23, (zI G 5 (wd 0))), (24, (zI G 5 (wd 1))), (25, (zI G 5 (wd 2))), (26, (zI G 5 (wd 3))), (27, (zI G 5 (wd 4))), (28, (zI G 5 (wd 5))), (29, (zI G 5 (wd 6))), (30, (zI G 5 (wd 7))), (31, (zI G 5 (wd 8))), (32, (zI G 5 (wd 9)))]) rfl ?_
  refine z_heap (g' := zu (zus g [(19, (oTxt G 19 pt0 ln0 lt0 iw0)), (20, (zI G 10 lo)), (21, (zI G 12 sz)), (23, (zI G 5 (wd 0))), (24, (zI G 5 (wd 1))), (25, (zI G 5 (wd 2))), (26, (zI G 5 (wd 3))), (27, (zI G 5 (wd 4))), (28, (zI G 5 (wd 5))), (29, (zI G 5 (wd 6))), (30, (zI G 5 (wd 7))), (31, (zI G 5 (wd 8))), (32, (zI G 5 (wd 9)))]) 33 (zI G 5 (wd 10))) (zu_self (zus g [(19, (oTxt G 19 pt0 ln0 lt0 iw0)), (20, (zI G 10 lo)), (21, (zI G 12 sz)), (23, (zI G 5 (wd 0))), (24, (zI G 5 (wd 1))), (25, (zI G 5 (wd 2))), (26, (zI G 5 (wd 3))), (27, (zI G 5 (wd 4))), (28, (zI G 5 (wd 5))), (29, (zI G 5 (wd 6))), (30, (zI G 5 (wd 7))), (31, (zI G 5 (wd 8))), (32, (zI G 5 (wd 9)))]) 33 _ (h23 10 (by decide))).symm ?_
  refine z_n (L' := [(19, (oTxt G 19 pt0 ln0 lt0 iw0)), (20, (zI G 10 lo)), (21, (zI G 12 sz)), (23, (zI G 5 (wd 0))), (24, (zI G 5 (wd 1))), (25, (zI G 5 (wd 2))), (26, (zI G 5 (wd 3))), (27, (zI G 5 (wd 4))), (28, (zI G 5 (wd 5))), (29, (zI G 5 (wd 6))), (30, (zI G 5 (wd 7))), (31, (zI G 5 (wd 8))), (32, (zI G 5 (wd 9))), (33, (zI G 5 (wd 10)))]) rfl ?_
  refine z_heap (g' := zu (zus g [(19, (oTxt G 19 pt0 ln0 lt0 iw0)), (20, (zI G 10 lo)), (21, (zI G 12 sz)), (23, (zI G 5 (wd 0))), (24, (zI G 5 (wd 1))), (25, (zI G 5 (wd 2))), (26, (zI G 5 (wd 3))), (27, (zI G 5 (wd 4))), (28, (zI G 5 (wd 5))), (29, (zI G 5 (wd 6))), (30, (zI G 5 (wd 7))), (31, (zI G 5 (wd 8))), (32, (zI G 5 (wd 9))), (33, (zI G 5 (wd 10)))]) 34 (zI G 5 (wd 11))) (zu_self (zus g [(19, (oTxt G 19 pt0 ln0 lt0 iw0)), (20, (zI G 10 lo)), (21, (zI G 12 sz)), (23, (zI G 5 (wd 0))), (24, (zI G 5 (wd 1))), (25, (zI G 5 (wd 2))), (26, (zI G 5 (wd 3))), (27, (zI G 5 (wd 4))), (28, (zI G 5 (wd 5))), (29, (zI G 5 (wd 6))), (30, (zI G 5 (wd 7))), (31, (zI G 5 (wd 8))), (32, (zI G 5 (wd 9))), (33, (zI G 5 (wd 10)))]) 34 _ (h23 11 (by decide))).symm ?_
  refine z_n (L' := [(19, (oTxt G 19 pt0 ln0 lt0 iw0)), (20, (zI G 10 lo)), (21, (zI G 12 sz)), (23, (zI G 5 (wd 0))), (24, (zI G 5 (wd 1))), (25, (zI G 5 (wd 2))), (26, (zI G 5 (wd 3))), (27, (zI G 5 (wd 4))), (28, (zI G 5 (wd 5))), (29, (zI G 5 (wd 6))), (30, (zI G 5 (wd 7))), (31, (zI G 5 (wd 8))), (32, (zI G 5 (wd 9))), (33, (zI G 5 (wd 10))), (34, (zI G 5 (wd 11)))]) rfl ?_
  refine z_heap (g' := zu (zus g [(19, (oTxt G 19 pt0 ln0 lt0 iw0)), (20, (zI G 10 lo)), (21, (zI G 12 sz)), (23, (zI G 5 (wd 0))), (24, (zI G 5 (wd 1))), (25, (zI G 5 (wd 2))), (26, (zI G 5 (wd 3))), (27, (zI G 5 (wd 4))), (28, (zI G 5 (wd 5))), (29, (zI G 5 (wd 6))), (30, (zI G 5 (wd 7))), (31, (zI G 5 (wd 8))), (32, (zI G 5 (wd 9))), (33, (zI G 5 (wd 10))), (34, (zI G 5 (wd 11)))]) 35 (zI G 12 msk)) (zu_self (zus g [(19, (oTxt G 19 pt0 ln0 lt0 iw0)), (20, (zI G 10 lo)), (21, (zI G 12 sz)), (23, (zI G 5 (wd 0))), (24, (zI G 5 (wd 1))), (25, (zI G 5 (wd 2))), (26, (zI G 5 (wd 3))), (27, (zI G 5 (wd 4))), (28, (zI G 5 (wd 5))), (29, (zI G 5 (wd 6))), (30, (zI G 5 (wd 7))), (31, (zI G 5 (wd 8))), (32, (zI G 5 (wd 9))), (33, (zI G 5 (wd 10))), (34, (zI G 5 (wd 11)))]) 35 _ h35).symm ?_
  refine z_n (L' := [(19, (oTxt G 19 pt0 ln0 lt0 iw0)), (20, (zI G 10 lo)), (21, (zI G 12 sz)), (23, (zI G 5 (wd 0))), (24, (zI G 5 (wd 1))), (25, (zI G 5 (wd 2))), (26, (zI G 5 (wd 3))), (27, (zI G 5 (wd 4))), (28, (zI G 5 (wd 5))), (29, (zI G 5 (wd 6))), (30, (zI G 5 (wd 7))), (31, (zI G 5 (wd 8))), (32, (zI G 5 (wd 9))), (33, (zI G 5 (wd 10))), (34, (zI G 5 (wd 11))), (35, (zI G 12 msk))]) rfl ?_
  refine z_aload_n dX4_take_0 rfl rfl ?_
  refine z_iconst (v := nI 0) dX4_take_1 rfl (by decide) ?_
  refine z_putN (e9 := (oTxt G 19 (nI 0) ln0 lt0 iw0)) tyX4 tyX4_ok nmX4 dX4_take_2 rfl hiX4_take_X4 0 lkX4_take_9 rfl (by decide +kernel) (Nat.le_of_ble_eq_true rfl) rfl rfl (by decide) (Nat.le_of_ble_eq_true rfl) rfl rfl rfl ?_
  refine z_n (L' := [(19, (oTxt G 19 (nI 0) ln0 lt0 iw0)), (20, (zI G 10 lo)), (21, (zI G 12 sz)), (23, (zI G 5 (wd 0))), (24, (zI G 5 (wd 1))), (25, (zI G 5 (wd 2))), (26, (zI G 5 (wd 3))), (27, (zI G 5 (wd 4))), (28, (zI G 5 (wd 5))), (29, (zI G 5 (wd 6))), (30, (zI G 5 (wd 7))), (31, (zI G 5 (wd 8))), (32, (zI G 5 (wd 9))), (33, (zI G 5 (wd 10))), (34, (zI G 5 (wd 11))), (35, (zI G 12 msk))]) rfl ?_
  refine z_aload_n dX4_take_5 rfl rfl ?_
  refine z_iconst (v := nI 0) dX4_take_6 rfl (by decide) ?_
  refine z_putN (e9 := (oTxt G 19 (nI 0) (nI 0) lt0 iw0)) tyX4 tyX4_ok nmX4 dX4_take_7 rfl hiX4_take_X4 1 lkX4_take_15 rfl (by decide +kernel) (Nat.le_of_ble_eq_true rfl) rfl rfl (by decide) (Nat.le_of_ble_eq_true rfl) rfl rfl rfl ?_
  refine z_n (L' := [(19, (oTxt G 19 (nI 0) (nI 0) lt0 iw0)), (20, (zI G 10 lo)), (21, (zI G 12 sz)), (23, (zI G 5 (wd 0))), (24, (zI G 5 (wd 1))), (25, (zI G 5 (wd 2))), (26, (zI G 5 (wd 3))), (27, (zI G 5 (wd 4))), (28, (zI G 5 (wd 5))), (29, (zI G 5 (wd 6))), (30, (zI G 5 (wd 7))), (31, (zI G 5 (wd 8))), (32, (zI G 5 (wd 9))), (33, (zI G 5 (wd 10))), (34, (zI G 5 (wd 11))), (35, (zI G 12 msk))]) rfl ?_
  refine z_aload_n dX4_take_10 rfl rfl ?_
  refine z_iconst (v := nI 0) dX4_take_11 rfl (by decide) ?_
  refine z_putN (e9 := (oTxt G 19 (nI 0) (nI 0) (nI 0) iw0)) tyX4 tyX4_ok nmX4 dX4_take_12 rfl hiX4_take_X4 2 lkX4_take_18 rfl (by decide +kernel) (Nat.le_of_ble_eq_true rfl) rfl rfl (by decide) (Nat.le_of_ble_eq_true rfl) rfl rfl rfl ?_
  refine z_n (L' := [(19, (oTxt G 19 (nI 0) (nI 0) (nI 0) iw0)), (20, (zI G 10 lo)), (21, (zI G 12 sz)), (23, (zI G 5 (wd 0))), (24, (zI G 5 (wd 1))), (25, (zI G 5 (wd 2))), (26, (zI G 5 (wd 3))), (27, (zI G 5 (wd 4))), (28, (zI G 5 (wd 5))), (29, (zI G 5 (wd 6))), (30, (zI G 5 (wd 7))), (31, (zI G 5 (wd 8))), (32, (zI G 5 (wd 9))), (33, (zI G 5 (wd 10))), (34, (zI G 5 (wd 11))), (35, (zI G 12 msk))]) rfl ?_
  refine z_aload_n dX4_take_15 rfl rfl ?_
  refine z_iconst (v := nI 0) dX4_take_16 rfl (by decide) ?_
  refine z_putN (e9 := (oTxt G 19 (nI 0) (nI 0) (nI 0) (nI 0))) tyX4 tyX4_ok nmX4 dX4_take_17 rfl hiX4_take_X4 7 lkX4_take_36 rfl (by decide +kernel) (Nat.le_of_ble_eq_true rfl) rfl rfl (by decide) (Nat.le_of_ble_eq_true rfl) rfl rfl rfl ?_
  refine z_n (L' := [(19, (oTxt G 19 (nI 0) (nI 0) (nI 0) (nI 0))), (20, (zI G 10 lo)), (21, (zI G 12 sz)), (23, (zI G 5 (wd 0))), (24, (zI G 5 (wd 1))), (25, (zI G 5 (wd 2))), (26, (zI G 5 (wd 3))), (27, (zI G 5 (wd 4))), (28, (zI G 5 (wd 5))), (29, (zI G 5 (wd 6))), (30, (zI G 5 (wd 7))), (31, (zI G 5 (wd 8))), (32, (zI G 5 (wd 9))), (33, (zI G 5 (wd 10))), (34, (zI G 5 (wd 11))), (35, (zI G 12 msk))]) rfl ?_
  refine z_iconst (v := nI 0) dX4_take_20 rfl (by decide) ?_
  refine z_istore_3 dX4_take_21 rfl ?_
  refine z_forB (head := fun i (st9 : (Nat) × (Nat) × (Nat) × (Int32) × (Nat → Int32) × (Nat → Int32) × (Nat → Nat → Int32) × (Nat → Int32)) => ∀ y4 : Option Value, Z G mX4_take (zrm 3 67) ex _ 22 [some (.ref (zB G + 19)), some (.ref (zB G + 1)), some (.int (nI len)), some (.int (nI i)), y4] [] (zN, zus g [(19, (oTxt G 19 (nI st9.1) (nI st9.2.1) (nI st9.2.2.1) st9.2.2.2.1)), (20, (zI G 10 st9.2.2.2.2.1)), (21, (zI G 12 st9.2.2.2.2.2.1)), (23, (zI G 5 (st9.2.2.2.2.2.2.1 0))), (24, (zI G 5 (st9.2.2.2.2.2.2.1 1))), (25, (zI G 5 (st9.2.2.2.2.2.2.1 2))), (26, (zI G 5 (st9.2.2.2.2.2.2.1 3))), (27, (zI G 5 (st9.2.2.2.2.2.2.1 4))), (28, (zI G 5 (st9.2.2.2.2.2.2.1 5))), (29, (zI G 5 (st9.2.2.2.2.2.2.1 6))), (30, (zI G 5 (st9.2.2.2.2.2.2.1 7))), (31, (zI G 5 (st9.2.2.2.2.2.2.1 8))), (32, (zI G 5 (st9.2.2.2.2.2.2.1 9))), (33, (zI G 5 (st9.2.2.2.2.2.2.1 10))), (34, (zI G 5 (st9.2.2.2.2.2.2.1 11))), (35, (zI G 12 st9.2.2.2.2.2.2.2))]) 0 0) (out := fun b _ => (some (Value.int b.1) = some (Value.int (X4_take_v tp lo sz wd msk len))) ∧ ((zN, zus g [(19, (oTxt G 19 (nI b.2.1) (nI b.2.2.1) (nI b.2.2.2.1) b.2.2.2.2.1)), (20, (zI G 10 b.2.2.2.2.2.1)), (21, (zI G 12 b.2.2.2.2.2.2.1)), (23, (zI G 5 (b.2.2.2.2.2.2.2.1 0))), (24, (zI G 5 (b.2.2.2.2.2.2.2.1 1))), (25, (zI G 5 (b.2.2.2.2.2.2.2.1 2))), (26, (zI G 5 (b.2.2.2.2.2.2.2.1 3))), (27, (zI G 5 (b.2.2.2.2.2.2.2.1 4))), (28, (zI G 5 (b.2.2.2.2.2.2.2.1 5))), (29, (zI G 5 (b.2.2.2.2.2.2.2.1 6))), (30, (zI G 5 (b.2.2.2.2.2.2.2.1 7))), (31, (zI G 5 (b.2.2.2.2.2.2.2.1 8))), (32, (zI G 5 (b.2.2.2.2.2.2.2.1 9))), (33, (zI G 5 (b.2.2.2.2.2.2.2.1 10))), (34, (zI G 5 (b.2.2.2.2.2.2.2.1 11))), (35, (zI G 12 b.2.2.2.2.2.2.2.2))]) : zAH) = (zN, zus g [(19, (oTxt G 19 (nI (X4_take_pT0_0 tp lo sz wd msk len)) (nI (X4_take_pT0_1 tp lo sz wd msk len)) (nI (X4_take_pT0_2 tp lo sz wd msk len)) (X4_take_pT0_3 tp lo sz wd msk len))), (20, zI G 10 (X4_take_cT1 tp lo sz wd msk len)), (21, zI G 12 (X4_take_cT2 tp lo sz wd msk len)), (23, zI G 5 ((X4_take_cT4 tp lo sz wd msk len) 0)), (24, zI G 5 ((X4_take_cT4 tp lo sz wd msk len) 1)), (25, zI G 5 ((X4_take_cT4 tp lo sz wd msk len) 2)), (26, zI G 5 ((X4_take_cT4 tp lo sz wd msk len) 3)), (27, zI G 5 ((X4_take_cT4 tp lo sz wd msk len) 4)), (28, zI G 5 ((X4_take_cT4 tp lo sz wd msk len) 5)), (29, zI G 5 ((X4_take_cT4 tp lo sz wd msk len) 6)), (30, zI G 5 ((X4_take_cT4 tp lo sz wd msk len) 7)), (31, zI G 5 ((X4_take_cT4 tp lo sz wd msk len) 8)), (32, zI G 5 ((X4_take_cT4 tp lo sz wd msk len) 9)), (33, zI G 5 ((X4_take_cT4 tp lo sz wd msk len) 10)), (34, zI G 5 ((X4_take_cT4 tp lo sz wd msk len) 11)), (35, zI G 12 (X4_take_cT16 tp lo sz wd msk len))])) (B := (X4_take_L22_B tp)) (F := (X4_take_L22_F tp)) (n := len) (fun _ a => txI a.1 a.2.1 a.2.2.2.1 a.2.2.2.2.1 a.2.2.2.2.2.1) (fun i a hi h hB => by
        unfold X4_take_L22_B at hB
        unfold X4_take_L22_F
        split at hB
        · rename_i c
          split at hB
          · cases hB
          · rename_i c2
            rw [if_pos c, if_neg c2]
            exact ends_I h
        · rename_i c
          split at hB
          · cases hB
          · rename_i c2
            rw [if_neg c, if_neg c2]
            exact adds_I h c2) ?_ len 0 (0, 0, 0, nI 0, lo, sz, wd, msk) (by omega) ⟨Nat.le_of_ble_eq_true rfl, Nat.le_of_ble_eq_true rfl, fun q => absurd rfl q, fun j h => absurd h (Nat.not_lt_zero j), fun j h => absurd h (Nat.not_lt_zero j), fun i j h => absurd h (Nat.not_lt_zero i)⟩ ?_ ?_ _
  · intro i a9 hi hI Ko K
    obtain ⟨p1, l1, n1, w1, lo1, sz1, wd1, mk1⟩ := a9
    intro y4
    have hT : txI p1 l1 w1 lo1 sz1 := hI
    refine z_iload_n dX4_take_22 rfl rfl ?_
    refine z_iload_n dX4_take_23 rfl rfl ?_
    refine z_icmp_ge (tgt := 70) dX4_take_24 rfl (by decide) (fun c24 => ?_) (fun c24 => ?_)
    · exact absurd c24 (nI_ge hi (by omega))
    · refine z_iload_n dX4_take_27 rfl rfl ?_
      refine z_aload_n dX4_take_28 rfl rfl ?_
      refine z_alen dX4_take_29 rfl (Nat.le_of_ble_eq_true rfl) h1 ?_
      refine z_icmp_ge (tgt := 70) dX4_take_30 rfl (by decide) (fun c30 => ?_) (fun c30 => ?_)
      · exact absurd c30 (nI_ge (by omega) (by decide))
      · refine z_aload_n dX4_take_33 rfl rfl ?_
        refine z_iload_n dX4_take_34 rfl rfl ?_
        refine z_ialdN (j := i) dX4_take_35 rfl (Nat.le_of_ble_eq_true rfl) h1 (rfl) (by omega) (by decide) ?_
        refine z_bipush (v := nI 32) dX4_take_36 rfl (by decide) ?_
        refine z_icmp_ne (tgt := 48) dX4_take_38 rfl (by decide) (fun c38 => ?_) (fun c38 => ?_)
        · refine z_aload_n dX4_take_48 rfl rfl ?_
          refine z_aload_n dX4_take_49 rfl rfl ?_
          refine z_iload_n dX4_take_50 rfl rfl ?_
          refine z_ialdN (j := i) dX4_take_51 rfl (Nat.le_of_ble_eq_true rfl) h1 (rfl) (by omega) (by decide) ?_
          refine z_callVi (c_X4_addsLetter_19 G ex _ p1 l1 n1 w1 lo1 sz1 wd1 mk1 (tp i) hT.1 hT.2.1 hT.2.2.1 hT.2.2.2.1 (txI_room hT) rfl rfl rfl h22 (zw12 (P := fun l9 => zus g [(19, (oTxt G 19 (nI p1) (nI l1) (nI n1) w1)), (20, (zI G 10 lo1)), (21, (zI G 12 sz1)), (23, (zI G 5 (wd1 0))), (24, (zI G 5 (wd1 1))), (25, (zI G 5 (wd1 2))), (26, (zI G 5 (wd1 3))), (27, (zI G 5 (wd1 4))), (28, (zI G 5 (wd1 5))), (29, (zI G 5 (wd1 6))), (30, (zI G 5 (wd1 7))), (31, (zI G 5 (wd1 8))), (32, (zI G 5 (wd1 9))), (33, (zI G 5 (wd1 10))), (34, (zI G 5 (wd1 11))), (35, (zI G 12 mk1))] (23 + l9) = zI G 5 (wd1 l9)) rfl rfl rfl rfl rfl rfl rfl rfl rfl rfl rfl rfl) rfl) gX4_take_X4_addsLetter rfl dX4_take_52 rfl rfl rfl okk_X4_addsLetter (Nat.le_of_ble_eq_true rfl) rfl rfl ⟨Nat.le_of_ble_eq_true rfl, Nat.le_of_ble_eq_true rfl⟩ ⟨Nat.le_of_ble_eq_true rfl, Nat.le_of_ble_eq_true rfl⟩ (Nat.le_of_ble_eq_true rfl) ?_
          refine z_nn (L' := [(19, (oTxt G 19 (nI (X4_addsLetter_pT0_0 p1 l1 n1 w1 lo1 sz1 mk1 (tp i))) (nI (X4_addsLetter_pT0_1 p1 l1 n1 w1 lo1 sz1 mk1 (tp i))) (nI (X4_addsLetter_pT0_2 p1 l1 n1 w1 lo1 sz1 mk1 (tp i))) (X4_addsLetter_pT0_3 p1 l1 n1 w1 lo1 sz1 mk1 (tp i)))), (20, (zI G 10 (X4_addsLetter_cT1 p1 l1 n1 w1 lo1 sz1 mk1 (tp i)))), (21, (zI G 12 (X4_addsLetter_cT2 p1 l1 n1 w1 lo1 sz1 mk1 (tp i)))), (23, (zI G 5 ((X4_addsLetter_cT4 p1 l1 n1 w1 lo1 sz1 wd1 mk1 (tp i)) 0))), (24, (zI G 5 ((X4_addsLetter_cT4 p1 l1 n1 w1 lo1 sz1 wd1 mk1 (tp i)) 1))), (25, (zI G 5 ((X4_addsLetter_cT4 p1 l1 n1 w1 lo1 sz1 wd1 mk1 (tp i)) 2))), (26, (zI G 5 ((X4_addsLetter_cT4 p1 l1 n1 w1 lo1 sz1 wd1 mk1 (tp i)) 3))), (27, (zI G 5 ((X4_addsLetter_cT4 p1 l1 n1 w1 lo1 sz1 wd1 mk1 (tp i)) 4))), (28, (zI G 5 ((X4_addsLetter_cT4 p1 l1 n1 w1 lo1 sz1 wd1 mk1 (tp i)) 5))), (29, (zI G 5 ((X4_addsLetter_cT4 p1 l1 n1 w1 lo1 sz1 wd1 mk1 (tp i)) 6))), (30, (zI G 5 ((X4_addsLetter_cT4 p1 l1 n1 w1 lo1 sz1 wd1 mk1 (tp i)) 7))), (31, (zI G 5 ((X4_addsLetter_cT4 p1 l1 n1 w1 lo1 sz1 wd1 mk1 (tp i)) 8))), (32, (zI G 5 ((X4_addsLetter_cT4 p1 l1 n1 w1 lo1 sz1 wd1 mk1 (tp i)) 9))), (33, (zI G 5 ((X4_addsLetter_cT4 p1 l1 n1 w1 lo1 sz1 wd1 mk1 (tp i)) 10))), (34, (zI G 5 ((X4_addsLetter_cT4 p1 l1 n1 w1 lo1 sz1 wd1 mk1 (tp i)) 11))), (35, (zI G 12 (X4_addsLetter_cT16 p1 l1 n1 w1 lo1 sz1 mk1 (tp i))))]) rfl ?_
          refine z_istore_4 dX4_take_55 rfl ?_
          refine z_iload dX4_take_57 rfl rfl ?_
          refine z_if_ne (tgt := 64) dX4_take_59 rfl (by decide) (fun c59 => ?_) (fun c59 => ?_)
          · refine z_iinc_3 (v := nI (i + 1)) dX4_take_64 rfl (zinc _) ?_
            refine z_goto (tgt := 22) dX4_take_67 (by decide) ?_
            have K9 := (K (by simp only [X4_take_L22_B, if_neg c38, if_neg c59]))
            try simp only [X4_take_L22_F, if_neg c38, if_neg c59] at K9
            exact K9 _
          · refine z_iload_n dX4_take_62 rfl rfl ?_
            exact z_ireturn dX4_take_63 rfl rfl (Nat.le_refl _) (Nat.le_refl _) (fun _ => rfl) (Ko (nI i, X4_addsLetter_pT0_0 p1 l1 n1 w1 lo1 sz1 mk1 (tp i), X4_addsLetter_pT0_1 p1 l1 n1 w1 lo1 sz1 mk1 (tp i), X4_addsLetter_pT0_2 p1 l1 n1 w1 lo1 sz1 mk1 (tp i), X4_addsLetter_pT0_3 p1 l1 n1 w1 lo1 sz1 mk1 (tp i), X4_addsLetter_cT1 p1 l1 n1 w1 lo1 sz1 mk1 (tp i), X4_addsLetter_cT2 p1 l1 n1 w1 lo1 sz1 mk1 (tp i), X4_addsLetter_cT4 p1 l1 n1 w1 lo1 sz1 wd1 mk1 (tp i), X4_addsLetter_cT16 p1 l1 n1 w1 lo1 sz1 mk1 (tp i)) (by simp only [X4_take_L22_B, if_neg c38, if_pos c59]))
        · refine z_aload_n dX4_take_41 rfl rfl ?_
          refine z_callVi (c_X4_endsWord_19 G ex _ p1 l1 n1 w1 sz1 hT.2.1 hT.2.2.1 rfl rfl) gX4_take_X4_endsWord rfl dX4_take_42 rfl rfl rfl okk_X4_endsWord (Nat.le_of_ble_eq_true rfl) rfl rfl ⟨Nat.le_of_ble_eq_true rfl, Nat.le_of_ble_eq_true rfl⟩ ⟨Nat.le_of_ble_eq_true rfl, Nat.le_of_ble_eq_true rfl⟩ (Nat.le_of_ble_eq_true rfl) ?_
          refine z_nn (L' := [(19, (oTxt G 19 (nI p1) (nI l1) (nI n1) (X4_endsWord_pT0_3 l1 w1 sz1))), (20, (zI G 10 lo1)), (21, (zI G 12 sz1)), (23, (zI G 5 (wd1 0))), (24, (zI G 5 (wd1 1))), (25, (zI G 5 (wd1 2))), (26, (zI G 5 (wd1 3))), (27, (zI G 5 (wd1 4))), (28, (zI G 5 (wd1 5))), (29, (zI G 5 (wd1 6))), (30, (zI G 5 (wd1 7))), (31, (zI G 5 (wd1 8))), (32, (zI G 5 (wd1 9))), (33, (zI G 5 (wd1 10))), (34, (zI G 5 (wd1 11))), (35, (zI G 12 mk1))]) rfl ?_
          refine z_goto (tgt := 55) dX4_take_45 (by decide) ?_
          refine z_istore_4 dX4_take_55 rfl ?_
          refine z_iload dX4_take_57 rfl rfl ?_
          refine z_if_ne (tgt := 64) dX4_take_59 rfl (by decide) (fun c59 => ?_) (fun c59 => ?_)
          · refine z_iinc_3 (v := nI (i + 1)) dX4_take_64 rfl (zinc _) ?_
            refine z_goto (tgt := 22) dX4_take_67 (by decide) ?_
            have K9 := (K (by simp only [X4_take_L22_B, if_pos c38, if_neg c59]))
            try simp only [X4_take_L22_F, if_pos c38, if_neg c59] at K9
            exact K9 _
          · refine z_iload_n dX4_take_62 rfl rfl ?_
            exact z_ireturn dX4_take_63 rfl rfl (Nat.le_refl _) (Nat.le_refl _) (fun _ => rfl) (Ko (nI i, p1, l1, n1, X4_endsWord_pT0_3 l1 w1 sz1, lo1, sz1, wd1, mk1) (by simp only [X4_take_L22_B, if_pos c38, if_pos c59]))
  · intro b a9 hz22
    exact ⟨by simp only [X4_take_v, hz22, zpick_s], by simp only [X4_take_pT0_0, X4_take_pT0_1, X4_take_pT0_2, X4_take_pT0_3, X4_take_cT1, X4_take_cT2, X4_take_cT4, X4_take_cT16, hz22, zpick_s]⟩
  · intro a9 hz22 hI
    obtain ⟨p1, l1, n1, w1, lo1, sz1, wd1, mk1⟩ := a9
    intro y4
    have hT : txI p1 l1 w1 lo1 sz1 := hI
    refine z_iload_n dX4_take_22 rfl rfl ?_
    refine z_iload_n dX4_take_23 rfl rfl ?_
    refine z_icmp_ge (tgt := 70) dX4_take_24 rfl (by decide) (fun c24 => ?_) (fun c24 => ?_)
    · refine z_aload_n dX4_take_70 rfl rfl ?_
      refine z_callVi (c_X4_endsWord_19 G ex _ p1 l1 n1 w1 sz1 hT.2.1 hT.2.2.1 rfl rfl) gX4_take_X4_endsWord rfl dX4_take_71 rfl rfl rfl okk_X4_endsWord (Nat.le_of_ble_eq_true rfl) rfl rfl ⟨Nat.le_of_ble_eq_true rfl, Nat.le_of_ble_eq_true rfl⟩ ⟨Nat.le_of_ble_eq_true rfl, Nat.le_of_ble_eq_true rfl⟩ (Nat.le_of_ble_eq_true rfl) ?_
      refine z_nn (L' := [(19, (oTxt G 19 (nI p1) (nI l1) (nI n1) (X4_endsWord_pT0_3 l1 w1 sz1))), (20, (zI G 10 lo1)), (21, (zI G 12 sz1)), (23, (zI G 5 (wd1 0))), (24, (zI G 5 (wd1 1))), (25, (zI G 5 (wd1 2))), (26, (zI G 5 (wd1 3))), (27, (zI G 5 (wd1 4))), (28, (zI G 5 (wd1 5))), (29, (zI G 5 (wd1 6))), (30, (zI G 5 (wd1 7))), (31, (zI G 5 (wd1 8))), (32, (zI G 5 (wd1 9))), (33, (zI G 5 (wd1 10))), (34, (zI G 5 (wd1 11))), (35, (zI G 12 mk1))]) rfl ?_
      refine z_if_eq (tgt := 88) dX4_take_74 rfl (by decide) (fun c74 => ?_) (fun c74 => ?_)
      · refine z_iload_n dX4_take_88 rfl rfl ?_
        exact z_ireturn dX4_take_89 rfl rfl (Nat.le_refl _) (Nat.le_refl _) (fun _ => rfl) ⟨by simp only [X4_take_v, hz22, zpick_n, if_pos c74], by simp only [X4_take_pT0_0, X4_take_pT0_1, X4_take_pT0_2, X4_take_pT0_3, X4_take_cT1, X4_take_cT2, X4_take_cT4, X4_take_cT16, hz22, zpick_n, if_pos c74]⟩
      · refine z_aload_n dX4_take_77 rfl rfl ?_
        refine z_get dX4_take_78 rfl hiX4_take_X4 1 lkX4_take_15 (Nat.le_of_ble_eq_true rfl) rfl rfl (by decide) rfl ?_
        refine z_if_le (tgt := 88) dX4_take_81 rfl (by decide) (fun c81 => ?_) (fun c81 => ?_)
        · refine z_iload_n dX4_take_88 rfl rfl ?_
          exact z_ireturn dX4_take_89 rfl rfl (Nat.le_refl _) (Nat.le_refl _) (fun _ => rfl) ⟨by simp only [X4_take_v, hz22, zpick_n, if_neg c74, if_pos c81], by simp only [X4_take_pT0_0, X4_take_pT0_1, X4_take_pT0_2, X4_take_pT0_3, X4_take_cT1, X4_take_cT2, X4_take_cT4, X4_take_cT16, hz22, zpick_n, if_neg c74, if_pos c81]⟩
        · refine z_iconst (v := (-1)) dX4_take_84 rfl (by decide) ?_
          refine z_goto (tgt := 89) dX4_take_85 (by decide) ?_
          exact z_ireturn dX4_take_89 rfl rfl (Nat.le_refl _) (Nat.le_refl _) (fun _ => rfl) ⟨by simp only [X4_take_v, hz22, zpick_n, if_neg c74, if_neg c81], by simp only [X4_take_pT0_0, X4_take_pT0_1, X4_take_pT0_2, X4_take_pT0_3, X4_take_cT1, X4_take_cT2, X4_take_cT4, X4_take_cT16, hz22, zpick_n, if_neg c74, if_neg c81]⟩
    · exact absurd (nI_le (Nat.le_refl _) (by omega)) c24
abbrev mX5_flatten : zM := (cX5_flatten, 6, none, RX5, wsX5_flatten, "flatten")
theorem hiX5_flatten_X5 : ∀ w ∈ wsX50, w ∈ wsX5_flatten := fun w h => List.mem_cons_of_mem _ (List.mem_append_right _ h)
theorem lkX5_flatten_9 : Cond.fieldLink RX5 9 "ConfigSearch$Told" "flat" "[Z" ∈ wsX5_flatten := by decide +kernel
def X5_flatten_L19_F (wd : Nat → Int32) (wi : Nat) (wj : Nat) (wk : Nat) (a9 : (Nat → Int32)) : (Nat → Int32) := upd a9 (spN ((wd wi).toNatClampNeg) ((wd wj).toNatClampNeg) ((wd wk).toNatClampNeg)) (nI 1)
def X5_flatten_L10_F (wd : Nat → Int32) (wi : Nat) (wj : Nat) (a9 : (Nat → Int32)) : (Nat → Int32) := (zfold (X5_flatten_L19_F wd wi wj) wj 0 a9)
def X5_flatten_L2_F (wd : Nat → Int32) (wi : Nat) (a9 : (Nat → Int32)) : (Nat → Int32) := (zfold (X5_flatten_L10_F wd wi) wi 0 a9)
def X5_flatten_c37 (fl wd : Nat → Int32) (n : Nat) : Nat → Int32 := (zfold (X5_flatten_L2_F wd) n 0 fl)
set_option maxRecDepth 100000 in
set_option maxHeartbeats 4000000 in
theorem c_X5_flatten (G : zG) (ex : Bool) (g : Nat → va_E) (bo oo : Int32) (fl wd : Nat → Int32) (kw n : Nat) (hk_kw : kw < zN) (hkw9 : kw < 36) (hn : n ≤ 5) (hw : ∀ j, j < n → vp_in (wd j) 10) (hwx : ∀ i j, i < n → j < n → i ≠ j → (wd i).toNatClampNeg ≠ (wd j).toNatClampNeg) (h36 : g 36 = (oTld G bo oo)) (h37 : g 37 = (zZ G 120 fl)) (hkw : g kw = (zI G 5 wd)) : zC G yX5_flatten wsX5_flatten (zrm 2 46) ex [.ref (zB G + 36), .ref (zB G + kw), .int (nI n)] (zN, g) (fun r h => r = none ∧ h = (zN, zus g [(37, zZ G 120 (X5_flatten_c37 fl wd n))])) := by
  refine zC_of mX5_flatten (lv := [some (.ref (zB G + 36)), some (.ref (zB G + kw)), some (.int (nI n)), none, none, none]) rfl rfl (by decide) (by intro v hv; simp at hv; rcases hv with rfl | rfl | rfl <;> rfl) (Nat.le_of_ble_eq_true rfl) rfl ?_
  refine z_0 ?_
  refine z_heap (g' := zu (zus g []) 37 (zZ G 120 fl)) (zu_self (zus g []) 37 _ h37).symm ?_
  refine z_n (L' := [(37, (zZ G 120 fl))]) rfl ?_
  refine z_iconst (v := nI 0) dX5_flatten_0 rfl (by decide) ?_
  refine z_istore_3 dX5_flatten_1 rfl ?_
  refine z_forI (head := fun wi (st9 : (Nat → Int32)) => ∀ y4 y5 : Option Value, Z G mX5_flatten (zrm 2 46) ex _ 2 [some (.ref (zB G + 36)), some (.ref (zB G + kw)), some (.int (nI n)), some (.int (nI wi)), y4, y5] [] (zN, zus g [(37, (zZ G 120 st9))]) 0 0) (F := (X5_flatten_L2_F wd)) (n := n) (fun _ _ => True) (fun _ _ _ _ => trivial) ?_ n 0 fl (by omega) trivial ?_ _ _
  · intro wi fl1 hi _ K
    intro y4 y5
    have hwi : wi < n := hi
    refine z_iload_n dX5_flatten_2 rfl rfl ?_
    refine z_iload_n dX5_flatten_3 rfl rfl ?_
    refine z_icmp_ge (tgt := 64) dX5_flatten_4 rfl (by decide) (fun c4 => ?_) (fun c4 => ?_)
    · exact absurd c4 (nI_ge hi (by omega))
    · refine z_iconst (v := nI 0) dX5_flatten_7 rfl (by decide) ?_
      refine z_istore_4 dX5_flatten_8 rfl ?_
      refine z_forI (head := fun wj (st9 : (Nat → Int32)) => ∀ y5 : Option Value, Z G mX5_flatten (zrm 2 46) ex _ 10 [some (.ref (zB G + 36)), some (.ref (zB G + kw)), some (.int (nI n)), some (.int (nI wi)), some (.int (nI wj)), y5] [] (zN, zus g [(37, (zZ G 120 st9))]) 0 0) (F := (X5_flatten_L10_F wd wi)) (n := wi) (fun _ _ => True) (fun _ _ _ _ => trivial) ?_ wi 0 fl1 (by omega) trivial ?_ _
      · intro wj fl2 hi _ K
        intro y5
        have hwj : wj < wi := hi
        refine z_iload dX5_flatten_10 rfl rfl ?_
        refine z_iload_n dX5_flatten_12 rfl rfl ?_
        refine z_icmp_ge (tgt := 58) dX5_flatten_13 rfl (by decide) (fun c13 => ?_) (fun c13 => ?_)
        · exact absurd c13 (nI_ge hi (by omega))
        · refine z_iconst (v := nI 0) dX5_flatten_16 rfl (by decide) ?_
          refine z_istore_5 dX5_flatten_17 rfl ?_
          refine z_forI (head := fun wk (st9 : (Nat → Int32)) => Z G mX5_flatten (zrm 2 46) ex _ 19 [some (.ref (zB G + 36)), some (.ref (zB G + kw)), some (.int (nI n)), some (.int (nI wi)), some (.int (nI wj)), some (.int (nI wk))] [] (zN, zus g [(37, (zZ G 120 st9))]) 0 0) (F := (X5_flatten_L19_F wd wi wj)) (n := wj) (fun _ _ => True) (fun _ _ _ _ => trivial) ?_ wj 0 fl2 (by omega) trivial ?_
          · intro wk fl3 hi _ K
            have hwk : wk < wj := hi
            refine z_iload dX5_flatten_19 rfl rfl ?_
            refine z_iload dX5_flatten_21 rfl rfl ?_
            refine z_icmp_ge (tgt := 52) dX5_flatten_23 rfl (by decide) (fun c23 => ?_) (fun c23 => ?_)
            · exact absurd c23 (nI_ge hi (by omega))
            · refine z_aload_n dX5_flatten_26 rfl rfl ?_
              refine z_get dX5_flatten_27 rfl hiX5_flatten_X5 0 lkX5_flatten_9 (Nat.le_of_ble_eq_true rfl) h36 rfl (by decide) rfl ?_
              refine z_aload_n dX5_flatten_30 rfl rfl ?_
              refine z_iload_n dX5_flatten_31 rfl rfl ?_
              refine z_ialdN (j := wi) dX5_flatten_32 rfl hk_kw (zus_out (by intro q hq; simp at hq; omega) hkw) (rfl) (by omega) (by decide) ?_
              refine z_top (show wd wi = nI ((wd wi).toNatClampNeg) from zvin (hw _ (by omega))) ?_
              refine z_aload_n dX5_flatten_33 rfl rfl ?_
              refine z_iload dX5_flatten_34 rfl rfl ?_
              refine z_ialdN (j := wj) dX5_flatten_36 rfl hk_kw (zus_out (by intro q hq; simp at hq; omega) hkw) (rfl) (by omega) (by decide) ?_
              refine z_top (show wd wj = nI ((wd wj).toNatClampNeg) from zvin (hw _ (by omega))) ?_
              refine z_aload_n dX5_flatten_37 rfl rfl ?_
              refine z_iload dX5_flatten_38 rfl rfl ?_
              refine z_ialdN (j := wk) dX5_flatten_40 rfl hk_kw (zus_out (by intro q hq; simp at hq; omega) hkw) (rfl) (by omega) (by decide) ?_
              refine z_top (show wd wk = nI ((wd wk).toNatClampNeg) from zvin (hw _ (by omega))) ?_
              refine z_callSi (c_X5_spotOf_N G ex _ ((wd wi).toNatClampNeg) ((wd wj).toNatClampNeg) ((wd wk).toNatClampNeg) (zvlt (hw _ (by omega))) (zvlt (hw _ (by omega))) (zvlt (hw _ (by omega)))) gX5_flatten_X5_spotOf rfl dX5_flatten_41 rfl rfl okk_X5_spotOf ⟨Nat.le_of_ble_eq_true rfl, Nat.le_of_ble_eq_true rfl⟩ ⟨Nat.le_of_ble_eq_true rfl, Nat.le_of_ble_eq_true rfl⟩ (Nat.le_of_ble_eq_true rfl) ?_
              refine z_iconst (v := nI 1) dX5_flatten_44 rfl (by decide) ?_
              refine z_zastN (j := spN ((wd wi).toNatClampNeg) ((wd wj).toNatClampNeg) ((wd wk).toNatClampNeg)) dX5_flatten_45 rfl (Nat.le_of_ble_eq_true rfl) rfl (rfl) (spN_lt (zvlt (hw _ (by omega))) (zvlt (hw _ (by omega))) (zvlt (hw _ (by omega))) (hwx _ _ (by omega) (by omega) (by omega)) (hwx _ _ (by omega) (by omega) (by omega)) (hwx _ _ (by omega) (by omega) (by omega))) (by decide) rfl ?_
              refine z_n (L' := [(37, (zZ G 120 (upd fl3 (spN ((wd wi).toNatClampNeg) ((wd wj).toNatClampNeg) ((wd wk).toNatClampNeg)) (nI 1))))]) rfl ?_
              refine z_iinc_5 (v := nI (wk + 1)) dX5_flatten_46 rfl (zinc _) ?_
              refine z_goto (tgt := 19) dX5_flatten_49 (by decide) ?_
              exact K
          · intro _
            refine z_iload dX5_flatten_19 rfl rfl ?_
            refine z_iload dX5_flatten_21 rfl rfl ?_
            refine z_icmp_ge (tgt := 52) dX5_flatten_23 rfl (by decide) (fun c23 => ?_) (fun c23 => ?_)
            · refine z_iinc_4 (v := nI (wj + 1)) dX5_flatten_52 rfl (zinc _) ?_
              refine z_goto (tgt := 10) dX5_flatten_55 (by decide) ?_
              exact K _
            · exact absurd (nI_le (Nat.le_refl _) (by omega)) c23
      · intro _ y5
        refine z_iload dX5_flatten_10 rfl rfl ?_
        refine z_iload_n dX5_flatten_12 rfl rfl ?_
        refine z_icmp_ge (tgt := 58) dX5_flatten_13 rfl (by decide) (fun c13 => ?_) (fun c13 => ?_)
        · refine z_iinc_3 (v := nI (wi + 1)) dX5_flatten_58 rfl (zinc _) ?_
          refine z_goto (tgt := 2) dX5_flatten_61 (by decide) ?_
          exact K _ _
        · exact absurd (nI_le (Nat.le_refl _) (by omega)) c13
  · intro _ y4 y5
    refine z_iload_n dX5_flatten_2 rfl rfl ?_
    refine z_iload_n dX5_flatten_3 rfl rfl ?_
    refine z_icmp_ge (tgt := 64) dX5_flatten_4 rfl (by decide) (fun c4 => ?_) (fun c4 => ?_)
    · exact z_return dX5_flatten_64 rfl (Nat.le_refl _) (Nat.le_refl _) (fun _ => rfl) ⟨rfl, by simp only [X5_flatten_c37]⟩
    · exact absurd (nI_le (Nat.le_refl _) (by omega)) c4
abbrev mX5_startWith : zM := (cX5_startWith, 3, none, RX5, wsX5_startWith, "startWith")
theorem hiX5_startWith_X5 : ∀ w ∈ wsX50, w ∈ wsX5_startWith := fun w h => List.mem_cons_of_mem _ (List.mem_append_left _ (List.mem_append_right _ h))
theorem lkX5_startWith_9 : Cond.fieldLink RX5 9 "ConfigSearch$Told" "flat" "[Z" ∈ wsX5_startWith := by decide +kernel
theorem lkX5_startWith_15 : Cond.fieldLink RX5 15 "ConfigSearch$Told" "barred" "[Z" ∈ wsX5_startWith := by decide +kernel
theorem lkX5_startWith_18 : Cond.fieldLink RX5 18 "ConfigSearch$Told" "oriented" "[I" ∈ wsX5_startWith := by decide +kernel
theorem lkX5_startWith_22 : Cond.fieldLink RX5 22 "ConfigSearch$Told" "barredOnes" "I" ∈ wsX5_startWith := by decide +kernel
theorem lkX5_startWith_26 : Cond.fieldLink RX5 26 "ConfigSearch$Told" "orientedOnes" "I" ∈ wsX5_startWith := by decide +kernel
theorem hiX5_startWith_X4 : ∀ w ∈ wsX40, w ∈ wsX5_startWith := fun w h => List.mem_cons_of_mem _ (List.mem_append_right _ h)
theorem lkX5_startWith_38 : Cond.fieldLink RX5 38 "ConfigSearch$Text" "lines" "I" ∈ wsX5_startWith := by decide +kernel
theorem lkX5_startWith_43 : Cond.fieldLink RX5 43 "ConfigSearch$Text" "word" "[[I" ∈ wsX5_startWith := by decide +kernel
theorem lkX5_startWith_47 : Cond.fieldLink RX5 47 "ConfigSearch$Text" "size" "[I" ∈ wsX5_startWith := by decide +kernel
theorem okk_X5_flatten : zOk yX5_flatten 2 := by unfold zOk; decide +kernel
def X5_startWith_L2_F (k : Nat) (a9 : (Nat → Int32) × (Nat → Int32) × (Nat → Int32)) : (Nat → Int32) × (Nat → Int32) × (Nat → Int32) := (upd a9.1 k (nI 0), upd a9.2.1 k (nI 0), upd a9.2.2 k (nI 0))
def X5_startWith_L47_F (sz : Nat → Int32) (wd : Nat → Nat → Int32) (ln : Nat) (a9 : (Nat → Int32)) : (Nat → Int32) := X5_flatten_c37 a9 (wd ln) ((sz ln).toNatClampNeg)
def X5_startWith_p36_0 : Nat := 0
def X5_startWith_p36_1 : Nat := 0
def X5_startWith_c37 (fl ba ori : Nat → Int32) (lns : Nat) (sz : Nat → Int32) (wd : Nat → Nat → Int32) : Nat → Int32 := (zfold (X5_startWith_L47_F sz wd) lns 0 ((zfold (X5_startWith_L2_F) 120 0 (fl, ba, ori)).1))
def X5_startWith_c38 (fl ba ori : Nat → Int32) : Nat → Int32 := (zfold (X5_startWith_L2_F) 120 0 (fl, ba, ori)).2.1
def X5_startWith_c39 (fl ba ori : Nat → Int32) : Nat → Int32 := (zfold (X5_startWith_L2_F) 120 0 (fl, ba, ori)).2.2
set_option maxRecDepth 100000 in
set_option maxHeartbeats 4000000 in
theorem c_X5_startWith_2 (G : zG) (ex : Bool) (g : Nat → va_E) (bo oo : Int32) (fl ba ori : Nat → Int32) (pts lns ltr : Nat) (inw : Int32) (sz : Nat → Int32) (wd : Nat → Nat → Int32) (hl : lns ≤ 12) (hsz : ∀ l, l < lns → vp_in (sz l) 6) (hwd : ∀ l, l < lns → ∀ j, j < (sz l).toNatClampNeg → vp_in (wd l j) 10) (hwx : ∀ l, l < lns → ∀ i j, i < (sz l).toNatClampNeg → j < (sz l).toNatClampNeg → i ≠ j → (wd l i).toNatClampNeg ≠ (wd l j).toNatClampNeg) (h36 : g 36 = (oTld G bo oo)) (h37 : g 37 = (zZ G 120 fl)) (h38 : g 38 = (zZ G 120 ba)) (h39 : g 39 = (zI G 120 ori)) (h2 : g 2 = (oTxt G 2 (nI pts) (nI lns) (nI ltr) inw)) (h4 : g 4 = (zI G 12 sz)) (h5 : g 5 = (zR G 12 (zrw G 12 6))) (h6 : ∀ l9, l9 < 12 → g (6 + l9) = zI G 5 (wd l9)) : zC G yX5_startWith wsX5_startWith (zrm 3 71) ex [.ref (zB G + 36), .ref (zB G + 2)] (zN, g) (fun r h => r = none ∧ h = (zN, zus g [(36, (oTld G (nI X5_startWith_p36_0) (nI X5_startWith_p36_1))), (37, zZ G 120 (X5_startWith_c37 fl ba ori lns sz wd)), (38, zZ G 120 (X5_startWith_c38 fl ba ori)), (39, zI G 120 (X5_startWith_c39 fl ba ori))])) := by
  refine zC_of mX5_startWith (lv := [some (.ref (zB G + 36)), some (.ref (zB G + 2)), none]) rfl rfl (by decide) (by intro v hv; simp at hv; rcases hv with rfl | rfl <;> rfl) (Nat.le_of_ble_eq_true rfl) rfl ?_
  refine z_0 ?_
  refine z_heap (g' := zu (zus g []) 36 (oTld G bo oo)) (zu_self (zus g []) 36 _ h36).symm ?_
  refine z_n (L' := [(36, (oTld G bo oo))]) rfl ?_
  refine z_heap (g' := zu (zus g [(36, (oTld G bo oo))]) 37 (zZ G 120 fl)) (zu_self (zus g [(36, (oTld G bo oo))]) 37 _ h37).symm ?_
  refine z_n (L' := [(36, (oTld G bo oo)), (37, (zZ G 120 fl))]) rfl ?_
  refine z_heap (g' := zu (zus g [(36, (oTld G bo oo)), (37, (zZ G 120 fl))]) 38 (zZ G 120 ba)) (zu_self (zus g [(36, (oTld G bo oo)), (37, (zZ G 120 fl))]) 38 _ h38).symm ?_
  refine z_n (L' := [(36, (oTld G bo oo)), (37, (zZ G 120 fl)), (38, (zZ G 120 ba))]) rfl ?_
  refine z_heap (g' := zu (zus g [(36, (oTld G bo oo)), (37, (zZ G 120 fl)), (38, (zZ G 120 ba))]) 39 (zI G 120 ori)) (zu_self (zus g [(36, (oTld G bo oo)), (37, (zZ G 120 fl)), (38, (zZ G 120 ba))]) 39 _ h39).symm ?_
  refine z_n (L' := [(36, (oTld G bo oo)), (37, (zZ G 120 fl)), (38, (zZ G 120 ba)), (39, (zI G 120 ori))]) rfl ?_
  refine z_iconst (v := nI 0) dX5_startWith_0 rfl (by decide) ?_
  refine z_istore_2 dX5_startWith_1 rfl ?_
  refine z_forI (head := fun k (st9 : (Nat → Int32) × (Nat → Int32) × (Nat → Int32)) => Z G mX5_startWith (zrm 3 71) ex _ 2 [some (.ref (zB G + 36)), some (.ref (zB G + 2)), some (.int (nI k))] [] (zN, zus g [(36, (oTld G bo oo)), (37, (zZ G 120 st9.1)), (38, (zZ G 120 st9.2.1)), (39, (zI G 120 st9.2.2))]) 0 0) (F := (X5_startWith_L2_F)) (n := 120) (fun _ _ => True) (fun _ _ _ _ => trivial) ?_ 120 0 (fl, ba, ori) (by omega) trivial ?_
  · intro k a9 hi _ K
    obtain ⟨fl1, ba1, or1⟩ := a9
    refine z_iload_n dX5_startWith_2 rfl rfl ?_
    refine z_bipush (v := nI 120) dX5_startWith_3 rfl (by decide) ?_
    refine z_icmp_ge (tgt := 35) dX5_startWith_5 rfl (by decide) (fun c5 => ?_) (fun c5 => ?_)
    · exact absurd c5 (nI_ge hi (by omega))
    · refine z_aload_n dX5_startWith_8 rfl rfl ?_
      refine z_get dX5_startWith_9 rfl hiX5_startWith_X5 0 lkX5_startWith_9 (Nat.le_of_ble_eq_true rfl) rfl rfl (by decide) rfl ?_
      refine z_iload_n dX5_startWith_12 rfl rfl ?_
      refine z_iconst (v := nI 0) dX5_startWith_13 rfl (by decide) ?_
      refine z_zastN (j := k) dX5_startWith_14 rfl (Nat.le_of_ble_eq_true rfl) rfl (rfl) (by omega) (by decide) rfl ?_
      refine z_n (L' := [(36, (oTld G bo oo)), (37, (zZ G 120 (upd fl1 k (nI 0)))), (38, (zZ G 120 ba1)), (39, (zI G 120 or1))]) rfl ?_
      refine z_aload_n dX5_startWith_15 rfl rfl ?_
      refine z_get dX5_startWith_16 rfl hiX5_startWith_X5 1 lkX5_startWith_15 (Nat.le_of_ble_eq_true rfl) rfl rfl (by decide) rfl ?_
      refine z_iload_n dX5_startWith_19 rfl rfl ?_
      refine z_iconst (v := nI 0) dX5_startWith_20 rfl (by decide) ?_
      refine z_zastN (j := k) dX5_startWith_21 rfl (Nat.le_of_ble_eq_true rfl) rfl (rfl) (by omega) (by decide) rfl ?_
      refine z_n (L' := [(36, (oTld G bo oo)), (37, (zZ G 120 (upd fl1 k (nI 0)))), (38, (zZ G 120 (upd ba1 k (nI 0)))), (39, (zI G 120 or1))]) rfl ?_
      refine z_aload_n dX5_startWith_22 rfl rfl ?_
      refine z_get dX5_startWith_23 rfl hiX5_startWith_X5 2 lkX5_startWith_18 (Nat.le_of_ble_eq_true rfl) rfl rfl (by decide) rfl ?_
      refine z_iload_n dX5_startWith_26 rfl rfl ?_
      refine z_iconst (v := nI 0) dX5_startWith_27 rfl (by decide) ?_
      refine z_iastN (j := k) dX5_startWith_28 rfl (Nat.le_of_ble_eq_true rfl) rfl (rfl) (by omega) (by decide) ?_
      refine z_n (L' := [(36, (oTld G bo oo)), (37, (zZ G 120 (upd fl1 k (nI 0)))), (38, (zZ G 120 (upd ba1 k (nI 0)))), (39, (zI G 120 (upd or1 k (nI 0))))]) rfl ?_
      refine z_iinc_2 (v := nI (k + 1)) dX5_startWith_29 rfl (zinc _) ?_
      refine z_goto (tgt := 2) dX5_startWith_32 (by decide) ?_
      exact K
  · intro _
    refine z_iload_n dX5_startWith_2 rfl rfl ?_
    refine z_bipush (v := nI 120) dX5_startWith_3 rfl (by decide) ?_
    refine z_icmp_ge (tgt := 35) dX5_startWith_5 rfl (by decide) (fun c5 => ?_) (fun c5 => ?_)
    · refine z_aload_n dX5_startWith_35 rfl rfl ?_
      refine z_iconst (v := nI 0) dX5_startWith_36 rfl (by decide) ?_
      refine z_putN (e9 := (oTld G (nI 0) oo)) tyX5 tyX5_ok nmX5 dX5_startWith_37 rfl hiX5_startWith_X5 3 lkX5_startWith_22 rfl (by decide +kernel) (Nat.le_of_ble_eq_true rfl) rfl rfl (by decide) (Nat.le_of_ble_eq_true rfl) rfl rfl rfl ?_
      refine z_n (L' := [(36, (oTld G (nI 0) oo)), (37, (zZ G 120 ((zfold (X5_startWith_L2_F) 120 0 (fl, ba, ori)).1))), (38, (zZ G 120 ((zfold (X5_startWith_L2_F) 120 0 (fl, ba, ori)).2.1))), (39, (zI G 120 ((zfold (X5_startWith_L2_F) 120 0 (fl, ba, ori)).2.2)))]) rfl ?_
      refine z_aload_n dX5_startWith_40 rfl rfl ?_
      refine z_iconst (v := nI 0) dX5_startWith_41 rfl (by decide) ?_
      refine z_putN (e9 := (oTld G (nI 0) (nI 0))) tyX5 tyX5_ok nmX5 dX5_startWith_42 rfl hiX5_startWith_X5 4 lkX5_startWith_26 rfl (by decide +kernel) (Nat.le_of_ble_eq_true rfl) rfl rfl (by decide) (Nat.le_of_ble_eq_true rfl) rfl rfl rfl ?_
      refine z_n (L' := [(36, (oTld G (nI 0) (nI 0))), (37, (zZ G 120 ((zfold (X5_startWith_L2_F) 120 0 (fl, ba, ori)).1))), (38, (zZ G 120 ((zfold (X5_startWith_L2_F) 120 0 (fl, ba, ori)).2.1))), (39, (zI G 120 ((zfold (X5_startWith_L2_F) 120 0 (fl, ba, ori)).2.2)))]) rfl ?_
      refine z_iconst (v := nI 0) dX5_startWith_45 rfl (by decide) ?_
      refine z_istore_2 dX5_startWith_46 rfl ?_
      refine z_forI (head := fun ln (st9 : (Nat → Int32)) => Z G mX5_startWith (zrm 3 71) ex _ 47 [some (.ref (zB G + 36)), some (.ref (zB G + 2)), some (.int (nI ln))] [] (zN, zus g [(36, (oTld G (nI 0) (nI 0))), (37, (zZ G 120 st9)), (38, (zZ G 120 ((zfold (X5_startWith_L2_F) 120 0 (fl, ba, ori)).2.1))), (39, (zI G 120 ((zfold (X5_startWith_L2_F) 120 0 (fl, ba, ori)).2.2)))]) 0 0) (F := (X5_startWith_L47_F sz wd)) (n := lns) (fun _ _ => True) (fun _ _ _ _ => trivial) ?_ lns 0 ((zfold (X5_startWith_L2_F) 120 0 (fl, ba, ori)).1) (by omega) trivial ?_
      · intro ln fl2 hi _ K
        refine z_iload_n dX5_startWith_47 rfl rfl ?_
        refine z_aload_n dX5_startWith_48 rfl rfl ?_
        refine z_get dX5_startWith_49 rfl hiX5_startWith_X4 1 lkX5_startWith_38 (Nat.le_of_ble_eq_true rfl) h2 rfl (by decide) rfl ?_
        refine z_icmp_ge (tgt := 77) dX5_startWith_52 rfl (by decide) (fun c52 => ?_) (fun c52 => ?_)
        · exact absurd c52 (nI_ge hi (by omega))
        · refine z_aload_n dX5_startWith_55 rfl rfl ?_
          refine z_aload_n dX5_startWith_56 rfl rfl ?_
          refine z_get dX5_startWith_57 rfl hiX5_startWith_X4 5 lkX5_startWith_43 (Nat.le_of_ble_eq_true rfl) h2 rfl (by decide) rfl ?_
          refine z_iload_n dX5_startWith_60 rfl rfl ?_
          refine z_aaldN (j := ln) (a := zB G + (6 + ln)) dX5_startWith_61 rfl (Nat.le_of_ble_eq_true rfl) h5 (rfl) (by omega) (by decide) (zrw_at (by omega)) ?_
          refine z_aload_n dX5_startWith_62 rfl rfl ?_
          refine z_get dX5_startWith_63 rfl hiX5_startWith_X4 4 lkX5_startWith_47 (Nat.le_of_ble_eq_true rfl) h2 rfl (by decide) rfl ?_
          refine z_iload_n dX5_startWith_66 rfl rfl ?_
          refine z_ialdN (j := ln) dX5_startWith_67 rfl (Nat.le_of_ble_eq_true rfl) h4 (rfl) (by omega) (by decide) ?_
          refine z_top (show sz ln = nI ((sz ln).toNatClampNeg) from zvin (hsz _ hi)) ?_
          refine z_callVv (c_X5_flatten G ex _ (nI 0) (nI 0) fl2 (wd ln) (6 + ln) ((sz ln).toNatClampNeg) (zk12 (by omega) (by decide)) (by omega) (Nat.lt_succ_iff.mp (zvlt (hsz _ hi))) (hwd _ hi) (hwx _ hi) rfl rfl (zus_out (by intro q hq; simp at hq; omega) (h6 _ (by omega)))) gX5_startWith_X5_flatten rfl dX5_startWith_68 rfl rfl rfl okk_X5_flatten (Nat.le_of_ble_eq_true rfl) rfl rfl ⟨Nat.le_of_ble_eq_true rfl, Nat.le_of_ble_eq_true rfl⟩ ⟨Nat.le_of_ble_eq_true rfl, Nat.le_of_ble_eq_true rfl⟩ (Nat.le_of_ble_eq_true rfl) ?_
          refine z_nn (L' := [(36, (oTld G (nI 0) (nI 0))), (37, (zZ G 120 (X5_flatten_c37 fl2 (wd ln) ((sz ln).toNatClampNeg)))), (38, (zZ G 120 ((zfold (X5_startWith_L2_F) 120 0 (fl, ba, ori)).2.1))), (39, (zI G 120 ((zfold (X5_startWith_L2_F) 120 0 (fl, ba, ori)).2.2)))]) rfl ?_
          refine z_iinc_2 (v := nI (ln + 1)) dX5_startWith_71 rfl (zinc _) ?_
          refine z_goto (tgt := 47) dX5_startWith_74 (by decide) ?_
          exact K
      · intro _
        refine z_iload_n dX5_startWith_47 rfl rfl ?_
        refine z_aload_n dX5_startWith_48 rfl rfl ?_
        refine z_get dX5_startWith_49 rfl hiX5_startWith_X4 1 lkX5_startWith_38 (Nat.le_of_ble_eq_true rfl) h2 rfl (by decide) rfl ?_
        refine z_icmp_ge (tgt := 77) dX5_startWith_52 rfl (by decide) (fun c52 => ?_) (fun c52 => ?_)
        · exact z_return dX5_startWith_77 rfl (Nat.le_refl _) (Nat.le_refl _) (fun _ => rfl) ⟨rfl, by simp only [X5_startWith_p36_0, X5_startWith_p36_1, X5_startWith_c37, X5_startWith_c38, X5_startWith_c39]⟩
        · exact absurd (nI_le (Nat.le_refl _) (by omega)) c52
    · exact absurd (nI_le (Nat.le_refl _) (by omega)) c5
set_option maxRecDepth 100000 in
set_option maxHeartbeats 4000000 in
theorem c_X5_startWith_19 (G : zG) (ex : Bool) (g : Nat → va_E) (bo oo : Int32) (fl ba ori : Nat → Int32) (pts lns ltr : Nat) (inw : Int32) (sz : Nat → Int32) (wd : Nat → Nat → Int32) (hl : lns ≤ 12) (hsz : ∀ l, l < lns → vp_in (sz l) 6) (hwd : ∀ l, l < lns → ∀ j, j < (sz l).toNatClampNeg → vp_in (wd l j) 10) (hwx : ∀ l, l < lns → ∀ i j, i < (sz l).toNatClampNeg → j < (sz l).toNatClampNeg → i ≠ j → (wd l i).toNatClampNeg ≠ (wd l j).toNatClampNeg) (h36 : g 36 = (oTld G bo oo)) (h37 : g 37 = (zZ G 120 fl)) (h38 : g 38 = (zZ G 120 ba)) (h39 : g 39 = (zI G 120 ori)) (h19 : g 19 = (oTxt G 19 (nI pts) (nI lns) (nI ltr) inw)) (h21 : g 21 = (zI G 12 sz)) (h22 : g 22 = (zR G 12 (zrw G 12 23))) (h23 : ∀ l9, l9 < 12 → g (23 + l9) = zI G 5 (wd l9)) : zC G yX5_startWith wsX5_startWith (zrm 3 71) ex [.ref (zB G + 36), .ref (zB G + 19)] (zN, g) (fun r h => r = none ∧ h = (zN, zus g [(36, (oTld G (nI X5_startWith_p36_0) (nI X5_startWith_p36_1))), (37, zZ G 120 (X5_startWith_c37 fl ba ori lns sz wd)), (38, zZ G 120 (X5_startWith_c38 fl ba ori)), (39, zI G 120 (X5_startWith_c39 fl ba ori))])) := by
  refine zC_of mX5_startWith (lv := [some (.ref (zB G + 36)), some (.ref (zB G + 19)), none]) rfl rfl (by decide) (by intro v hv; simp at hv; rcases hv with rfl | rfl <;> rfl) (Nat.le_of_ble_eq_true rfl) rfl ?_
  refine z_0 ?_
  refine z_heap (g' := zu (zus g []) 36 (oTld G bo oo)) (zu_self (zus g []) 36 _ h36).symm ?_
  refine z_n (L' := [(36, (oTld G bo oo))]) rfl ?_
  refine z_heap (g' := zu (zus g [(36, (oTld G bo oo))]) 37 (zZ G 120 fl)) (zu_self (zus g [(36, (oTld G bo oo))]) 37 _ h37).symm ?_
  refine z_n (L' := [(36, (oTld G bo oo)), (37, (zZ G 120 fl))]) rfl ?_
  refine z_heap (g' := zu (zus g [(36, (oTld G bo oo)), (37, (zZ G 120 fl))]) 38 (zZ G 120 ba)) (zu_self (zus g [(36, (oTld G bo oo)), (37, (zZ G 120 fl))]) 38 _ h38).symm ?_
  refine z_n (L' := [(36, (oTld G bo oo)), (37, (zZ G 120 fl)), (38, (zZ G 120 ba))]) rfl ?_
  refine z_heap (g' := zu (zus g [(36, (oTld G bo oo)), (37, (zZ G 120 fl)), (38, (zZ G 120 ba))]) 39 (zI G 120 ori)) (zu_self (zus g [(36, (oTld G bo oo)), (37, (zZ G 120 fl)), (38, (zZ G 120 ba))]) 39 _ h39).symm ?_
  refine z_n (L' := [(36, (oTld G bo oo)), (37, (zZ G 120 fl)), (38, (zZ G 120 ba)), (39, (zI G 120 ori))]) rfl ?_
  refine z_iconst (v := nI 0) dX5_startWith_0 rfl (by decide) ?_
  refine z_istore_2 dX5_startWith_1 rfl ?_
  refine z_forI (head := fun k (st9 : (Nat → Int32) × (Nat → Int32) × (Nat → Int32)) => Z G mX5_startWith (zrm 3 71) ex _ 2 [some (.ref (zB G + 36)), some (.ref (zB G + 19)), some (.int (nI k))] [] (zN, zus g [(36, (oTld G bo oo)), (37, (zZ G 120 st9.1)), (38, (zZ G 120 st9.2.1)), (39, (zI G 120 st9.2.2))]) 0 0) (F := (X5_startWith_L2_F)) (n := 120) (fun _ _ => True) (fun _ _ _ _ => trivial) ?_ 120 0 (fl, ba, ori) (by omega) trivial ?_
  · intro k a9 hi _ K
    obtain ⟨fl1, ba1, or1⟩ := a9
    refine z_iload_n dX5_startWith_2 rfl rfl ?_
    refine z_bipush (v := nI 120) dX5_startWith_3 rfl (by decide) ?_
    refine z_icmp_ge (tgt := 35) dX5_startWith_5 rfl (by decide) (fun c5 => ?_) (fun c5 => ?_)
    · exact absurd c5 (nI_ge hi (by omega))
    · refine z_aload_n dX5_startWith_8 rfl rfl ?_
      refine z_get dX5_startWith_9 rfl hiX5_startWith_X5 0 lkX5_startWith_9 (Nat.le_of_ble_eq_true rfl) rfl rfl (by decide) rfl ?_
      refine z_iload_n dX5_startWith_12 rfl rfl ?_
      refine z_iconst (v := nI 0) dX5_startWith_13 rfl (by decide) ?_
      refine z_zastN (j := k) dX5_startWith_14 rfl (Nat.le_of_ble_eq_true rfl) rfl (rfl) (by omega) (by decide) rfl ?_
      refine z_n (L' := [(36, (oTld G bo oo)), (37, (zZ G 120 (upd fl1 k (nI 0)))), (38, (zZ G 120 ba1)), (39, (zI G 120 or1))]) rfl ?_
      refine z_aload_n dX5_startWith_15 rfl rfl ?_
      refine z_get dX5_startWith_16 rfl hiX5_startWith_X5 1 lkX5_startWith_15 (Nat.le_of_ble_eq_true rfl) rfl rfl (by decide) rfl ?_
      refine z_iload_n dX5_startWith_19 rfl rfl ?_
      refine z_iconst (v := nI 0) dX5_startWith_20 rfl (by decide) ?_
      refine z_zastN (j := k) dX5_startWith_21 rfl (Nat.le_of_ble_eq_true rfl) rfl (rfl) (by omega) (by decide) rfl ?_
      refine z_n (L' := [(36, (oTld G bo oo)), (37, (zZ G 120 (upd fl1 k (nI 0)))), (38, (zZ G 120 (upd ba1 k (nI 0)))), (39, (zI G 120 or1))]) rfl ?_
      refine z_aload_n dX5_startWith_22 rfl rfl ?_
      refine z_get dX5_startWith_23 rfl hiX5_startWith_X5 2 lkX5_startWith_18 (Nat.le_of_ble_eq_true rfl) rfl rfl (by decide) rfl ?_
      refine z_iload_n dX5_startWith_26 rfl rfl ?_
      refine z_iconst (v := nI 0) dX5_startWith_27 rfl (by decide) ?_
      refine z_iastN (j := k) dX5_startWith_28 rfl (Nat.le_of_ble_eq_true rfl) rfl (rfl) (by omega) (by decide) ?_
      refine z_n (L' := [(36, (oTld G bo oo)), (37, (zZ G 120 (upd fl1 k (nI 0)))), (38, (zZ G 120 (upd ba1 k (nI 0)))), (39, (zI G 120 (upd or1 k (nI 0))))]) rfl ?_
      refine z_iinc_2 (v := nI (k + 1)) dX5_startWith_29 rfl (zinc _) ?_
      refine z_goto (tgt := 2) dX5_startWith_32 (by decide) ?_
      exact K
  · intro _
    refine z_iload_n dX5_startWith_2 rfl rfl ?_
    refine z_bipush (v := nI 120) dX5_startWith_3 rfl (by decide) ?_
    refine z_icmp_ge (tgt := 35) dX5_startWith_5 rfl (by decide) (fun c5 => ?_) (fun c5 => ?_)
    · refine z_aload_n dX5_startWith_35 rfl rfl ?_
      refine z_iconst (v := nI 0) dX5_startWith_36 rfl (by decide) ?_
      refine z_putN (e9 := (oTld G (nI 0) oo)) tyX5 tyX5_ok nmX5 dX5_startWith_37 rfl hiX5_startWith_X5 3 lkX5_startWith_22 rfl (by decide +kernel) (Nat.le_of_ble_eq_true rfl) rfl rfl (by decide) (Nat.le_of_ble_eq_true rfl) rfl rfl rfl ?_
      refine z_n (L' := [(36, (oTld G (nI 0) oo)), (37, (zZ G 120 ((zfold (X5_startWith_L2_F) 120 0 (fl, ba, ori)).1))), (38, (zZ G 120 ((zfold (X5_startWith_L2_F) 120 0 (fl, ba, ori)).2.1))), (39, (zI G 120 ((zfold (X5_startWith_L2_F) 120 0 (fl, ba, ori)).2.2)))]) rfl ?_
      refine z_aload_n dX5_startWith_40 rfl rfl ?_
      refine z_iconst (v := nI 0) dX5_startWith_41 rfl (by decide) ?_
      refine z_putN (e9 := (oTld G (nI 0) (nI 0))) tyX5 tyX5_ok nmX5 dX5_startWith_42 rfl hiX5_startWith_X5 4 lkX5_startWith_26 rfl (by decide +kernel) (Nat.le_of_ble_eq_true rfl) rfl rfl (by decide) (Nat.le_of_ble_eq_true rfl) rfl rfl rfl ?_
      refine z_n (L' := [(36, (oTld G (nI 0) (nI 0))), (37, (zZ G 120 ((zfold (X5_startWith_L2_F) 120 0 (fl, ba, ori)).1))), (38, (zZ G 120 ((zfold (X5_startWith_L2_F) 120 0 (fl, ba, ori)).2.1))), (39, (zI G 120 ((zfold (X5_startWith_L2_F) 120 0 (fl, ba, ori)).2.2)))]) rfl ?_
      refine z_iconst (v := nI 0) dX5_startWith_45 rfl (by decide) ?_
      refine z_istore_2 dX5_startWith_46 rfl ?_
      refine z_forI (head := fun ln (st9 : (Nat → Int32)) => Z G mX5_startWith (zrm 3 71) ex _ 47 [some (.ref (zB G + 36)), some (.ref (zB G + 19)), some (.int (nI ln))] [] (zN, zus g [(36, (oTld G (nI 0) (nI 0))), (37, (zZ G 120 st9)), (38, (zZ G 120 ((zfold (X5_startWith_L2_F) 120 0 (fl, ba, ori)).2.1))), (39, (zI G 120 ((zfold (X5_startWith_L2_F) 120 0 (fl, ba, ori)).2.2)))]) 0 0) (F := (X5_startWith_L47_F sz wd)) (n := lns) (fun _ _ => True) (fun _ _ _ _ => trivial) ?_ lns 0 ((zfold (X5_startWith_L2_F) 120 0 (fl, ba, ori)).1) (by omega) trivial ?_
      · intro ln fl2 hi _ K
        refine z_iload_n dX5_startWith_47 rfl rfl ?_
        refine z_aload_n dX5_startWith_48 rfl rfl ?_
        refine z_get dX5_startWith_49 rfl hiX5_startWith_X4 1 lkX5_startWith_38 (Nat.le_of_ble_eq_true rfl) h19 rfl (by decide) rfl ?_
        refine z_icmp_ge (tgt := 77) dX5_startWith_52 rfl (by decide) (fun c52 => ?_) (fun c52 => ?_)
        · exact absurd c52 (nI_ge hi (by omega))
        · refine z_aload_n dX5_startWith_55 rfl rfl ?_
          refine z_aload_n dX5_startWith_56 rfl rfl ?_
          refine z_get dX5_startWith_57 rfl hiX5_startWith_X4 5 lkX5_startWith_43 (Nat.le_of_ble_eq_true rfl) h19 rfl (by decide) rfl ?_
          refine z_iload_n dX5_startWith_60 rfl rfl ?_
          refine z_aaldN (j := ln) (a := zB G + (23 + ln)) dX5_startWith_61 rfl (Nat.le_of_ble_eq_true rfl) h22 (rfl) (by omega) (by decide) (zrw_at (by omega)) ?_
          refine z_aload_n dX5_startWith_62 rfl rfl ?_
          refine z_get dX5_startWith_63 rfl hiX5_startWith_X4 4 lkX5_startWith_47 (Nat.le_of_ble_eq_true rfl) h19 rfl (by decide) rfl ?_
          refine z_iload_n dX5_startWith_66 rfl rfl ?_
          refine z_ialdN (j := ln) dX5_startWith_67 rfl (Nat.le_of_ble_eq_true rfl) h21 (rfl) (by omega) (by decide) ?_
          refine z_top (show sz ln = nI ((sz ln).toNatClampNeg) from zvin (hsz _ hi)) ?_
          refine z_callVv (c_X5_flatten G ex _ (nI 0) (nI 0) fl2 (wd ln) (23 + ln) ((sz ln).toNatClampNeg) (zk12 (by omega) (by decide)) (by omega) (Nat.lt_succ_iff.mp (zvlt (hsz _ hi))) (hwd _ hi) (hwx _ hi) rfl rfl (zus_out (by intro q hq; simp at hq; omega) (h23 _ (by omega)))) gX5_startWith_X5_flatten rfl dX5_startWith_68 rfl rfl rfl okk_X5_flatten (Nat.le_of_ble_eq_true rfl) rfl rfl ⟨Nat.le_of_ble_eq_true rfl, Nat.le_of_ble_eq_true rfl⟩ ⟨Nat.le_of_ble_eq_true rfl, Nat.le_of_ble_eq_true rfl⟩ (Nat.le_of_ble_eq_true rfl) ?_
          refine z_nn (L' := [(36, (oTld G (nI 0) (nI 0))), (37, (zZ G 120 (X5_flatten_c37 fl2 (wd ln) ((sz ln).toNatClampNeg)))), (38, (zZ G 120 ((zfold (X5_startWith_L2_F) 120 0 (fl, ba, ori)).2.1))), (39, (zI G 120 ((zfold (X5_startWith_L2_F) 120 0 (fl, ba, ori)).2.2)))]) rfl ?_
          refine z_iinc_2 (v := nI (ln + 1)) dX5_startWith_71 rfl (zinc _) ?_
          refine z_goto (tgt := 47) dX5_startWith_74 (by decide) ?_
          exact K
      · intro _
        refine z_iload_n dX5_startWith_47 rfl rfl ?_
        refine z_aload_n dX5_startWith_48 rfl rfl ?_
        refine z_get dX5_startWith_49 rfl hiX5_startWith_X4 1 lkX5_startWith_38 (Nat.le_of_ble_eq_true rfl) h19 rfl (by decide) rfl ?_
        refine z_icmp_ge (tgt := 77) dX5_startWith_52 rfl (by decide) (fun c52 => ?_) (fun c52 => ?_)
        · exact z_return dX5_startWith_77 rfl (Nat.le_refl _) (Nat.le_refl _) (fun _ => rfl) ⟨rfl, by simp only [X5_startWith_p36_0, X5_startWith_p36_1, X5_startWith_c37, X5_startWith_c38, X5_startWith_c39]⟩
        · exact absurd (nI_le (Nat.le_refl _) (by omega)) c52
    · exact absurd (nI_le (Nat.le_refl _) (by omega)) c5
