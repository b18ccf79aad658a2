theorem mn3 : ∀ a, a < 10 → ∀ b, b < 10 → ∀ c, c < 10 → (if (if nI c < nI b then nI c else nI b) < nI a then (if nI c < nI b then nI c else nI b) else nI a) = nI (min a (min b c)) := by decide +kernel
theorem mx3 : ∀ a, a < 10 → ∀ b, b < 10 → ∀ c, c < 10 → (if nI a < (if nI b < nI c then nI c else nI b) then (if nI b < nI c then nI c else nI b) else nI a) = nI (max a (max b c)) := by decide +kernel
theorem md3 : ∀ a, a < 10 → ∀ b, b < 10 → ∀ c, c < 10 → nI a + nI b + nI c - nI (min a (min b c)) - nI (max a (max b c)) = nI (a + b + c - min a (min b c) - max a (max b c)) := by decide +kernel
def rsN (a b c j : Nat) : Nat := if j = 0 then min a (min b c) else if j = 1 then a + b + c - min a (min b c) - max a (max b c) else max a (max b c)
theorem rsN_lt {a b c j : Nat} (ha : a < 10) (hb : b < 10) (hc : c < 10) : rsN a b c j < 10 := by
  unfold rsN
  split
  · omega
  · split <;> omega
theorem zup0 (f : Nat → Int32) (i : Nat) (v : Int32) : upd f i v i = v := by simp [upd]
theorem zupn {f : Nat → Int32} {i j : Nat} {v : Int32} (h : j ≠ i) : upd f i v j = f j := by simp [upd, h]
/-- the three places in rising order -/
theorem tt_at {f : Nat → Int32} {a b c j : Nat} (ha : a < 10) (hb : b < 10) (hc : c < 10) (hj : j < 3) : (upd (upd (upd f 0 (if (if nI c < nI b then nI c else nI b) < nI a then (if nI c < nI b then nI c else nI b) else nI a)) 2 (if nI a < (if nI b < nI c then nI c else nI b) then (if nI b < nI c then nI c else nI b) else nI a)) 1
    (nI a + nI b + nI c - (upd (upd f 0 (if (if nI c < nI b then nI c else nI b) < nI a then (if nI c < nI b then nI c else nI b) else nI a)) 2 (if nI a < (if nI b < nI c then nI c else nI b) then (if nI b < nI c then nI c else nI b) else nI a)) 0 - (upd (upd f 0 (if (if nI c < nI b then nI c else nI b) < nI a then (if nI c < nI b then nI c else nI b) else nI a)) 2 (if nI a < (if nI b < nI c then nI c else nI b) then (if nI b < nI c then nI c else nI b) else nI a)) 2)) j = nI (rsN a b c j) := by
  rw [mn3 a ha b hb c hc, mx3 a ha b hb c hc]
  rcases (show j = 0 ∨ j = 1 ∨ j = 2 by omega) with rfl | rfl | rfl
  · rw [zupn (by decide), zupn (by decide), zup0]; rfl
  · rw [zup0, zupn (by decide), zup0, zup0, md3 a ha b hb c hc]; rfl
  · rw [zupn (by decide), zup0]; rfl
/-- which sign of a term is open -/
def opN (now rl : Nat → Int32) (tm : Nat) : Nat := if X0_signIn_v now rl tm 0 = -4 then 0 else 1
theorem tell_at {now rl tt ba : Nat → Int32} {tm : Nat} {due : Int32} (ht : tm < 3) (hr : ∀ j, j < 5 → vp_in (rl j) 10) (h : ¬ X0_tell_v now rl ba tm due = -4) : ∀ j, j < 3 → X0_tell_c66 now rl tt ba tm due j = nI (rsN (rl 0).toNatClampNeg (rl (beN (4 * tm + 2 * opN now rl tm))).toNatClampNeg (rl (beN (4 * tm + 2 * opN now rl tm + 1))).toNatClampNeg j) := fun j hj => by
  have q : ∀ k, k < 12 → (rl (beN k)).toNatClampNeg < 10 := fun k hk => zvlt (hr _ (beN_lt hk))
  have q0 : (rl 0).toNatClampNeg < 10 := zvlt (hr _ (by omega))
  unfold X0_tell_v at h
  unfold X0_tell_c66 opN
  by_cases c1 : X0_signIn_v now rl tm 0 = -4
  · simp only [if_pos c1] at h ⊢
    by_cases c2 : X0_signIn_v now rl tm (1 - 0) = 0
    · simp only [if_pos c2] at h
      exact absurd trivial h
    · simp only [if_neg c2]
      have e : ∀ f : Nat → Int32, (if (((due * (ttI tm)) * (X0_signIn_v now rl tm (1 - 0))) * (X5_turnOf_v (nI ((rl 0).toNatClampNeg)) (nI ((rl (beN ((4 * tm) + (2 * 0)))).toNatClampNeg)) (nI ((rl (beN (((4 * tm) + (2 * 0)) + 1))).toNatClampNeg)))) = 0 then (if (ba (spN ((rl 0).toNatClampNeg) ((rl (beN ((4 * tm) + (2 * 0)))).toNatClampNeg) ((rl (beN (((4 * tm) + (2 * 0)) + 1))).toNatClampNeg))) = 0 then f else f) else f) = f := fun f => by split <;> (try split) <;> rfl
      rw [e]
      exact tt_at q0 (q _ (by omega)) (q _ (by omega)) hj
  · simp only [if_neg c1] at h ⊢
    by_cases c2 : X0_signIn_v now rl tm (1 - 1) = 0
    · simp only [if_pos c2] at h
      exact absurd trivial h
    · simp only [if_neg c2]
      have e : ∀ f : Nat → Int32, (if (((due * (ttI tm)) * (X0_signIn_v now rl tm (1 - 1))) * (X5_turnOf_v (nI ((rl 0).toNatClampNeg)) (nI ((rl (beN ((4 * tm) + (2 * 1)))).toNatClampNeg)) (nI ((rl (beN (((4 * tm) + (2 * 1)) + 1))).toNatClampNeg)))) = 0 then (if (ba (spN ((rl 0).toNatClampNeg) ((rl (beN ((4 * tm) + (2 * 1)))).toNatClampNeg) ((rl (beN (((4 * tm) + (2 * 1)) + 1))).toNatClampNeg))) = 0 then f else f) else f) = f := fun f => by split <;> (try split) <;> rfl
      rw [e]
      exact tt_at q0 (q _ (by omega)) (q _ (by omega)) hj
theorem tell_in {now rl tt ba : Nat → Int32} {tm : Nat} {due : Int32} (ht : tm < 3) (hr : ∀ j, j < 5 → vp_in (rl j) 10) (h : ¬ X0_tell_v now rl ba tm due = -4) : ∀ j, j < 3 → vp_in (X0_tell_c66 now rl tt ba tm due j) 10 := fun j hj => by
  rw [tell_at ht hr h j hj]
  exact vp_in_nI (rsN_lt (zvlt (hr _ (by omega))) (zvlt (hr _ (beN_lt (by unfold opN; split <;> omega)))) (zvlt (hr _ (beN_lt (by unfold opN; split <;> omega))))) (by decide)
theorem zfoldB_I {α β : Type} {B : Nat → α → Option β} {F : Nat → α → α} {n : Nat} (I : Nat → α → Prop) (J : β → Prop) (hI : ∀ i a, i < n → I i a → B i a = none → I (i + 1) (F i a)) (hJ : ∀ i a b, i < n → I i a → B i a = some b → J b) :
    ∀ (d i : Nat) (a : α), i + d = n → I i a → (∀ b a', zfoldB B F d i a = (some b, a') → J b) ∧ (∀ a', zfoldB B F d i a = (none, a') → I n a') := by
  intro d
  induction d with
  | zero =>
    intro i a h h0
    have e : i = n := by omega
    subst e
    exact ⟨fun b a' q => by simp [zfoldB] at q, fun a' q => by simp [zfoldB] at q; exact q ▸ h0⟩
  | succ d ih =>
    intro i a h h0
    cases hb : B i a with
    | some b =>
      have e : zfoldB B F (d + 1) i a = (some b, a) := by simp [zfoldB, hb]
      rw [e]
      exact ⟨fun b' a' q => by cases q; exact hJ i a b (by omega) h0 hb, fun a' q => by cases q⟩
    | none =>
      have e : zfoldB B F (d + 1) i a = zfoldB B F d (i + 1) (F i a) := by simp [zfoldB, hb]
      rw [e]
      exact ih (i + 1) (F i a) (by omega) (hI i a (by omega) h0 hb)
theorem zpick_J {α β γ : Type} {r : Option β × α} {f : β → γ} {k : α → γ} (J : γ → Prop) (h1 : ∀ b a', r = (some b, a') → J (f b)) (h2 : ∀ a', r = (none, a') → J (k a')) : J (zpick r f k) := by
  obtain ⟨b, a⟩ := r
  cases b with
  | none => exact h2 a rfl
  | some b => exact h1 b a rfl
theorem judge_op {rows outc ts : Int32} {now rl tt ba : Nat → Int32} : (∀ b a', zfoldB (X0_judge_L10_B ts now rl tt) (X0_judge_L10_F now rl) 3 0 ((-4), nI 0, nI 0) = (some b, a') → b = (-4, ts, tt)) ∧ (∀ a', zfoldB (X0_judge_L10_B ts now rl tt) (X0_judge_L10_F now rl) 3 0 ((-4), nI 0, nI 0) = (none, a') → a'.1 = -4 ∨ vp_in a'.1 3) := by
  refine zfoldB_I (n := 3) (fun (_ : Nat) (a : Int32 × Int32 × Int32) => a.1 = -4 ∨ vp_in a.1 3) (fun b => b = (-4, ts, tt)) (fun i a hi h _ => ?_) (fun i a b hi h hB => ?_) 3 0 _ rfl (Or.inl rfl)
  · unfold X0_judge_L10_F
    repeat' split
    all_goals first | exact h | exact Or.inr (vp_in_nI hi (by decide))
  · unfold X0_judge_L10_B at hB
    repeat' split at hB
    all_goals (cases hB <;> rfl)
theorem judge_in {rows outc ts : Int32} {now rl tt ba : Nat → Int32} (hr : ∀ j, j < 5 → vp_in (rl j) 10) : ¬ X0_judge_v rows outc ts now rl tt ba = -4 → ¬ X0_judge_v rows outc ts now rl tt ba = nI 1 → ∀ j, j < 3 → vp_in (X0_judge_c66 rows outc ts now rl tt ba j) 10 := by
  obtain ⟨j1, j2⟩ := judge_op (rows := rows) (outc := outc) (ts := ts) (now := now) (rl := rl) (tt := tt) (ba := ba)
  unfold X0_judge_v X0_judge_c66
  generalize zfoldB (X0_judge_L10_B ts now rl tt) (X0_judge_L10_F now rl) 3 0 ((-4), nI 0, nI 0) = r at j1 j2 ⊢
  obtain ⟨b, a⟩ := r
  cases b with
  | some b =>
    rw [zpick_s, zpick_s, j1 b a rfl]
    intro h
    exact absurd rfl h
  | none =>
    rw [zpick_n, zpick_n]
    have h9 := j2 a rfl
    by_cases c0 : a.1 = -4
    · simp only [if_pos c0]
      repeat' split
      all_goals (intro q1 q2; first | exact absurd rfl q1 | exact absurd rfl q2)
    · have hv := h9.resolve_left c0
      simp only [if_neg c0]
      repeat' split
      all_goals (intro q1 q2; first | exact absurd rfl q1 | exact tell_in (zvlt hv) hr q1)
theorem fk_in {rows outc ts : Int32} {now rl tt ba : Nat → Int32} {pts : Nat} (hp : pts ≤ 10) : ¬ X0_firstKind_v rows outc ts now rl tt ba pts = -4 → ¬ X0_firstKind_v rows outc ts now rl tt ba pts = nI 1 → ∀ j, j < 3 → vp_in (X0_firstKind_c66 rows outc ts now rl tt ba pts j) 10 := by
  have j6 : ∀ b a', zfoldB (X0_firstKind_L6_B rows outc now ba pts) (X0_firstKind_L6_F rows outc now ba pts) pts 0 (rl, ts, tt) = (some b, a') → ¬ b.1 = nI 1 → ∀ j, j < 3 → vp_in (b.2.2.2 j) 10 := by
    refine (zfoldB_I (n := pts) (fun _ _ => True) (fun (b : Int32 × Int32 × (Nat → Int32) × (Nat → Int32)) => ¬ b.1 = nI 1 → ∀ j, j < 3 → vp_in (b.2.2.2 j) 10) (fun _ _ _ _ _ => trivial) (fun ra a b hra _ hB => ?_) pts 0 _ (by omega) trivial).1
    unfold X0_firstKind_L6_B at hB
    revert hB
    refine zpick_J (fun z => z = some b → ¬ b.1 = nI 1 → ∀ j, j < 3 → vp_in (b.2.2.2 j) 10) (fun b1 a1 h1 q => ?_) (fun a1 h1 q => by cases q)
    cases q
    refine (zfoldB_I (n := pts - 1) (fun _ _ => True) (fun (b : Int32 × Int32 × (Nat → Int32) × (Nat → Int32)) => ¬ b.1 = nI 1 → ∀ j, j < 3 → vp_in (b.2.2.2 j) 10) (fun _ _ _ _ _ => trivial) (fun rb a b hrb _ hB => ?_) (pts - 1) 0 _ (by omega) trivial).1 _ _ h1
    unfold X0_firstKind_L14_B at hB
    revert hB
    refine zpick_J (fun z => z = some b → ¬ b.1 = nI 1 → ∀ j, j < 3 → vp_in (b.2.2.2 j) 10) (fun b1 a1 h1 q => ?_) (fun a1 h1 q => by cases q)
    cases q
    refine (zfoldB_I (n := pts - 1) (fun i _ => rb + 1 ≤ i) (fun (b : Int32 × Int32 × (Nat → Int32) × (Nat → Int32)) => ¬ b.1 = nI 1 → ∀ j, j < 3 → vp_in (b.2.2.2 j) 10) (fun _ _ _ h _ => Nat.le_succ_of_le h) (fun rc a b hrc hbc hB => ?_) _ _ _ (by omega) (Nat.le_refl _)).1 _ _ h1
    unfold X0_firstKind_L26_B at hB
    revert hB
    refine zpick_J (fun z => z = some b → ¬ b.1 = nI 1 → ∀ j, j < 3 → vp_in (b.2.2.2 j) 10) (fun b1 a1 h1 q => ?_) (fun a1 h1 q => by cases q)
    cases q
    refine (zfoldB_I (n := pts - 1) (fun i _ => rc + 1 ≤ i) (fun (b : Int32 × Int32 × (Nat → Int32) × (Nat → Int32)) => ¬ b.1 = nI 1 → ∀ j, j < 3 → vp_in (b.2.2.2 j) 10) (fun _ _ _ h _ => Nat.le_succ_of_le h) (fun rd a b hrd hcd hB => ?_) _ _ _ (by omega) (Nat.le_refl _)).1 _ _ h1
    unfold X0_firstKind_L38_B at hB
    revert hB
    refine zpick_J (fun z => z = some b → ¬ b.1 = nI 1 → ∀ j, j < 3 → vp_in (b.2.2.2 j) 10) (fun b1 a1 h1 q => ?_) (fun a1 h1 q => by cases q)
    cases q
    refine (zfoldB_I (n := pts - 1) (fun i _ => rd + 1 ≤ i) (fun (b : Int32 × Int32 × (Nat → Int32) × (Nat → Int32)) => ¬ b.1 = nI 1 → ∀ j, j < 3 → vp_in (b.2.2.2 j) 10) (fun _ _ _ h _ => Nat.le_succ_of_le h) (fun re a b hre hde hB => ?_) _ _ _ (by omega) (Nat.le_refl _)).1 _ _ h1
    unfold X0_firstKind_L50_B at hB
    split at hB
    · cases hB
    · rename_i c
      cases hB
      intro h2
      exact judge_in (sr_in (n := pts) hp hra (by omega) (by omega) (by omega) (by omega)) c h2
  unfold X0_firstKind_v X0_firstKind_c66
  generalize zfoldB (X0_firstKind_L6_B rows outc now ba pts) (X0_firstKind_L6_F rows outc now ba pts) pts 0 (rl, ts, tt) = r at j6 ⊢
  obtain ⟨b, a⟩ := r
  cases b with
  | some b =>
    rw [zpick_s, zpick_s]
    exact fun _ h => j6 b a rfl h
  | none =>
    rw [zpick_n]
    exact fun h => absurd rfl h
theorem addRow_p0 {rw : Nat} {nk : Int32} : X0_addRow_p59_0 rw nk = rw + 1 := by unfold X0_addRow_p59_0; split <;> rfl
theorem addRow_c60e {rw : Nat} {nk : Int32} {kd : Nat → Int32} : X0_addRow_c60 rw kd nk = upd kd rw nk := by unfold X0_addRow_c60; split <;> rfl
theorem addRow_c62e {rw : Nat} {nk : Int32} {rel rl : Nat → Int32} : X0_addRow_c62 rw rel rl nk = va_cpy rl rel 0 (5 * rw) 5 := by unfold X0_addRow_c62; split <;> rfl
theorem zup3 {f : Nat → Int32} {r : Nat} {x y z : Int32} {j : Nat} : (upd (upd (upd f (3 * r + 0) x) (3 * r + (0 + 1)) y) (3 * r + (0 + 1 + 1)) z) j = if j = 3 * r then x else if j = 3 * r + 1 then y else if j = 3 * r + 2 then z else f j := by
  simp only [upd]
  repeat' split
  all_goals first | rfl | omega
theorem addRow_c63e {rw : Nat} {nk : Int32} {tri tt : Nat → Int32} {j : Nat} : X0_addRow_c63 rw tri tt nk j = if j = 3 * rw then (if nk = nI 1 then -4 else tt 0) else if j = 3 * rw + 1 then (if nk = nI 1 then -4 else tt 1) else if j = 3 * rw + 2 then (if nk = nI 1 then -4 else tt 2) else tri j := by
  unfold X0_addRow_c63
  by_cases c : nk = nI 1
  · simp only [if_pos c]
    exact zup3
  · simp only [if_neg c]
    exact zup3
theorem addRow_in {rw : Nat} {nk : Int32} {kd tri tt : Nat → Int32} (h : ¬ nk = nI 1 → ∀ j, j < 3 → vp_in (tt j) 10) (h3 : ∀ i, i < rw → ¬ kd i = nI 1 → ∀ j, j < 3 → vp_in (tri (3 * i + j)) 10) : ∀ i, i < rw + 1 → ¬ X0_addRow_c60 rw kd nk i = nI 1 → ∀ j, j < 3 → vp_in (X0_addRow_c63 rw tri tt nk (3 * i + j)) 10 := fun i hi q j hj => by
  rw [addRow_c60e] at q
  rw [addRow_c63e]
  by_cases e : i = rw
  · subst e
    rw [zup0] at q
    simp only [if_neg q]
    rcases (show j = 0 ∨ j = 1 ∨ j = 2 by omega) with rfl | rfl | rfl
    · rw [if_pos (by omega)]; exact h q 0 (by omega)
    · rw [if_neg (by omega), if_pos (by omega)]; exact h q 1 (by omega)
    · rw [if_neg (by omega), if_neg (by omega), if_pos (by omega)]; exact h q 2 (by omega)
  · rw [zupn e] at q
    rw [if_neg (by omega), if_neg (by omega), if_neg (by omega)]
    exact h3 i (by omega) q j hj
theorem rc_at {rel rl : Nat → Int32} {i j : Nat} (hj : j < 5) : X0_recall_c65 rel rl i j = rel (5 * i + j) := by
  unfold X0_recall_c65 va_cpy
  simp [hj]
abbrev mX0_entry : zM := (cX0_entry, 3, (some .int), RX0, wsX0_entry, "entry")
theorem hiX0_entry_X0 : ∀ w ∈ wsX00, w ∈ wsX0_entry := fun w h => List.mem_cons_of_mem _ (List.mem_append_right _ h)
theorem lkX0_entry_22 : Cond.fieldLink RX0 22 "ConfigSearch$Following" "signs" "[I" ∈ wsX0_entry := by decide +kernel
theorem lkX0_entry_28 : Cond.fieldLink RX0 28 "ConfigSearch$Following" "triples" "[I" ∈ wsX0_entry := by decide +kernel
theorem lkX0_entry_25 : Cond.fieldLink RX0 25 "ConfigSearch$Following" "relations" "[I" ∈ wsX0_entry := by decide +kernel
theorem lkX0_entry_18 : Cond.fieldLink RX0 18 "ConfigSearch$Following" "kind" "[I" ∈ wsX0_entry := by decide +kernel
def X0_entry_v (kd sgn rel tri : Nat → Int32) (i w : Nat) : Int32 := if (nI w) = 0 then (kd i) else (if (nI 5) < (nI w) then (if (nI 8) < (nI w) then (sgn i) else (tri (((3 * i) + w) - 6))) else (rel (((5 * i) + w) - 1)))
set_option maxRecDepth 100000 in
set_option maxHeartbeats 4000000 in
theorem c_X0_entry (G : zG) (ex : Bool) (g : Nat → va_E) (rw : Nat) (outc ts : Int32) (kd sgn rel tri : Nat → Int32) (i w : Nat) (hi : i < 60) (hw : w < 10) (h59 : g 59 = (oFol G (nI rw) outc ts)) (h60 : g 60 = (zI G 60 kd)) (h61 : g 61 = (zI G 60 sgn)) (h62 : g 62 = (zI G 300 rel)) (h63 : g 63 = (zI G 180 tri)) : zC G yX0_entry wsX0_entry (zrm 0 0) ex [.ref (zB G + 59), .int (nI i), .int (nI w)] (zN, g) (fun r h => r = some (.int (X0_entry_v kd sgn rel tri i w)) ∧ h = (zN, g)) := by
  refine zC_of mX0_entry (lv := [some (.ref (zB G + 59)), some (.int (nI i)), some (.int (nI w))]) rfl rfl (by decide) (by intro v hv; simp at hv; rcases hv with rfl | rfl | rfl <;> rfl) (Nat.le_of_ble_eq_true rfl) rfl ?_
  refine z_0 ?_
  refine z_iload_n dX0_entry_0 rfl rfl ?_
  refine z_if_ne (tgt := 11) dX0_entry_1 rfl (by decide) (fun c1 => ?_) (fun c1 => ?_)
  · have hw1 : 1 ≤ w := Nat.pos_of_ne_zero (fun q => c1 (by rw [q]; rfl))
    refine z_iload_n dX0_entry_11 rfl rfl ?_
    refine z_iconst (v := nI 5) dX0_entry_12 rfl (by decide) ?_
    refine z_icmp_gt (tgt := 29) dX0_entry_13 rfl (by decide) (fun c13 => ?_) (fun c13 => ?_)
    · have hw6 : 6 ≤ w := Nat.lt_of_not_le (fun q => absurd c13 (nI_nlt q (by omega)))
      refine z_iload_n dX0_entry_29 rfl rfl ?_
      refine z_bipush (v := nI 8) dX0_entry_30 rfl (by decide) ?_
      refine z_icmp_gt (tgt := 51) dX0_entry_32 rfl (by decide) (fun c32 => ?_) (fun c32 => ?_)
      · refine z_aload_n dX0_entry_51 rfl rfl ?_
        refine z_get dX0_entry_52 rfl hiX0_entry_X0 3 lkX0_entry_22 (Nat.le_of_ble_eq_true rfl) h59 rfl (by decide) rfl ?_
        refine z_iload_n dX0_entry_55 rfl rfl ?_
        refine z_ialdN (j := i) dX0_entry_56 rfl (Nat.le_of_ble_eq_true rfl) h61 (rfl) (by omega) (by decide) ?_
        exact z_ireturn dX0_entry_57 rfl rfl (Nat.le_refl _) (Nat.le_refl _) (fun _ => rfl) ⟨by simp only [X0_entry_v, if_neg c1, if_pos c13, if_pos c32], rfl⟩
      · have hw8 : w ≤ 8 := Nat.not_lt.mp (fun q => c32 (nI_lt q (by omega)))
        refine z_aload_n dX0_entry_35 rfl rfl ?_
        refine z_get dX0_entry_36 rfl hiX0_entry_X0 6 lkX0_entry_28 (Nat.le_of_ble_eq_true rfl) h59 rfl (by decide) rfl ?_
        refine z_iconst (v := nI 3) dX0_entry_39 rfl (by decide) ?_
        refine z_iload_n dX0_entry_40 rfl rfl ?_
        refine z_imul dX0_entry_41 rfl ?_
        refine z_iload_n dX0_entry_42 rfl rfl ?_
        refine z_iadd dX0_entry_43 rfl ?_
        refine z_bipush (v := nI 6) dX0_entry_44 rfl (by decide) ?_
        refine z_isub dX0_entry_46 rfl ?_
        refine z_ialdN (j := ((3 * i) + w) - 6) dX0_entry_47 rfl (Nat.le_of_ble_eq_true rfl) h63 ((zq_sub (zq_add (zq_mul rfl rfl) rfl) rfl (by omega))) (by omega) (by decide) ?_
        refine z_goto (tgt := 57) dX0_entry_48 (by decide) ?_
        exact z_ireturn dX0_entry_57 rfl rfl (Nat.le_refl _) (Nat.le_refl _) (fun _ => rfl) ⟨by simp only [X0_entry_v, if_neg c1, if_pos c13, if_neg c32], rfl⟩
    · have hw5 : w ≤ 5 := Nat.not_lt.mp (fun q => c13 (nI_lt q (by omega)))
      refine z_aload_n dX0_entry_16 rfl rfl ?_
      refine z_get dX0_entry_17 rfl hiX0_entry_X0 5 lkX0_entry_25 (Nat.le_of_ble_eq_true rfl) h59 rfl (by decide) rfl ?_
      refine z_iconst (v := nI 5) dX0_entry_20 rfl (by decide) ?_
      refine z_iload_n dX0_entry_21 rfl rfl ?_
      refine z_imul dX0_entry_22 rfl ?_
      refine z_iload_n dX0_entry_23 rfl rfl ?_
      refine z_iadd dX0_entry_24 rfl ?_
      refine z_iconst (v := nI 1) dX0_entry_25 rfl (by decide) ?_
      refine z_isub dX0_entry_26 rfl ?_
      refine z_ialdN (j := ((5 * i) + w) - 1) dX0_entry_27 rfl (Nat.le_of_ble_eq_true rfl) h62 ((zq_sub (zq_add (zq_mul rfl rfl) rfl) rfl (by omega))) (by omega) (by decide) ?_
      exact z_ireturn dX0_entry_28 rfl rfl (Nat.le_refl _) (Nat.le_refl _) (fun _ => rfl) ⟨by simp only [X0_entry_v, if_neg c1, if_neg c13], rfl⟩
  · refine z_aload_n dX0_entry_4 rfl rfl ?_
    refine z_get dX0_entry_5 rfl hiX0_entry_X0 2 lkX0_entry_18 (Nat.le_of_ble_eq_true rfl) h59 rfl (by decide) rfl ?_
    refine z_iload_n dX0_entry_8 rfl rfl ?_
    refine z_ialdN (j := i) dX0_entry_9 rfl (Nat.le_of_ble_eq_true rfl) h60 (rfl) (by omega) (by decide) ?_
    exact z_ireturn dX0_entry_10 rfl rfl (Nat.le_refl _) (Nat.le_refl _) (fun _ => rfl) ⟨by simp only [X0_entry_v, if_pos c1], rfl⟩
abbrev mX0_lastTerm : zM := (cX0_lastTerm, 5, (some .int), RX0, wsX0_lastTerm, "lastTerm")
theorem hiX0_lastTerm_X0 : ∀ w ∈ wsX00, w ∈ wsX0_lastTerm := fun w h => List.mem_cons_of_mem _ (List.mem_append_left _ (List.mem_append_right _ h))
theorem lkX0_lastTerm_9 : Cond.fieldLink RX0 9 "ConfigSearch$Following" "rows" "I" ∈ wsX0_lastTerm := by decide +kernel
theorem okk_X0_gather : zOk yX0_gather 1 := by unfold zOk; decide +kernel
theorem okk_X0_recall : zOk yX0_recall 1 := by unfold zOk; decide +kernel
theorem lkX0_lastTerm_79 : Cond.fieldLink RX0 79 "ConfigSearch$Following" "TERM_TURN" "[I" ∈ wsX0_lastTerm := by decide +kernel
def X0_lastTerm_v (rw : Nat) (kd sgn rel tri : Nat → Int32) (fl ori now rl : Nat → Int32) (tm sd : Nat) : Int32 := if (nI 2) ≤ (nI sd) then (if (X0_signIn_v (X0_gather_c64 now kd sgn tri fl ori rw) (X0_recall_c65 rel rl (rw - 1)) tm 0) = (-4) then (-4) else (if (X0_signIn_v (X0_gather_c64 now kd sgn tri fl ori rw) (X0_recall_c65 rel rl (rw - 1)) tm 1) = (-4) then (-4) else (((ttI tm) * (X0_signIn_v (X0_gather_c64 now kd sgn tri fl ori rw) (X0_recall_c65 rel rl (rw - 1)) tm 0)) * (X0_signIn_v (X0_gather_c64 now kd sgn tri fl ori rw) (X0_recall_c65 rel rl (rw - 1)) tm 1)))) else (X0_signIn_v (X0_gather_c64 now kd sgn tri fl ori rw) (X0_recall_c65 rel rl (rw - 1)) tm sd)
def X0_lastTerm_c64 (rw : Nat) (kd sgn rel tri : Nat → Int32) (fl ori now rl : Nat → Int32) (tm sd : Nat) : Nat → Int32 := if (nI 2) ≤ (nI sd) then (if (X0_signIn_v (X0_gather_c64 now kd sgn tri fl ori rw) (X0_recall_c65 rel rl (rw - 1)) tm 0) = (-4) then (X0_gather_c64 now kd sgn tri fl ori rw) else (if (X0_signIn_v (X0_gather_c64 now kd sgn tri fl ori rw) (X0_recall_c65 rel rl (rw - 1)) tm 1) = (-4) then (X0_gather_c64 now kd sgn tri fl ori rw) else (X0_gather_c64 now kd sgn tri fl ori rw))) else (X0_gather_c64 now kd sgn tri fl ori rw)
def X0_lastTerm_c65 (rw : Nat) (kd sgn rel tri : Nat → Int32) (fl ori now rl : Nat → Int32) (tm sd : Nat) : Nat → Int32 := if (nI 2) ≤ (nI sd) then (if (X0_signIn_v (X0_gather_c64 now kd sgn tri fl ori rw) (X0_recall_c65 rel rl (rw - 1)) tm 0) = (-4) then (X0_recall_c65 rel rl (rw - 1)) else (if (X0_signIn_v (X0_gather_c64 now kd sgn tri fl ori rw) (X0_recall_c65 rel rl (rw - 1)) tm 1) = (-4) then (X0_recall_c65 rel rl (rw - 1)) else (X0_recall_c65 rel rl (rw - 1)))) else (X0_recall_c65 rel rl (rw - 1))
set_option maxRecDepth 100000 in
set_option maxHeartbeats 4000000 in
theorem c_X0_lastTerm (G : zG) (ex : Bool) (g : Nat → va_E) (rw : Nat) (outc ts : Int32) (kd sgn rel tri : Nat → Int32) (bo oo : Int32) (fl ori now rl : Nat → Int32) (tm sd : Nat) (hrw1 : 1 ≤ rw) (hrw : rw ≤ 60) (ht : tm < 3) (hs : sd < 3) (h3 : ∀ i, i < rw → ¬ kd i = nI 1 → ∀ j, j < 3 → vp_in (tri (3 * i + j)) 10) (hre : ∀ i, i < rw → ∀ j, j < 5 → vp_in (rel (5 * i + j)) 10) (h59 : g 59 = (oFol G (nI rw) outc ts)) (h60 : g 60 = (zI G 60 kd)) (h61 : g 61 = (zI G 60 sgn)) (h62 : g 62 = (zI G 300 rel)) (h63 : g 63 = (zI G 180 tri)) (h36 : g 36 = (oTld G bo oo)) (h37 : g 37 = (zZ G 120 fl)) (h39 : g 39 = (zI G 120 ori)) (h64 : g 64 = (zI G 1000 now)) (h65 : g 65 = (zI G 5 rl)) : zC G yX0_lastTerm wsX0_lastTerm (zrm 4 92) ex [.ref (zB G + 59), .int (nI tm), .int (nI sd)] (zN, g) (fun r h => r = some (.int (X0_lastTerm_v rw kd sgn rel tri fl ori now rl tm sd)) ∧ h = (zN, zus g [(64, zI G 1000 (X0_lastTerm_c64 rw kd sgn rel tri fl ori now rl tm sd)), (65, zI G 5 (X0_lastTerm_c65 rw kd sgn rel tri fl ori now rl tm sd))])) := by
  refine zC_of mX0_lastTerm (lv := [some (.ref (zB G + 59)), some (.int (nI tm)), some (.int (nI sd)), none, none]) rfl rfl (by decide) (by intro v hv; simp at hv; rcases hv with rfl | rfl | rfl <;> rfl) (Nat.le_of_ble_eq_true rfl) rfl ?_
  refine z_0 ?_
  refine z_heap (g' := zu (zus g []) 64 (zI G 1000 now)) (zu_self (zus g []) 64 _ h64).symm ?_
  refine z_n (L' := [(64, (zI G 1000 now))]) rfl ?_
  refine z_heap (g' := zu (zus g [(64, (zI G 1000 now))]) 65 (zI G 5 rl)) (zu_self (zus g [(64, (zI G 1000 now))]) 65 _ h65).symm ?_
  refine z_n (L' := [(64, (zI G 1000 now)), (65, (zI G 5 rl))]) rfl ?_
  refine z_aload_n dX0_lastTerm_0 rfl rfl ?_
  refine z_aload_n dX0_lastTerm_1 rfl rfl ?_
  refine z_get dX0_lastTerm_2 rfl hiX0_lastTerm_X0 0 lkX0_lastTerm_9 (Nat.le_of_ble_eq_true rfl) h59 rfl (by decide) rfl ?_
  refine z_callVv (c_X0_gather G ex _ (nI rw) outc ts bo oo now kd sgn tri fl ori rw (by omega) (by assumption) h59 rfl h60 h61 h63 h36 h37 h39) gX0_lastTerm_X0_gather rfl dX0_lastTerm_5 rfl rfl rfl okk_X0_gather (Nat.le_of_ble_eq_true rfl) h59 rfl ⟨Nat.le_of_ble_eq_true rfl, Nat.le_of_ble_eq_true rfl⟩ ⟨Nat.le_of_ble_eq_true rfl, Nat.le_of_ble_eq_true rfl⟩ (Nat.le_of_ble_eq_true rfl) ?_
  refine z_nn (L' := [(64, (zI G 1000 (X0_gather_c64 now kd sgn tri fl ori rw))), (65, (zI G 5 rl))]) rfl ?_
  refine z_aload_n dX0_lastTerm_8 rfl rfl ?_
  refine z_aload_n dX0_lastTerm_9 rfl rfl ?_
  refine z_get dX0_lastTerm_10 rfl hiX0_lastTerm_X0 0 lkX0_lastTerm_9 (Nat.le_of_ble_eq_true rfl) h59 rfl (by decide) rfl ?_
  refine z_iconst (v := nI 1) dX0_lastTerm_13 rfl (by decide) ?_
  refine z_isub dX0_lastTerm_14 rfl ?_
  rw [show (nI rw) - (nI 1) = nI (rw - 1) from (zq_sub rfl rfl (by omega))]
  refine z_callVv (c_X0_recall G ex _ (nI rw) outc ts rel rl (rw - 1) (by omega) h59 h62 rfl) gX0_lastTerm_X0_recall rfl dX0_lastTerm_15 rfl rfl rfl okk_X0_recall (Nat.le_of_ble_eq_true rfl) h59 rfl ⟨Nat.le_of_ble_eq_true rfl, Nat.le_of_ble_eq_true rfl⟩ ⟨Nat.le_of_ble_eq_true rfl, Nat.le_of_ble_eq_true rfl⟩ (Nat.le_of_ble_eq_true rfl) ?_
  refine z_nn (L' := [(64, (zI G 1000 (X0_gather_c64 now kd sgn tri fl ori rw))), (65, (zI G 5 (X0_recall_c65 rel rl (rw - 1))))]) rfl ?_
  refine z_iload_n dX0_lastTerm_18 rfl rfl ?_
  refine z_iconst (v := nI 2) dX0_lastTerm_19 rfl (by decide) ?_
  refine z_icmp_ge (tgt := 30) dX0_lastTerm_20 rfl (by decide) (fun c20 => ?_) (fun c20 => ?_)
  · refine z_aload_n dX0_lastTerm_30 rfl rfl ?_
    refine z_iload_n dX0_lastTerm_31 rfl rfl ?_
    refine z_iconst (v := nI 0) dX0_lastTerm_32 rfl (by decide) ?_
    refine z_callVi (c_X0_signIn G ex _ (nI rw) outc ts (X0_gather_c64 now kd sgn tri fl ori rw) (X0_recall_c65 rel rl (rw - 1)) tm 0 (by omega) (by omega) (fun j hj => by rw [rc_at hj]; exact hre _ (by omega) j hj) h59 rfl rfl) gX0_lastTerm_X0_signIn rfl dX0_lastTerm_33 rfl rfl rfl okk_X0_signIn (Nat.le_of_ble_eq_true rfl) h59 rfl ⟨Nat.le_of_ble_eq_true rfl, Nat.le_of_ble_eq_true rfl⟩ ⟨Nat.le_of_ble_eq_true rfl, Nat.le_of_ble_eq_true rfl⟩ (Nat.le_of_ble_eq_true rfl) ?_
    refine z_istore_3 dX0_lastTerm_36 rfl ?_
    refine z_aload_n dX0_lastTerm_37 rfl rfl ?_
    refine z_iload_n dX0_lastTerm_38 rfl rfl ?_
    refine z_iconst (v := nI 1) dX0_lastTerm_39 rfl (by decide) ?_
    refine z_callVi (c_X0_signIn G ex _ (nI rw) outc ts (X0_gather_c64 now kd sgn tri fl ori rw) (X0_recall_c65 rel rl (rw - 1)) tm 1 (by omega) (by omega) (fun j hj => by rw [rc_at hj]; exact hre _ (by omega) j hj) h59 rfl rfl) gX0_lastTerm_X0_signIn rfl dX0_lastTerm_40 rfl rfl rfl okk_X0_signIn (Nat.le_of_ble_eq_true rfl) h59 rfl ⟨Nat.le_of_ble_eq_true rfl, Nat.le_of_ble_eq_true rfl⟩ ⟨Nat.le_of_ble_eq_true rfl, Nat.le_of_ble_eq_true rfl⟩ (Nat.le_of_ble_eq_true rfl) ?_
    refine z_istore_4 dX0_lastTerm_43 rfl ?_
    refine z_iload_n dX0_lastTerm_45 rfl rfl ?_
    refine z_bipush (v := (-4)) dX0_lastTerm_46 rfl (by decide) ?_
    refine z_icmp_eq (tgt := 58) dX0_lastTerm_48 rfl (by decide) (fun c48 => ?_) (fun c48 => ?_)
    · refine z_bipush (v := (-4)) dX0_lastTerm_58 rfl (by decide) ?_
      refine z_goto (tgt := 73) dX0_lastTerm_60 (by decide) ?_
      exact z_ireturn dX0_lastTerm_73 rfl rfl (Nat.le_refl _) (Nat.le_refl _) (fun _ => rfl) ⟨by simp only [X0_lastTerm_v, if_pos c20, if_pos c48], by simp only [X0_lastTerm_c64, X0_lastTerm_c65, if_pos c20, if_pos c48]⟩
    · refine z_iload dX0_lastTerm_51 rfl rfl ?_
      refine z_bipush (v := (-4)) dX0_lastTerm_53 rfl (by decide) ?_
      refine z_icmp_ne (tgt := 63) dX0_lastTerm_55 rfl (by decide) (fun c55 => ?_) (fun c55 => ?_)
      · refine z_gsT dX0_lastTerm_63 rfl lkX0_lastTerm_79 ?_
        refine z_iload_n dX0_lastTerm_66 rfl rfl ?_
        refine z_tTN (j := tm) dX0_lastTerm_67 rfl (rfl) (by omega) ?_
        refine z_iload_n dX0_lastTerm_68 rfl rfl ?_
        refine z_imul dX0_lastTerm_69 rfl ?_
        refine z_iload dX0_lastTerm_70 rfl rfl ?_
        refine z_imul dX0_lastTerm_72 rfl ?_
        exact z_ireturn dX0_lastTerm_73 rfl rfl (Nat.le_refl _) (Nat.le_refl _) (fun _ => rfl) ⟨by simp only [X0_lastTerm_v, if_pos c20, if_neg c48, if_neg c55], by simp only [X0_lastTerm_c64, X0_lastTerm_c65, if_pos c20, if_neg c48, if_neg c55]⟩
      · refine z_bipush (v := (-4)) dX0_lastTerm_58 rfl (by decide) ?_
        refine z_goto (tgt := 73) dX0_lastTerm_60 (by decide) ?_
        exact z_ireturn dX0_lastTerm_73 rfl rfl (Nat.le_refl _) (Nat.le_refl _) (fun _ => rfl) ⟨by simp only [X0_lastTerm_v, if_pos c20, if_neg c48, if_pos c55], by simp only [X0_lastTerm_c64, X0_lastTerm_c65, if_pos c20, if_neg c48, if_pos c55]⟩
  · have hs2 : sd < 2 := Nat.not_le.mp (fun q => c20 (nI_le q (by omega)))
    refine z_aload_n dX0_lastTerm_23 rfl rfl ?_
    refine z_iload_n dX0_lastTerm_24 rfl rfl ?_
    refine z_iload_n dX0_lastTerm_25 rfl rfl ?_
    refine z_callVi (c_X0_signIn G ex _ (nI rw) outc ts (X0_gather_c64 now kd sgn tri fl ori rw) (X0_recall_c65 rel rl (rw - 1)) tm sd (by omega) (by omega) (fun j hj => by rw [rc_at hj]; exact hre _ (by omega) j hj) h59 rfl rfl) gX0_lastTerm_X0_signIn rfl dX0_lastTerm_26 rfl rfl rfl okk_X0_signIn (Nat.le_of_ble_eq_true rfl) h59 rfl ⟨Nat.le_of_ble_eq_true rfl, Nat.le_of_ble_eq_true rfl⟩ ⟨Nat.le_of_ble_eq_true rfl, Nat.le_of_ble_eq_true rfl⟩ (Nat.le_of_ble_eq_true rfl) ?_
    exact z_ireturn dX0_lastTerm_29 rfl rfl (Nat.le_refl _) (Nat.le_refl _) (fun _ => rfl) ⟨by simp only [X0_lastTerm_v, if_neg c20], by simp only [X0_lastTerm_c64, X0_lastTerm_c65, if_neg c20]⟩
abbrev mX0_allFollow : zM := (cX0_allFollow, 2, (some .boolean), RX0, wsX0_allFollow, "allFollow")
theorem hiX0_allFollow_X0 : ∀ w ∈ wsX00, w ∈ wsX0_allFollow := fun w h => List.mem_cons_of_mem _ (List.mem_append_left _ (List.mem_append_right _ h))
theorem lkX0_allFollow_9 : Cond.fieldLink RX0 9 "ConfigSearch$Following" "rows" "I" ∈ wsX0_allFollow := by decide +kernel
theorem lkX0_allFollow_18 : Cond.fieldLink RX0 18 "ConfigSearch$Following" "kind" "[I" ∈ wsX0_allFollow := by decide +kernel
theorem okk_X0_tellsSame : zOk yX0_tellsSame 1 := by unfold zOk; decide +kernel
def X0_allFollow_L7_F (rw : Nat) (outc : Int32) (kd : Nat → Int32) (sgn : Nat → Int32) (rel : Nat → Int32) (tri : Nat → Int32) (ba : Nat → Int32) (k : Nat) (a9 : (Nat → Int32) × (Nat → Int32) × (Int32) × (Nat → Int32)) : (Nat → Int32) × (Nat → Int32) × (Int32) × (Nat → Int32) := if (X0_judge_v (nI rw) outc a9.2.2.1 a9.1 (X0_recall_c65 rel a9.2.1 k) a9.2.2.2 ba) = (kd k) then (if (kd k) = (nI 1) then (X0_learn_c64 a9.1 kd sgn tri k, X0_recall_c65 rel a9.2.1 k, X0_judge_p59_2 (nI rw) outc a9.2.2.1 a9.1 (X0_recall_c65 rel a9.2.1 k) a9.2.2.2 ba, X0_judge_c66 (nI rw) outc a9.2.2.1 a9.1 (X0_recall_c65 rel a9.2.1 k) a9.2.2.2 ba) else (if (X0_tellsSame_v (X0_judge_p59_2 (nI rw) outc a9.2.2.1 a9.1 (X0_recall_c65 rel a9.2.1 k) a9.2.2.2 ba) sgn tri (X0_judge_c66 (nI rw) outc a9.2.2.1 a9.1 (X0_recall_c65 rel a9.2.1 k) a9.2.2.2 ba) k) = 0 then (a9.1, a9.2.1, a9.2.2.1, a9.2.2.2) else (X0_learn_c64 a9.1 kd sgn tri k, X0_recall_c65 rel a9.2.1 k, X0_judge_p59_2 (nI rw) outc a9.2.2.1 a9.1 (X0_recall_c65 rel a9.2.1 k) a9.2.2.2 ba, X0_judge_c66 (nI rw) outc a9.2.2.1 a9.1 (X0_recall_c65 rel a9.2.1 k) a9.2.2.2 ba))) else (a9.1, a9.2.1, a9.2.2.1, a9.2.2.2)
def X0_allFollow_L7_B (rw : Nat) (outc : Int32) (kd : Nat → Int32) (sgn : Nat → Int32) (rel : Nat → Int32) (tri : Nat → Int32) (ba : Nat → Int32) (k : Nat) (a9 : (Nat → Int32) × (Nat → Int32) × (Int32) × (Nat → Int32)) : Option ((Int32) × (Int32) × (Nat → Int32) × (Nat → Int32) × (Nat → Int32)) := if (X0_judge_v (nI rw) outc a9.2.2.1 a9.1 (X0_recall_c65 rel a9.2.1 k) a9.2.2.2 ba) = (kd k) then (if (kd k) = (nI 1) then none else (if (X0_tellsSame_v (X0_judge_p59_2 (nI rw) outc a9.2.2.1 a9.1 (X0_recall_c65 rel a9.2.1 k) a9.2.2.2 ba) sgn tri (X0_judge_c66 (nI rw) outc a9.2.2.1 a9.1 (X0_recall_c65 rel a9.2.1 k) a9.2.2.2 ba) k) = 0 then (some (nI 0, X0_judge_p59_2 (nI rw) outc a9.2.2.1 a9.1 (X0_recall_c65 rel a9.2.1 k) a9.2.2.2 ba, a9.1, X0_recall_c65 rel a9.2.1 k, X0_judge_c66 (nI rw) outc a9.2.2.1 a9.1 (X0_recall_c65 rel a9.2.1 k) a9.2.2.2 ba)) else none)) else (some (nI 0, X0_judge_p59_2 (nI rw) outc a9.2.2.1 a9.1 (X0_recall_c65 rel a9.2.1 k) a9.2.2.2 ba, a9.1, X0_recall_c65 rel a9.2.1 k, X0_judge_c66 (nI rw) outc a9.2.2.1 a9.1 (X0_recall_c65 rel a9.2.1 k) a9.2.2.2 ba))
def X0_allFollow_v (rw : Nat) (outc ts : Int32) (kd sgn rel tri : Nat → Int32) (fl ori now rl : Nat → Int32) (ba tt : Nat → Int32) : Int32 := zpick (zfoldB (X0_allFollow_L7_B rw outc kd sgn rel tri ba) (X0_allFollow_L7_F rw outc kd sgn rel tri ba) rw 0 (X0_gather_c64 now kd sgn tri fl ori 0, rl, ts, tt)) (fun b => b.1) (fun am7 => nI 1)
def X0_allFollow_p59_2 (rw : Nat) (outc ts : Int32) (kd sgn rel tri : Nat → Int32) (fl ori now rl : Nat → Int32) (ba tt : Nat → Int32) : Int32 := zpick (zfoldB (X0_allFollow_L7_B rw outc kd sgn rel tri ba) (X0_allFollow_L7_F rw outc kd sgn rel tri ba) rw 0 (X0_gather_c64 now kd sgn tri fl ori 0, rl, ts, tt)) (fun b => b.2.1) (fun am7 => am7.2.2.1)
def X0_allFollow_c64 (rw : Nat) (outc ts : Int32) (kd sgn rel tri : Nat → Int32) (fl ori now rl : Nat → Int32) (ba tt : Nat → Int32) : Nat → Int32 := zpick (zfoldB (X0_allFollow_L7_B rw outc kd sgn rel tri ba) (X0_allFollow_L7_F rw outc kd sgn rel tri ba) rw 0 (X0_gather_c64 now kd sgn tri fl ori 0, rl, ts, tt)) (fun b => b.2.2.1) (fun am7 => am7.1)
def X0_allFollow_c65 (rw : Nat) (outc ts : Int32) (kd sgn rel tri : Nat → Int32) (fl ori now rl : Nat → Int32) (ba tt : Nat → Int32) : Nat → Int32 := zpick (zfoldB (X0_allFollow_L7_B rw outc kd sgn rel tri ba) (X0_allFollow_L7_F rw outc kd sgn rel tri ba) rw 0 (X0_gather_c64 now kd sgn tri fl ori 0, rl, ts, tt)) (fun b => b.2.2.2.1) (fun am7 => am7.2.1)
def X0_allFollow_c66 (rw : Nat) (outc ts : Int32) (kd sgn rel tri : Nat → Int32) (fl ori now rl : Nat → Int32) (ba tt : Nat → Int32) : Nat → Int32 := zpick (zfoldB (X0_allFollow_L7_B rw outc kd sgn rel tri ba) (X0_allFollow_L7_F rw outc kd sgn rel tri ba) rw 0 (X0_gather_c64 now kd sgn tri fl ori 0, rl, ts, tt)) (fun b => b.2.2.2.2) (fun am7 => am7.2.2.2)
set_option maxRecDepth 100000 in
set_option maxHeartbeats 4000000 in
theorem c_X0_allFollow (G : zG) (ex : Bool) (g : Nat → va_E) (rw : Nat) (outc ts : Int32) (kd sgn rel tri : Nat → Int32) (bo oo : Int32) (fl ori now rl : Nat → Int32) (ba tt : Nat → Int32) (hrw : rw ≤ 60) (h3 : ∀ i, i < rw → ¬ kd i = nI 1 → ∀ j, j < 3 → vp_in (tri (3 * i + j)) 10) (hre : ∀ i, i < rw → ∀ j, j < 5 → vp_in (rel (5 * i + j)) 10) (hrx : ∀ i, i < rw → ∀ k l, k < 5 → l < 5 → k ≠ l → (rel (5 * i + k)).toNatClampNeg ≠ (rel (5 * i + l)).toNatClampNeg) (h59 : g 59 = (oFol G (nI rw) outc ts)) (h60 : g 60 = (zI G 60 kd)) (h61 : g 61 = (zI G 60 sgn)) (h62 : g 62 = (zI G 300 rel)) (h63 : g 63 = (zI G 180 tri)) (h36 : g 36 = (oTld G bo oo)) (h37 : g 37 = (zZ G 120 fl)) (h39 : g 39 = (zI G 120 ori)) (h64 : g 64 = (zI G 1000 now)) (h65 : g 65 = (zI G 5 rl)) (h38 : g 38 = (zZ G 120 ba)) (h66 : g 66 = (zI G 3 tt)) : zC G yX0_allFollow wsX0_allFollow (zrm 4 101) ex [.ref (zB G + 59)] (zN, g) (fun r h => r = some (.int (X0_allFollow_v rw outc ts kd sgn rel tri fl ori now rl ba tt)) ∧ h = (zN, zus g [(59, (oFol G (nI rw) outc (X0_allFollow_p59_2 rw outc ts kd sgn rel tri fl ori now rl ba tt))), (64, zI G 1000 (X0_allFollow_c64 rw outc ts kd sgn rel tri fl ori now rl ba tt)), (65, zI G 5 (X0_allFollow_c65 rw outc ts kd sgn rel tri fl ori now rl ba tt)), (66, zI G 3 (X0_allFollow_c66 rw outc ts kd sgn rel tri fl ori now rl ba tt))])) := by
  refine zC_of mX0_allFollow (lv := [some (.ref (zB G + 59)), none]) rfl rfl (by decide) (by intro v hv; simp at hv; subst hv; rfl) (Nat.le_of_ble_eq_true rfl) rfl ?_
  refine z_0 ?_
  refine z_heap (g' := zu (zus g []) 59 (oFol G (nI rw) outc ts)) (zu_self (zus g []) 59 _ h59).symm ?_
  refine z_n (L' := [(59, (oFol G (nI rw) outc ts))]) rfl ?_
  refine z_heap (g' := zu (zus g [(59, (oFol G (nI rw) outc ts))]) 64 (zI G 1000 now)) (zu_self (zus g [(59, (oFol G (nI rw) outc ts))]) 64 _ h64).symm ?_
  refine z_n (L' := [(59, (oFol G (nI rw) outc ts)), (64, (zI G 1000 now))]) rfl ?_
  refine z_heap (g' := zu (zus g [(59, (oFol G (nI rw) outc ts)), (64, (zI G 1000 now))]) 65 (zI G 5 rl)) (zu_self (zus g [(59, (oFol G (nI rw) outc ts)), (64, (zI G 1000 now))]) 65 _ h65).symm ?_
  refine z_n (L' := [(59, (oFol G (nI rw) outc ts)), (64, (zI G 1000 now)), (65, (zI G 5 rl))]) rfl ?_
  refine z_heap (g' := zu (zus g [(59, (oFol G (nI rw) outc ts)), (64, (zI G 1000 now)), (65, (zI G 5 rl))]) 66 (zI G 3 tt)) (zu_self (zus g [(59, (oFol G (nI rw) outc ts)), (64, (zI G 1000 now)), (65, (zI G 5 rl))]) 66 _ h66).symm ?_
  refine z_n (L' := [(59, (oFol G (nI rw) outc ts)), (64, (zI G 1000 now)), (65, (zI G 5 rl)), (66, (zI G 3 tt))]) rfl ?_
  refine z_aload_n dX0_allFollow_0 rfl rfl ?_
  refine z_iconst (v := nI 0) dX0_allFollow_1 rfl (by decide) ?_
  refine z_callVv (c_X0_gather G ex _ (nI rw) outc ts bo oo now kd sgn tri fl ori 0 (by omega) (fun i h => absurd h (Nat.not_lt_zero i)) rfl rfl h60 h61 h63 h36 h37 h39) gX0_allFollow_X0_gather rfl dX0_allFollow_2 rfl rfl rfl okk_X0_gather (Nat.le_of_ble_eq_true rfl) rfl rfl ⟨Nat.le_of_ble_eq_true rfl, Nat.le_of_ble_eq_true rfl⟩ ⟨Nat.le_of_ble_eq_true rfl, Nat.le_of_ble_eq_true rfl⟩ (Nat.le_of_ble_eq_true rfl) ?_
  refine z_nn (L' := [(59, (oFol G (nI rw) outc ts)), (64, (zI G 1000 (X0_gather_c64 now kd sgn tri fl ori 0))), (65, (zI G 5 rl)), (66, (zI G 3 tt))]) rfl ?_
  refine z_iconst (v := nI 0) dX0_allFollow_5 rfl (by decide) ?_
  refine z_istore_1 dX0_allFollow_6 rfl ?_
  refine z_forB (head := fun k (st9 : (Nat → Int32) × (Nat → Int32) × (Int32) × (Nat → Int32)) => Z G mX0_allFollow (zrm 4 101) ex _ 7 [some (.ref (zB G + 59)), some (.int (nI k))] [] (zN, zus g [(59, (oFol G (nI rw) outc st9.2.2.1)), (64, (zI G 1000 st9.1)), (65, (zI G 5 st9.2.1)), (66, (zI G 3 st9.2.2.2))]) 0 0) (out := fun b _ => (some (Value.int b.1) = some (Value.int (X0_allFollow_v rw outc ts kd sgn rel tri fl ori now rl ba tt))) ∧ ((zN, zus g [(59, (oFol G (nI rw) outc b.2.1)), (64, (zI G 1000 b.2.2.1)), (65, (zI G 5 b.2.2.2.1)), (66, (zI G 3 b.2.2.2.2))]) : zAH) = (zN, zus g [(59, (oFol G (nI rw) outc (X0_allFollow_p59_2 rw outc ts kd sgn rel tri fl ori now rl ba tt))), (64, zI G 1000 (X0_allFollow_c64 rw outc ts kd sgn rel tri fl ori now rl ba tt)), (65, zI G 5 (X0_allFollow_c65 rw outc ts kd sgn rel tri fl ori now rl ba tt)), (66, zI G 3 (X0_allFollow_c66 rw outc ts kd sgn rel tri fl ori now rl ba tt))])) (B := (X0_allFollow_L7_B rw outc kd sgn rel tri ba)) (F := (X0_allFollow_L7_F rw outc kd sgn rel tri ba)) (n := rw) (fun _ _ => True) (fun _ _ _ _ _ => trivial) ?_ rw 0 (X0_gather_c64 now kd sgn tri fl ori 0, rl, ts, tt) (by omega) trivial ?_ ?_
  · intro k a9 hi _ Ko K
    obtain ⟨nw1, rl1, ts1, tt1⟩ := a9
    refine z_iload_n dX0_allFollow_7 rfl rfl ?_
    refine z_aload_n dX0_allFollow_8 rfl rfl ?_
    refine z_get dX0_allFollow_9 rfl hiX0_allFollow_X0 0 lkX0_allFollow_9 (Nat.le_of_ble_eq_true rfl) rfl rfl (by decide) rfl ?_
    refine z_icmp_ge (tgt := 64) dX0_allFollow_12 rfl (by decide) (fun c12 => ?_) (fun c12 => ?_)
    · exact absurd c12 (nI_ge hi (by omega))
    · refine z_aload_n dX0_allFollow_15 rfl rfl ?_
      refine z_iload_n dX0_allFollow_16 rfl rfl ?_
      refine z_callVv (c_X0_recall G ex _ (nI rw) outc ts1 rel rl1 k (by omega) rfl h62 rfl) gX0_allFollow_X0_recall rfl dX0_allFollow_17 rfl rfl rfl okk_X0_recall (Nat.le_of_ble_eq_true rfl) rfl rfl ⟨Nat.le_of_ble_eq_true rfl, Nat.le_of_ble_eq_true rfl⟩ ⟨Nat.le_of_ble_eq_true rfl, Nat.le_of_ble_eq_true rfl⟩ (Nat.le_of_ble_eq_true rfl) ?_
      refine z_nn (L' := [(59, (oFol G (nI rw) outc ts1)), (64, (zI G 1000 nw1)), (65, (zI G 5 (X0_recall_c65 rel rl1 k))), (66, (zI G 3 tt1))]) rfl ?_
      refine z_aload_n dX0_allFollow_20 rfl rfl ?_
      refine z_callVi (c_X0_judge G ex _ (nI rw) outc ts1 bo oo nw1 (X0_recall_c65 rel rl1 k) tt1 ba (fun j hj => by rw [rc_at hj]; exact hre _ (by omega) j hj) (fun k l hk hl hkl => by rw [rc_at hk, rc_at hl]; exact hrx _ (by omega) k l hk hl hkl) rfl rfl rfl rfl h36 h38) gX0_allFollow_X0_judge rfl dX0_allFollow_21 rfl rfl rfl okk_X0_judge (Nat.le_of_ble_eq_true rfl) rfl rfl ⟨Nat.le_of_ble_eq_true rfl, Nat.le_of_ble_eq_true rfl⟩ ⟨Nat.le_of_ble_eq_true rfl, Nat.le_of_ble_eq_true rfl⟩ (Nat.le_of_ble_eq_true rfl) ?_
      refine z_nn (L' := [(59, (oFol G (nI rw) outc (X0_judge_p59_2 (nI rw) outc ts1 nw1 (X0_recall_c65 rel rl1 k) tt1 ba))), (64, (zI G 1000 nw1)), (65, (zI G 5 (X0_recall_c65 rel rl1 k))), (66, (zI G 3 (X0_judge_c66 (nI rw) outc ts1 nw1 (X0_recall_c65 rel rl1 k) tt1 ba)))]) rfl ?_
      refine z_aload_n dX0_allFollow_24 rfl rfl ?_
      refine z_get dX0_allFollow_25 rfl hiX0_allFollow_X0 2 lkX0_allFollow_18 (Nat.le_of_ble_eq_true rfl) rfl rfl (by decide) rfl ?_
      refine z_iload_n dX0_allFollow_28 rfl rfl ?_
      refine z_ialdN (j := k) dX0_allFollow_29 rfl (Nat.le_of_ble_eq_true rfl) h60 (rfl) (by omega) (by decide) ?_
      refine z_icmp_ne (tgt := 51) dX0_allFollow_30 rfl (by decide) (fun c30 => ?_) (fun c30 => ?_)
      · refine z_iconst (v := nI 0) dX0_allFollow_51 rfl (by decide) ?_
        exact z_ireturn dX0_allFollow_52 rfl rfl (Nat.le_refl _) (Nat.le_refl _) (fun _ => rfl) (Ko (nI 0, X0_judge_p59_2 (nI rw) outc ts1 nw1 (X0_recall_c65 rel rl1 k) tt1 ba, nw1, X0_recall_c65 rel rl1 k, X0_judge_c66 (nI rw) outc ts1 nw1 (X0_recall_c65 rel rl1 k) tt1 ba) (by simp only [X0_allFollow_L7_B, if_neg c30]))
      · refine z_aload_n dX0_allFollow_33 rfl rfl ?_
        refine z_get dX0_allFollow_34 rfl hiX0_allFollow_X0 2 lkX0_allFollow_18 (Nat.le_of_ble_eq_true rfl) rfl rfl (by decide) rfl ?_
        refine z_iload_n dX0_allFollow_37 rfl rfl ?_
        refine z_ialdN (j := k) dX0_allFollow_38 rfl (Nat.le_of_ble_eq_true rfl) h60 (rfl) (by omega) (by decide) ?_
        refine z_iconst (v := nI 1) dX0_allFollow_39 rfl (by decide) ?_
        refine z_icmp_eq (tgt := 53) dX0_allFollow_40 rfl (by decide) (fun c40 => ?_) (fun c40 => ?_)
        · refine z_aload_n dX0_allFollow_53 rfl rfl ?_
          refine z_iload_n dX0_allFollow_54 rfl rfl ?_
          refine z_callVv (c_X0_learn G ex _ (nI rw) outc (X0_judge_p59_2 (nI rw) outc ts1 nw1 (X0_recall_c65 rel rl1 k) tt1 ba) nw1 kd sgn tri k (by omega) (h3 k (by omega)) rfl rfl h60 h61 h63) gX0_allFollow_X0_learn rfl dX0_allFollow_55 rfl rfl rfl okk_X0_learn (Nat.le_of_ble_eq_true rfl) rfl rfl ⟨Nat.le_of_ble_eq_true rfl, Nat.le_of_ble_eq_true rfl⟩ ⟨Nat.le_of_ble_eq_true rfl, Nat.le_of_ble_eq_true rfl⟩ (Nat.le_of_ble_eq_true rfl) ?_
          refine z_nn (L' := [(59, (oFol G (nI rw) outc (X0_judge_p59_2 (nI rw) outc ts1 nw1 (X0_recall_c65 rel rl1 k) tt1 ba))), (64, (zI G 1000 (X0_learn_c64 nw1 kd sgn tri k))), (65, (zI G 5 (X0_recall_c65 rel rl1 k))), (66, (zI G 3 (X0_judge_c66 (nI rw) outc ts1 nw1 (X0_recall_c65 rel rl1 k) tt1 ba)))]) rfl ?_
          refine z_iinc_1 (v := nI (k + 1)) dX0_allFollow_58 rfl (zinc _) ?_
          refine z_goto (tgt := 7) dX0_allFollow_61 (by decide) ?_
          have K9 := (K (by simp only [X0_allFollow_L7_B, if_pos c30, if_pos c40]))
          try simp only [X0_allFollow_L7_F, if_pos c30, if_pos c40] at K9
          exact K9
        · refine z_aload_n dX0_allFollow_43 rfl rfl ?_
          refine z_iload_n dX0_allFollow_44 rfl rfl ?_
          refine z_callVi (c_X0_tellsSame G ex _ (nI rw) outc (X0_judge_p59_2 (nI rw) outc ts1 nw1 (X0_recall_c65 rel rl1 k) tt1 ba) sgn tri (X0_judge_c66 (nI rw) outc ts1 nw1 (X0_recall_c65 rel rl1 k) tt1 ba) k (by omega) rfl h61 h63 rfl) gX0_allFollow_X0_tellsSame rfl dX0_allFollow_45 rfl rfl rfl okk_X0_tellsSame (Nat.le_of_ble_eq_true rfl) rfl rfl ⟨Nat.le_of_ble_eq_true rfl, Nat.le_of_ble_eq_true rfl⟩ ⟨Nat.le_of_ble_eq_true rfl, Nat.le_of_ble_eq_true rfl⟩ (Nat.le_of_ble_eq_true rfl) ?_
          refine z_if_ne (tgt := 53) dX0_allFollow_48 rfl (by decide) (fun c48 => ?_) (fun c48 => ?_)
          · refine z_aload_n dX0_allFollow_53 rfl rfl ?_
            refine z_iload_n dX0_allFollow_54 rfl rfl ?_
            refine z_callVv (c_X0_learn G ex _ (nI rw) outc (X0_judge_p59_2 (nI rw) outc ts1 nw1 (X0_recall_c65 rel rl1 k) tt1 ba) nw1 kd sgn tri k (by omega) (h3 k (by omega)) rfl rfl h60 h61 h63) gX0_allFollow_X0_learn rfl dX0_allFollow_55 rfl rfl rfl okk_X0_learn (Nat.le_of_ble_eq_true rfl) rfl rfl ⟨Nat.le_of_ble_eq_true rfl, Nat.le_of_ble_eq_true rfl⟩ ⟨Nat.le_of_ble_eq_true rfl, Nat.le_of_ble_eq_true rfl⟩ (Nat.le_of_ble_eq_true rfl) ?_
            refine z_nn (L' := [(59, (oFol G (nI rw) outc (X0_judge_p59_2 (nI rw) outc ts1 nw1 (X0_recall_c65 rel rl1 k) tt1 ba))), (64, (zI G 1000 (X0_learn_c64 nw1 kd sgn tri k))), (65, (zI G 5 (X0_recall_c65 rel rl1 k))), (66, (zI G 3 (X0_judge_c66 (nI rw) outc ts1 nw1 (X0_recall_c65 rel rl1 k) tt1 ba)))]) rfl ?_
            refine z_iinc_1 (v := nI (k + 1)) dX0_allFollow_58 rfl (zinc _) ?_
            refine z_goto (tgt := 7) dX0_allFollow_61 (by decide) ?_
            have K9 := (K (by simp only [X0_allFollow_L7_B, if_pos c30, if_neg c40, if_neg c48]))
            try simp only [X0_allFollow_L7_F, if_pos c30, if_neg c40, if_neg c48] at K9
            exact K9
          · refine z_iconst (v := nI 0) dX0_allFollow_51 rfl (by decide) ?_
            exact z_ireturn dX0_allFollow_52 rfl rfl (Nat.le_refl _) (Nat.le_refl _) (fun _ => rfl) (Ko (nI 0, X0_judge_p59_2 (nI rw) outc ts1 nw1 (X0_recall_c65 rel rl1 k) tt1 ba, nw1, X0_recall_c65 rel rl1 k, X0_judge_c66 (nI rw) outc ts1 nw1 (X0_recall_c65 rel rl1 k) tt1 ba) (by simp only [X0_allFollow_L7_B, if_pos c30, if_neg c40, if_pos c48]))
  · intro b a9 hz7
    exact ⟨by simp only [X0_allFollow_v, hz7, zpick_s], by simp only [X0_allFollow_p59_2, X0_allFollow_c64, X0_allFollow_c65, X0_allFollow_c66, hz7, zpick_s]⟩
  · intro a9 hz7 _
    obtain ⟨nw1, rl1, ts1, tt1⟩ := a9
    refine z_iload_n dX0_allFollow_7 rfl rfl ?_
    refine z_aload_n dX0_allFollow_8 rfl rfl ?_
    refine z_get dX0_allFollow_9 rfl hiX0_allFollow_X0 0 lkX0_allFollow_9 (Nat.le_of_ble_eq_true rfl) rfl rfl (by decide) rfl ?_
    refine z_icmp_ge (tgt := 64) dX0_allFollow_12 rfl (by decide) (fun c12 => ?_) (fun c12 => ?_)
    · refine z_iconst (v := nI 1) dX0_allFollow_64 rfl (by decide) ?_
      exact z_ireturn dX0_allFollow_65 rfl rfl (Nat.le_refl _) (Nat.le_refl _) (fun _ => rfl) ⟨by simp only [X0_allFollow_v, hz7, zpick_n], by simp only [X0_allFollow_p59_2, X0_allFollow_c64, X0_allFollow_c65, X0_allFollow_c66, hz7, zpick_n]⟩
    · exact absurd (nI_le (Nat.le_refl _) (by omega)) c12
abbrev mX0_follow : zM := (cX0_follow, 4, (some .int), RX0, wsX0_follow, "follow")
theorem okk_X0_forget : zOk yX0_forget 0 := by unfold zOk; decide +kernel
theorem hiX0_follow_X0 : ∀ w ∈ wsX00, w ∈ wsX0_follow := fun w h => List.mem_cons_of_mem _ (List.mem_append_left _ (List.mem_append_right _ h))
theorem lkX0_follow_15 : Cond.fieldLink RX0 15 "ConfigSearch$Following" "outcome" "I" ∈ wsX0_follow := by decide +kernel
theorem okk_X0_firstKind : zOk yX0_firstKind 1 := by unfold zOk; decide +kernel
theorem okk_X0_addRow : zOk yX0_addRow 1 := by unfold zOk; decide +kernel
theorem lkX0_follow_9 : Cond.fieldLink RX0 9 "ConfigSearch$Following" "rows" "I" ∈ wsX0_follow := by decide +kernel
def X0_follow_L16_F (ba : Nat → Int32) (pts : Nat) (k : Nat) (a9 : (Nat) × (Int32) × (Int32) × (Nat → Int32) × (Nat → Int32) × (Nat → Int32) × (Nat → Int32) × (Nat → Int32) × (Nat → Int32) × (Nat → Int32)) : (Nat) × (Int32) × (Int32) × (Nat → Int32) × (Nat → Int32) × (Nat → Int32) × (Nat → Int32) × (Nat → Int32) × (Nat → Int32) × (Nat → Int32) := if (X0_firstKind_v (nI a9.1) a9.2.1 a9.2.2.1 a9.2.2.2.2.2.2.2.1 a9.2.2.2.2.2.2.2.2.1 a9.2.2.2.2.2.2.2.2.2 ba pts) = (-4) then (a9.1, a9.2.1, a9.2.2.1, a9.2.2.2.1, a9.2.2.2.2.1, a9.2.2.2.2.2.1, a9.2.2.2.2.2.2.1, a9.2.2.2.2.2.2.2.1, a9.2.2.2.2.2.2.2.2.1, a9.2.2.2.2.2.2.2.2.2) else (if (X0_firstKind_v (nI a9.1) a9.2.1 a9.2.2.1 a9.2.2.2.2.2.2.2.1 a9.2.2.2.2.2.2.2.2.1 a9.2.2.2.2.2.2.2.2.2 ba pts) = 0 then (X0_addRow_p59_0 a9.1 (X0_firstKind_v (nI a9.1) a9.2.1 a9.2.2.1 a9.2.2.2.2.2.2.2.1 a9.2.2.2.2.2.2.2.2.1 a9.2.2.2.2.2.2.2.2.2 ba pts), a9.2.1, X0_firstKind_p59_2 (nI a9.1) a9.2.1 a9.2.2.1 a9.2.2.2.2.2.2.2.1 a9.2.2.2.2.2.2.2.2.1 a9.2.2.2.2.2.2.2.2.2 ba pts, X0_addRow_c60 a9.1 a9.2.2.2.1 (X0_firstKind_v (nI a9.1) a9.2.1 a9.2.2.1 a9.2.2.2.2.2.2.2.1 a9.2.2.2.2.2.2.2.2.1 a9.2.2.2.2.2.2.2.2.2 ba pts), X0_addRow_c61 a9.1 (X0_firstKind_p59_2 (nI a9.1) a9.2.1 a9.2.2.1 a9.2.2.2.2.2.2.2.1 a9.2.2.2.2.2.2.2.2.1 a9.2.2.2.2.2.2.2.2.2 ba pts) a9.2.2.2.2.1 (X0_firstKind_v (nI a9.1) a9.2.1 a9.2.2.1 a9.2.2.2.2.2.2.2.1 a9.2.2.2.2.2.2.2.2.1 a9.2.2.2.2.2.2.2.2.2 ba pts), X0_addRow_c62 a9.1 a9.2.2.2.2.2.1 (X0_firstKind_c65 (nI a9.1) a9.2.1 a9.2.2.1 a9.2.2.2.2.2.2.2.1 a9.2.2.2.2.2.2.2.2.1 a9.2.2.2.2.2.2.2.2.2 ba pts) (X0_firstKind_v (nI a9.1) a9.2.1 a9.2.2.1 a9.2.2.2.2.2.2.2.1 a9.2.2.2.2.2.2.2.2.1 a9.2.2.2.2.2.2.2.2.2 ba pts), X0_addRow_c63 a9.1 a9.2.2.2.2.2.2.1 (X0_firstKind_c66 (nI a9.1) a9.2.1 a9.2.2.1 a9.2.2.2.2.2.2.2.1 a9.2.2.2.2.2.2.2.2.1 a9.2.2.2.2.2.2.2.2.2 ba pts) (X0_firstKind_v (nI a9.1) a9.2.1 a9.2.2.1 a9.2.2.2.2.2.2.2.1 a9.2.2.2.2.2.2.2.2.1 a9.2.2.2.2.2.2.2.2.2 ba pts), X0_learn_c64 a9.2.2.2.2.2.2.2.1 (X0_addRow_c60 a9.1 a9.2.2.2.1 (X0_firstKind_v (nI a9.1) a9.2.1 a9.2.2.1 a9.2.2.2.2.2.2.2.1 a9.2.2.2.2.2.2.2.2.1 a9.2.2.2.2.2.2.2.2.2 ba pts)) (X0_addRow_c61 a9.1 (X0_firstKind_p59_2 (nI a9.1) a9.2.1 a9.2.2.1 a9.2.2.2.2.2.2.2.1 a9.2.2.2.2.2.2.2.2.1 a9.2.2.2.2.2.2.2.2.2 ba pts) a9.2.2.2.2.1 (X0_firstKind_v (nI a9.1) a9.2.1 a9.2.2.1 a9.2.2.2.2.2.2.2.1 a9.2.2.2.2.2.2.2.2.1 a9.2.2.2.2.2.2.2.2.2 ba pts)) (X0_addRow_c63 a9.1 a9.2.2.2.2.2.2.1 (X0_firstKind_c66 (nI a9.1) a9.2.1 a9.2.2.1 a9.2.2.2.2.2.2.2.1 a9.2.2.2.2.2.2.2.2.1 a9.2.2.2.2.2.2.2.2.2 ba pts) (X0_firstKind_v (nI a9.1) a9.2.1 a9.2.2.1 a9.2.2.2.2.2.2.2.1 a9.2.2.2.2.2.2.2.2.1 a9.2.2.2.2.2.2.2.2.2 ba pts)) a9.1, X0_firstKind_c65 (nI a9.1) a9.2.1 a9.2.2.1 a9.2.2.2.2.2.2.2.1 a9.2.2.2.2.2.2.2.2.1 a9.2.2.2.2.2.2.2.2.2 ba pts, X0_firstKind_c66 (nI a9.1) a9.2.1 a9.2.2.1 a9.2.2.2.2.2.2.2.1 a9.2.2.2.2.2.2.2.2.1 a9.2.2.2.2.2.2.2.2.2 ba pts) else (a9.1, a9.2.1, a9.2.2.1, a9.2.2.2.1, a9.2.2.2.2.1, a9.2.2.2.2.2.1, a9.2.2.2.2.2.2.1, a9.2.2.2.2.2.2.2.1, a9.2.2.2.2.2.2.2.2.1, a9.2.2.2.2.2.2.2.2.2))
def X0_follow_L16_B (ba : Nat → Int32) (pts : Nat) (k : Nat) (a9 : (Nat) × (Int32) × (Int32) × (Nat → Int32) × (Nat → Int32) × (Nat → Int32) × (Nat → Int32) × (Nat → Int32) × (Nat → Int32) × (Nat → Int32)) : Option ((Nat) × (Int32) × (Int32) × (Nat → Int32) × (Nat → Int32) × (Nat → Int32) × (Nat → Int32) × (Nat → Int32) × (Nat → Int32) × (Nat → Int32)) := if (X0_firstKind_v (nI a9.1) a9.2.1 a9.2.2.1 a9.2.2.2.2.2.2.2.1 a9.2.2.2.2.2.2.2.2.1 a9.2.2.2.2.2.2.2.2.2 ba pts) = (-4) then (some (a9.1, nI 1, X0_firstKind_p59_2 (nI a9.1) a9.2.1 a9.2.2.1 a9.2.2.2.2.2.2.2.1 a9.2.2.2.2.2.2.2.2.1 a9.2.2.2.2.2.2.2.2.2 ba pts, a9.2.2.2.1, a9.2.2.2.2.1, a9.2.2.2.2.2.1, a9.2.2.2.2.2.2.1, a9.2.2.2.2.2.2.2.1, X0_firstKind_c65 (nI a9.1) a9.2.1 a9.2.2.1 a9.2.2.2.2.2.2.2.1 a9.2.2.2.2.2.2.2.2.1 a9.2.2.2.2.2.2.2.2.2 ba pts, X0_firstKind_c66 (nI a9.1) a9.2.1 a9.2.2.1 a9.2.2.2.2.2.2.2.1 a9.2.2.2.2.2.2.2.2.1 a9.2.2.2.2.2.2.2.2.2 ba pts)) else (if (X0_firstKind_v (nI a9.1) a9.2.1 a9.2.2.1 a9.2.2.2.2.2.2.2.1 a9.2.2.2.2.2.2.2.2.1 a9.2.2.2.2.2.2.2.2.2 ba pts) = 0 then none else (some (X0_addRow_p59_0 a9.1 (X0_firstKind_v (nI a9.1) a9.2.1 a9.2.2.1 a9.2.2.2.2.2.2.2.1 a9.2.2.2.2.2.2.2.2.1 a9.2.2.2.2.2.2.2.2.2 ba pts), nI 0, X0_firstKind_p59_2 (nI a9.1) a9.2.1 a9.2.2.1 a9.2.2.2.2.2.2.2.1 a9.2.2.2.2.2.2.2.2.1 a9.2.2.2.2.2.2.2.2.2 ba pts, X0_addRow_c60 a9.1 a9.2.2.2.1 (X0_firstKind_v (nI a9.1) a9.2.1 a9.2.2.1 a9.2.2.2.2.2.2.2.1 a9.2.2.2.2.2.2.2.2.1 a9.2.2.2.2.2.2.2.2.2 ba pts), X0_addRow_c61 a9.1 (X0_firstKind_p59_2 (nI a9.1) a9.2.1 a9.2.2.1 a9.2.2.2.2.2.2.2.1 a9.2.2.2.2.2.2.2.2.1 a9.2.2.2.2.2.2.2.2.2 ba pts) a9.2.2.2.2.1 (X0_firstKind_v (nI a9.1) a9.2.1 a9.2.2.1 a9.2.2.2.2.2.2.2.1 a9.2.2.2.2.2.2.2.2.1 a9.2.2.2.2.2.2.2.2.2 ba pts), X0_addRow_c62 a9.1 a9.2.2.2.2.2.1 (X0_firstKind_c65 (nI a9.1) a9.2.1 a9.2.2.1 a9.2.2.2.2.2.2.2.1 a9.2.2.2.2.2.2.2.2.1 a9.2.2.2.2.2.2.2.2.2 ba pts) (X0_firstKind_v (nI a9.1) a9.2.1 a9.2.2.1 a9.2.2.2.2.2.2.2.1 a9.2.2.2.2.2.2.2.2.1 a9.2.2.2.2.2.2.2.2.2 ba pts), X0_addRow_c63 a9.1 a9.2.2.2.2.2.2.1 (X0_firstKind_c66 (nI a9.1) a9.2.1 a9.2.2.1 a9.2.2.2.2.2.2.2.1 a9.2.2.2.2.2.2.2.2.1 a9.2.2.2.2.2.2.2.2.2 ba pts) (X0_firstKind_v (nI a9.1) a9.2.1 a9.2.2.1 a9.2.2.2.2.2.2.2.1 a9.2.2.2.2.2.2.2.2.1 a9.2.2.2.2.2.2.2.2.2 ba pts), a9.2.2.2.2.2.2.2.1, X0_firstKind_c65 (nI a9.1) a9.2.1 a9.2.2.1 a9.2.2.2.2.2.2.2.1 a9.2.2.2.2.2.2.2.2.1 a9.2.2.2.2.2.2.2.2.2 ba pts, X0_firstKind_c66 (nI a9.1) a9.2.1 a9.2.2.1 a9.2.2.2.2.2.2.2.1 a9.2.2.2.2.2.2.2.2.1 a9.2.2.2.2.2.2.2.2.2 ba pts)))
def X0_follow_v (ts : Int32) (kd sgn rel tri : Nat → Int32) (fl ori now rl : Nat → Int32) (ba tt : Nat → Int32) (pts : Nat) : Int32 := zlet (zfoldX (X0_follow_L16_B ba pts) (X0_follow_L16_F ba pts) 60 0 (X0_forget_p59_0 , nI 2, ts, kd, sgn, rel, tri, X0_gather_c64 now kd sgn tri fl ori 0, rl, tt)) (fun rr16 => rr16.2.2.1)
def X0_follow_p59_0 (ts : Int32) (kd sgn rel tri : Nat → Int32) (fl ori now rl : Nat → Int32) (ba tt : Nat → Int32) (pts : Nat) : Nat := zlet (zfoldX (X0_follow_L16_B ba pts) (X0_follow_L16_F ba pts) 60 0 (X0_forget_p59_0 , nI 2, ts, kd, sgn, rel, tri, X0_gather_c64 now kd sgn tri fl ori 0, rl, tt)) (fun rr16 => rr16.2.1)
def X0_follow_p59_1 (ts : Int32) (kd sgn rel tri : Nat → Int32) (fl ori now rl : Nat → Int32) (ba tt : Nat → Int32) (pts : Nat) : Int32 := zlet (zfoldX (X0_follow_L16_B ba pts) (X0_follow_L16_F ba pts) 60 0 (X0_forget_p59_0 , nI 2, ts, kd, sgn, rel, tri, X0_gather_c64 now kd sgn tri fl ori 0, rl, tt)) (fun rr16 => rr16.2.2.1)
def X0_follow_p59_2 (ts : Int32) (kd sgn rel tri : Nat → Int32) (fl ori now rl : Nat → Int32) (ba tt : Nat → Int32) (pts : Nat) : Int32 := zlet (zfoldX (X0_follow_L16_B ba pts) (X0_follow_L16_F ba pts) 60 0 (X0_forget_p59_0 , nI 2, ts, kd, sgn, rel, tri, X0_gather_c64 now kd sgn tri fl ori 0, rl, tt)) (fun rr16 => rr16.2.2.2.1)
def X0_follow_c60 (ts : Int32) (kd sgn rel tri : Nat → Int32) (fl ori now rl : Nat → Int32) (ba tt : Nat → Int32) (pts : Nat) : Nat → Int32 := zlet (zfoldX (X0_follow_L16_B ba pts) (X0_follow_L16_F ba pts) 60 0 (X0_forget_p59_0 , nI 2, ts, kd, sgn, rel, tri, X0_gather_c64 now kd sgn tri fl ori 0, rl, tt)) (fun rr16 => rr16.2.2.2.2.1)
def X0_follow_c61 (ts : Int32) (kd sgn rel tri : Nat → Int32) (fl ori now rl : Nat → Int32) (ba tt : Nat → Int32) (pts : Nat) : Nat → Int32 := zlet (zfoldX (X0_follow_L16_B ba pts) (X0_follow_L16_F ba pts) 60 0 (X0_forget_p59_0 , nI 2, ts, kd, sgn, rel, tri, X0_gather_c64 now kd sgn tri fl ori 0, rl, tt)) (fun rr16 => rr16.2.2.2.2.2.1)
def X0_follow_c62 (ts : Int32) (kd sgn rel tri : Nat → Int32) (fl ori now rl : Nat → Int32) (ba tt : Nat → Int32) (pts : Nat) : Nat → Int32 := zlet (zfoldX (X0_follow_L16_B ba pts) (X0_follow_L16_F ba pts) 60 0 (X0_forget_p59_0 , nI 2, ts, kd, sgn, rel, tri, X0_gather_c64 now kd sgn tri fl ori 0, rl, tt)) (fun rr16 => rr16.2.2.2.2.2.2.1)
def X0_follow_c63 (ts : Int32) (kd sgn rel tri : Nat → Int32) (fl ori now rl : Nat → Int32) (ba tt : Nat → Int32) (pts : Nat) : Nat → Int32 := zlet (zfoldX (X0_follow_L16_B ba pts) (X0_follow_L16_F ba pts) 60 0 (X0_forget_p59_0 , nI 2, ts, kd, sgn, rel, tri, X0_gather_c64 now kd sgn tri fl ori 0, rl, tt)) (fun rr16 => rr16.2.2.2.2.2.2.2.1)
def X0_follow_c64 (ts : Int32) (kd sgn rel tri : Nat → Int32) (fl ori now rl : Nat → Int32) (ba tt : Nat → Int32) (pts : Nat) : Nat → Int32 := zlet (zfoldX (X0_follow_L16_B ba pts) (X0_follow_L16_F ba pts) 60 0 (X0_forget_p59_0 , nI 2, ts, kd, sgn, rel, tri, X0_gather_c64 now kd sgn tri fl ori 0, rl, tt)) (fun rr16 => rr16.2.2.2.2.2.2.2.2.1)
def X0_follow_c65 (ts : Int32) (kd sgn rel tri : Nat → Int32) (fl ori now rl : Nat → Int32) (ba tt : Nat → Int32) (pts : Nat) : Nat → Int32 := zlet (zfoldX (X0_follow_L16_B ba pts) (X0_follow_L16_F ba pts) 60 0 (X0_forget_p59_0 , nI 2, ts, kd, sgn, rel, tri, X0_gather_c64 now kd sgn tri fl ori 0, rl, tt)) (fun rr16 => rr16.2.2.2.2.2.2.2.2.2.1)
def X0_follow_c66 (ts : Int32) (kd sgn rel tri : Nat → Int32) (fl ori now rl : Nat → Int32) (ba tt : Nat → Int32) (pts : Nat) : Nat → Int32 := zlet (zfoldX (X0_follow_L16_B ba pts) (X0_follow_L16_F ba pts) 60 0 (X0_forget_p59_0 , nI 2, ts, kd, sgn, rel, tri, X0_gather_c64 now kd sgn tri fl ori 0, rl, tt)) (fun rr16 => rr16.2.2.2.2.2.2.2.2.2.2)
set_option maxRecDepth 100000 in
set_option maxHeartbeats 4000000 in
theorem c_X0_follow (G : zG) (ex : Bool) (g : Nat → va_E) (rw : Nat) (outc ts : Int32) (kd sgn rel tri : Nat → Int32) (bo oo : Int32) (fl ori now rl : Nat → Int32) (ba tt : Nat → Int32) (pts : Nat) (hp1 : 1 ≤ pts) (hp : pts ≤ 10) (h59 : g 59 = (oFol G (nI rw) outc ts)) (h60 : g 60 = (zI G 60 kd)) (h61 : g 61 = (zI G 60 sgn)) (h62 : g 62 = (zI G 300 rel)) (h63 : g 63 = (zI G 180 tri)) (h36 : g 36 = (oTld G bo oo)) (h37 : g 37 = (zZ G 120 fl)) (h39 : g 39 = (zI G 120 ori)) (h64 : g 64 = (zI G 1000 now)) (h65 : g 65 = (zI G 5 rl)) (h38 : g 38 = (zZ G 120 ba)) (h66 : g 66 = (zI G 3 tt)) : zC G yX0_follow wsX0_follow (zrm 5 129) ex [.ref (zB G + 59), .int (nI pts)] (zN, g) (fun r h => r = some (.int (X0_follow_v ts kd sgn rel tri fl ori now rl ba tt pts)) ∧ h = (zN, zus g [(59, (oFol G (nI (X0_follow_p59_0 ts kd sgn rel tri fl ori now rl ba tt pts)) (X0_follow_p59_1 ts kd sgn rel tri fl ori now rl ba tt pts) (X0_follow_p59_2 ts kd sgn rel tri fl ori now rl ba tt pts))), (60, zI G 60 (X0_follow_c60 ts kd sgn rel tri fl ori now rl ba tt pts)), (61, zI G 60 (X0_follow_c61 ts kd sgn rel tri fl ori now rl ba tt pts)), (62, zI G 300 (X0_follow_c62 ts kd sgn rel tri fl ori now rl ba tt pts)), (63, zI G 180 (X0_follow_c63 ts kd sgn rel tri fl ori now rl ba tt pts)), (64, zI G 1000 (X0_follow_c64 ts kd sgn rel tri fl ori now rl ba tt pts)), (65, zI G 5 (X0_follow_c65 ts kd sgn rel tri fl ori now rl ba tt pts)), (66, zI G 3 (X0_follow_c66 ts kd sgn rel tri fl ori now rl ba tt pts))])) := by
  refine zC_of mX0_follow (lv := [some (.ref (zB G + 59)), some (.int (nI pts)), none, none]) rfl rfl (by decide) (by intro v hv; simp at hv; rcases hv with rfl | rfl <;> rfl) (Nat.le_of_ble_eq_true rfl) rfl ?_
  refine z_0 ?_
  refine z_heap (g' := zu (zus g []) 59 (oFol G (nI rw) outc ts)) (zu_self (zus g []) 59 _ h59).symm ?_
  refine z_n (L' := [(59, (oFol G (nI rw) outc ts))]) rfl ?_
  refine z_heap (g' := zu (zus g [(59, (oFol G (nI rw) outc ts))]) 60 (zI G 60 kd)) (zu_self (zus g [(59, (oFol G (nI rw) outc ts))]) 60 _ h60).symm ?_
  refine z_n (L' := [(59, (oFol G (nI rw) outc ts)), (60, (zI G 60 kd))]) rfl ?_
  refine z_heap (g' := zu (zus g [(59, (oFol G (nI rw) outc ts)), (60, (zI G 60 kd))]) 61 (zI G 60 sgn)) (zu_self (zus g [(59, (oFol G (nI rw) outc ts)), (60, (zI G 60 kd))]) 61 _ h61).symm ?_
  refine z_n (L' := [(59, (oFol G (nI rw) outc ts)), (60, (zI G 60 kd)), (61, (zI G 60 sgn))]) rfl ?_
  refine z_heap (g' := zu (zus g [(59, (oFol G (nI rw) outc ts)), (60, (zI G 60 kd)), (61, (zI G 60 sgn))]) 62 (zI G 300 rel)) (zu_self (zus g [(59, (oFol G (nI rw) outc ts)), (60, (zI G 60 kd)), (61, (zI G 60 sgn))]) 62 _ h62).symm ?_
  refine z_n (L' := [(59, (oFol G (nI rw) outc ts)), (60, (zI G 60 kd)), (61, (zI G 60 sgn)), (62, (zI G 300 rel))]) rfl ?_
  refine z_heap (g' := zu (zus g [(59, (oFol G (nI rw) outc ts)), (60, (zI G 60 kd)), (61, (zI G 60 sgn)), (62, (zI G 300 rel))]) 63 (zI G 180 tri)) (zu_self (zus g [(59, (oFol G (nI rw) outc ts)), (60, (zI G 60 kd)), (61, (zI G 60 sgn)), (62, (zI G 300 rel))]) 63 _ h63).symm ?_
  refine z_n (L' := [(59, (oFol G (nI rw) outc ts)), (60, (zI G 60 kd)), (61, (zI G 60 sgn)), (62, (zI G 300 rel)), (63, (zI G 180 tri))]) rfl ?_
  refine z_heap (g' := zu (zus g [(59, (oFol G (nI rw) outc ts)), (60, (zI G 60 kd)), (61, (zI G 60 sgn)), (62, (zI G 300 rel)), (63, (zI G 180 tri))]) 64 (zI G 1000 now)) (zu_self (zus g [(59, (oFol G (nI rw) outc ts)), (60, (zI G 60 kd)), (61, (zI G 60 sgn)), (62, (zI G 300 rel)), (63, (zI G 180 tri))]) 64 _ h64).symm ?_
  refine z_n (L' := [(59, (oFol G (nI rw) outc ts)), (60, (zI G 60 kd)), (61, (zI G 60 sgn)), (62, (zI G 300 rel)), (63, (zI G 180 tri)), (64, (zI G 1000 now))]) rfl ?_
  refine z_heap (g' := zu (zus g [(59, (oFol G (nI rw) outc ts)), (60, (zI G 60 kd)), (61, (zI G 60 sgn)), (62, (zI G 300 rel)), (63, (zI G 180 tri)), (64, (zI G 1000 now))]) 65 (zI G 5 rl)) (zu_self (zus g [(59, (oFol G (nI rw) outc ts)), (60, (zI G 60 kd)), (61, (zI G 60 sgn)), (62, (zI G 300 rel)), (63, (zI G 180 tri)), (64, (zI G 1000 now))]) 65 _ h65).symm ?_
  refine z_n (L' := [(59, (oFol G (nI rw) outc ts)), (60, (zI G 60 kd)), (61, (zI G 60 sgn)), (62, (zI G 300 rel)), (63, (zI G 180 tri)), (64, (zI G 1000 now)), (65, (zI G 5 rl))]) rfl ?_
  refine z_heap (g' := zu (zus g [(59, (oFol G (nI rw) outc ts)), (60, (zI G 60 kd)), (61, (zI G 60 sgn)), (62, (zI G 300 rel)), (63, (zI G 180 tri)), (64, (zI G 1000 now)), (65, (zI G 5 rl))]) 66 (zI G 3 tt)) (zu_self (zus g [(59, (oFol G (nI rw) outc ts)), (60, (zI G 60 kd)), (61, (zI G 60 sgn)), (62, (zI G 300 rel)), (63, (zI G 180 tri)), (64, (zI G 1000 now)), (65, (zI G 5 rl))]) 66 _ h66).symm ?_
  refine z_n (L' := [(59, (oFol G (nI rw) outc ts)), (60, (zI G 60 kd)), (61, (zI G 60 sgn)), (62, (zI G 300 rel)), (63, (zI G 180 tri)), (64, (zI G 1000 now)), (65, (zI G 5 rl)), (66, (zI G 3 tt))]) rfl ?_
  refine z_aload_n dX0_follow_0 rfl rfl ?_
  refine z_callVv (c_X0_forget G ex _ (nI rw) outc ts rfl) gX0_follow_X0_forget rfl dX0_follow_1 rfl rfl rfl okk_X0_forget (Nat.le_of_ble_eq_true rfl) rfl rfl ⟨Nat.le_of_ble_eq_true rfl, Nat.le_of_ble_eq_true rfl⟩ ⟨Nat.le_of_ble_eq_true rfl, Nat.le_of_ble_eq_true rfl⟩ (Nat.le_of_ble_eq_true rfl) ?_
  refine z_nn (L' := [(59, (oFol G (nI (X0_forget_p59_0 )) (X0_forget_p59_1 ) ts)), (60, (zI G 60 kd)), (61, (zI G 60 sgn)), (62, (zI G 300 rel)), (63, (zI G 180 tri)), (64, (zI G 1000 now)), (65, (zI G 5 rl)), (66, (zI G 3 tt))]) rfl ?_
  refine z_aload_n dX0_follow_4 rfl rfl ?_
  refine z_iconst (v := nI 0) dX0_follow_5 rfl (by decide) ?_
  refine z_callVv (c_X0_gather G ex _ (nI (X0_forget_p59_0 )) (X0_forget_p59_1 ) ts bo oo now kd sgn tri fl ori 0 (by omega) (fun i h => absurd h (Nat.not_lt_zero i)) rfl rfl rfl rfl rfl h36 h37 h39) gX0_follow_X0_gather rfl dX0_follow_6 rfl rfl rfl okk_X0_gather (Nat.le_of_ble_eq_true rfl) rfl rfl ⟨Nat.le_of_ble_eq_true rfl, Nat.le_of_ble_eq_true rfl⟩ ⟨Nat.le_of_ble_eq_true rfl, Nat.le_of_ble_eq_true rfl⟩ (Nat.le_of_ble_eq_true rfl) ?_
  refine z_nn (L' := [(59, (oFol G (nI (X0_forget_p59_0 )) (X0_forget_p59_1 ) ts)), (60, (zI G 60 kd)), (61, (zI G 60 sgn)), (62, (zI G 300 rel)), (63, (zI G 180 tri)), (64, (zI G 1000 (X0_gather_c64 now kd sgn tri fl ori 0))), (65, (zI G 5 rl)), (66, (zI G 3 tt))]) rfl ?_
  refine z_aload_n dX0_follow_9 rfl rfl ?_
  refine z_iconst (v := nI 2) dX0_follow_10 rfl (by decide) ?_
  refine z_putN (e9 := (oFol G (nI (X0_forget_p59_0 )) (nI 2) ts)) tyX0 tyX0_ok nmX0 dX0_follow_11 rfl hiX0_follow_X0 1 lkX0_follow_15 rfl (by decide +kernel) (Nat.le_of_ble_eq_true rfl) rfl rfl (by decide) (Nat.le_of_ble_eq_true rfl) rfl rfl rfl ?_
  refine z_n (L' := [(59, (oFol G (nI (X0_forget_p59_0 )) (nI 2) ts)), (60, (zI G 60 kd)), (61, (zI G 60 sgn)), (62, (zI G 300 rel)), (63, (zI G 180 tri)), (64, (zI G 1000 (X0_gather_c64 now kd sgn tri fl ori 0))), (65, (zI G 5 rl)), (66, (zI G 3 tt))]) rfl ?_
  refine z_iconst (v := nI 0) dX0_follow_14 rfl (by decide) ?_
  refine z_istore_2 dX0_follow_15 rfl ?_
  refine z_forX (head := fun k (st9 : (Nat) × (Int32) × (Int32) × (Nat → Int32) × (Nat → Int32) × (Nat → Int32) × (Nat → Int32) × (Nat → Int32) × (Nat → Int32) × (Nat → Int32)) => ∀ y3 : Option Value, Z G mX0_follow (zrm 5 129) ex _ 16 [some (.ref (zB G + 59)), some (.int (nI pts)), some (.int (nI k)), y3] [] (zN, zus g [(59, (oFol G (nI st9.1) st9.2.1 st9.2.2.1)), (60, (zI G 60 st9.2.2.2.1)), (61, (zI G 60 st9.2.2.2.2.1)), (62, (zI G 300 st9.2.2.2.2.2.1)), (63, (zI G 180 st9.2.2.2.2.2.2.1)), (64, (zI G 1000 st9.2.2.2.2.2.2.2.1)), (65, (zI G 5 st9.2.2.2.2.2.2.2.2.1)), (66, (zI G 3 st9.2.2.2.2.2.2.2.2.2))]) 0 0) (out := fun k (st9 : (Nat) × (Int32) × (Int32) × (Nat → Int32) × (Nat → Int32) × (Nat → Int32) × (Nat → Int32) × (Nat → Int32) × (Nat → Int32) × (Nat → Int32)) => ∀ y3 : Option Value, Z G mX0_follow (zrm 5 129) ex (fun r h => r = some (.int (X0_follow_v ts kd sgn rel tri fl ori now rl ba tt pts)) ∧ h = (zN, zus g [(59, (oFol G (nI (X0_follow_p59_0 ts kd sgn rel tri fl ori now rl ba tt pts)) (X0_follow_p59_1 ts kd sgn rel tri fl ori now rl ba tt pts) (X0_follow_p59_2 ts kd sgn rel tri fl ori now rl ba tt pts))), (60, zI G 60 (X0_follow_c60 ts kd sgn rel tri fl ori now rl ba tt pts)), (61, zI G 60 (X0_follow_c61 ts kd sgn rel tri fl ori now rl ba tt pts)), (62, zI G 300 (X0_follow_c62 ts kd sgn rel tri fl ori now rl ba tt pts)), (63, zI G 180 (X0_follow_c63 ts kd sgn rel tri fl ori now rl ba tt pts)), (64, zI G 1000 (X0_follow_c64 ts kd sgn rel tri fl ori now rl ba tt pts)), (65, zI G 5 (X0_follow_c65 ts kd sgn rel tri fl ori now rl ba tt pts)), (66, zI G 3 (X0_follow_c66 ts kd sgn rel tri fl ori now rl ba tt pts))])) 75 [some (.ref (zB G + 59)), some (.int (nI pts)), some (.int (nI k)), y3] [] (zN, zus g [(59, (oFol G (nI st9.1) st9.2.1 st9.2.2.1)), (60, (zI G 60 st9.2.2.2.1)), (61, (zI G 60 st9.2.2.2.2.1)), (62, (zI G 300 st9.2.2.2.2.2.1)), (63, (zI G 180 st9.2.2.2.2.2.2.1)), (64, (zI G 1000 st9.2.2.2.2.2.2.2.1)), (65, (zI G 5 st9.2.2.2.2.2.2.2.2.1)), (66, (zI G 3 st9.2.2.2.2.2.2.2.2.2))]) 0 0) (B := (X0_follow_L16_B ba pts)) (F := (X0_follow_L16_F ba pts)) (n := 60) (fun i a => a.1 = i ∧ ∀ k, k < a.1 → ¬ a.2.2.2.1 k = nI 1 → ∀ j, j < 3 → vp_in (a.2.2.2.2.2.2.1 (3 * k + j)) 10) (fun _ _ => True) (fun i a hi h hB => by
        unfold X0_follow_L16_B at hB
        unfold X0_follow_L16_F
        split at hB
        · cases hB
        · rename_i c31
          split at hB
          · rename_i c48
            rw [if_neg c31, if_pos c48]
            refine ⟨by show X0_addRow_p59_0 a.1 _ = i + 1; rw [addRow_p0, h.1], ?_⟩
            intro k hk
            exact addRow_in (fun q => fk_in hp c31 q) h.2 k (by rw [← addRow_p0 (nk := X0_firstKind_v (nI a.1) a.2.1 a.2.2.1 a.2.2.2.2.2.2.2.1 a.2.2.2.2.2.2.2.2.1 a.2.2.2.2.2.2.2.2.2 ba pts)]; exact hk)
          · cases hB) (fun _ _ _ _ _ _ => trivial) (fun _ _ => trivial) ?_ ?_ 60 0 (X0_forget_p59_0 , nI 2, ts, kd, sgn, rel, tri, X0_gather_c64 now kd sgn tri fl ori 0, rl, tt) (by omega) ⟨rfl, fun k h => absurd h (Nat.not_lt_zero k)⟩ ?_ _
  · intro k a9 hi hI Ko K
    obtain ⟨rw1, oc1, ts1, kd1, sg1, re1, tr1, nw1, rl1, tt1⟩ := a9
    intro y3
    obtain ⟨hrw, h3⟩ := hI
    simp only at hrw h3
    refine z_iload_n dX0_follow_16 rfl rfl ?_
    refine z_bipush (v := nI 60) dX0_follow_17 rfl (by decide) ?_
    refine z_icmp_ge (tgt := 75) dX0_follow_19 rfl (by decide) (fun c19 => ?_) (fun c19 => ?_)
    · exact absurd c19 (nI_ge hi (by omega))
    · refine z_aload_n dX0_follow_22 rfl rfl ?_
      refine z_iload_n dX0_follow_23 rfl rfl ?_
      refine z_callVi (c_X0_firstKind G ex _ (nI rw1) oc1 ts1 bo oo nw1 rl1 tt1 ba pts (by omega) (by omega) rfl rfl rfl rfl h36 h38) gX0_follow_X0_firstKind rfl dX0_follow_24 rfl rfl rfl okk_X0_firstKind (Nat.le_of_ble_eq_true rfl) rfl rfl ⟨Nat.le_of_ble_eq_true rfl, Nat.le_of_ble_eq_true rfl⟩ ⟨Nat.le_of_ble_eq_true rfl, Nat.le_of_ble_eq_true rfl⟩ (Nat.le_of_ble_eq_true rfl) ?_
      refine z_nn (L' := [(59, (oFol G (nI rw1) oc1 (X0_firstKind_p59_2 (nI rw1) oc1 ts1 nw1 rl1 tt1 ba pts))), (60, (zI G 60 kd1)), (61, (zI G 60 sg1)), (62, (zI G 300 re1)), (63, (zI G 180 tr1)), (64, (zI G 1000 nw1)), (65, (zI G 5 (X0_firstKind_c65 (nI rw1) oc1 ts1 nw1 rl1 tt1 ba pts))), (66, (zI G 3 (X0_firstKind_c66 (nI rw1) oc1 ts1 nw1 rl1 tt1 ba pts)))]) rfl ?_
      refine z_istore_3 dX0_follow_27 rfl ?_
      refine z_iload_n dX0_follow_28 rfl rfl ?_
      refine z_bipush (v := (-4)) dX0_follow_29 rfl (by decide) ?_
      refine z_icmp_ne (tgt := 42) dX0_follow_31 rfl (by decide) (fun c31 => ?_) (fun c31 => ?_)
      · refine z_aload_n dX0_follow_42 rfl rfl ?_
        refine z_iload_n dX0_follow_43 rfl rfl ?_
        refine z_callVv (c_X0_addRow G ex _ rw1 oc1 (X0_firstKind_p59_2 (nI rw1) oc1 ts1 nw1 rl1 tt1 ba pts) kd1 sg1 re1 tr1 (X0_firstKind_c65 (nI rw1) oc1 ts1 nw1 rl1 tt1 ba pts) (X0_firstKind_c66 (nI rw1) oc1 ts1 nw1 rl1 tt1 ba pts) (X0_firstKind_v (nI rw1) oc1 ts1 nw1 rl1 tt1 ba pts) (by omega) rfl rfl rfl rfl rfl rfl rfl) gX0_follow_X0_addRow rfl dX0_follow_44 rfl rfl rfl okk_X0_addRow (Nat.le_of_ble_eq_true rfl) rfl rfl ⟨Nat.le_of_ble_eq_true rfl, Nat.le_of_ble_eq_true rfl⟩ ⟨Nat.le_of_ble_eq_true rfl, Nat.le_of_ble_eq_true rfl⟩ (Nat.le_of_ble_eq_true rfl) ?_
        refine z_nn (L' := [(59, (oFol G (nI (X0_addRow_p59_0 rw1 (X0_firstKind_v (nI rw1) oc1 ts1 nw1 rl1 tt1 ba pts))) oc1 (X0_firstKind_p59_2 (nI rw1) oc1 ts1 nw1 rl1 tt1 ba pts))), (60, (zI G 60 (X0_addRow_c60 rw1 kd1 (X0_firstKind_v (nI rw1) oc1 ts1 nw1 rl1 tt1 ba pts)))), (61, (zI G 60 (X0_addRow_c61 rw1 (X0_firstKind_p59_2 (nI rw1) oc1 ts1 nw1 rl1 tt1 ba pts) sg1 (X0_firstKind_v (nI rw1) oc1 ts1 nw1 rl1 tt1 ba pts)))), (62, (zI G 300 (X0_addRow_c62 rw1 re1 (X0_firstKind_c65 (nI rw1) oc1 ts1 nw1 rl1 tt1 ba pts) (X0_firstKind_v (nI rw1) oc1 ts1 nw1 rl1 tt1 ba pts)))), (63, (zI G 180 (X0_addRow_c63 rw1 tr1 (X0_firstKind_c66 (nI rw1) oc1 ts1 nw1 rl1 tt1 ba pts) (X0_firstKind_v (nI rw1) oc1 ts1 nw1 rl1 tt1 ba pts)))), (64, (zI G 1000 nw1)), (65, (zI G 5 (X0_firstKind_c65 (nI rw1) oc1 ts1 nw1 rl1 tt1 ba pts))), (66, (zI G 3 (X0_firstKind_c66 (nI rw1) oc1 ts1 nw1 rl1 tt1 ba pts)))]) rfl ?_
        refine z_iload_n dX0_follow_47 rfl rfl ?_
        refine z_if_eq (tgt := 59) dX0_follow_48 rfl (by decide) (fun c48 => ?_) (fun c48 => ?_)
        · refine z_aload_n dX0_follow_59 rfl rfl ?_
          refine z_aload_n dX0_follow_60 rfl rfl ?_
          refine z_get dX0_follow_61 rfl hiX0_follow_X0 0 lkX0_follow_9 (Nat.le_of_ble_eq_true rfl) rfl rfl (by decide) rfl ?_
          refine z_iconst (v := nI 1) dX0_follow_64 rfl (by decide) ?_
          refine z_isub dX0_follow_65 rfl ?_
          rw [show (nI (X0_addRow_p59_0 rw1 (X0_firstKind_v (nI rw1) oc1 ts1 nw1 rl1 tt1 ba pts))) - (nI 1) = nI rw1 from by rw [addRow_p0]; exact zsub1 _]
          refine z_callVv (c_X0_learn G ex _ (nI (X0_addRow_p59_0 rw1 (X0_firstKind_v (nI rw1) oc1 ts1 nw1 rl1 tt1 ba pts))) oc1 (X0_firstKind_p59_2 (nI rw1) oc1 ts1 nw1 rl1 tt1 ba pts) nw1 (X0_addRow_c60 rw1 kd1 (X0_firstKind_v (nI rw1) oc1 ts1 nw1 rl1 tt1 ba pts)) (X0_addRow_c61 rw1 (X0_firstKind_p59_2 (nI rw1) oc1 ts1 nw1 rl1 tt1 ba pts) sg1 (X0_firstKind_v (nI rw1) oc1 ts1 nw1 rl1 tt1 ba pts)) (X0_addRow_c63 rw1 tr1 (X0_firstKind_c66 (nI rw1) oc1 ts1 nw1 rl1 tt1 ba pts) (X0_firstKind_v (nI rw1) oc1 ts1 nw1 rl1 tt1 ba pts)) rw1 (by omega) (addRow_in (fun q => fk_in hp c31 q) h3 rw1 (by omega)) rfl rfl rfl rfl rfl) gX0_follow_X0_learn rfl dX0_follow_66 rfl rfl rfl okk_X0_learn (Nat.le_of_ble_eq_true rfl) rfl rfl ⟨Nat.le_of_ble_eq_true rfl, Nat.le_of_ble_eq_true rfl⟩ ⟨Nat.le_of_ble_eq_true rfl, Nat.le_of_ble_eq_true rfl⟩ (Nat.le_of_ble_eq_true rfl) ?_
          refine z_nn (L' := [(59, (oFol G (nI (X0_addRow_p59_0 rw1 (X0_firstKind_v (nI rw1) oc1 ts1 nw1 rl1 tt1 ba pts))) oc1 (X0_firstKind_p59_2 (nI rw1) oc1 ts1 nw1 rl1 tt1 ba pts))), (60, (zI G 60 (X0_addRow_c60 rw1 kd1 (X0_firstKind_v (nI rw1) oc1 ts1 nw1 rl1 tt1 ba pts)))), (61, (zI G 60 (X0_addRow_c61 rw1 (X0_firstKind_p59_2 (nI rw1) oc1 ts1 nw1 rl1 tt1 ba pts) sg1 (X0_firstKind_v (nI rw1) oc1 ts1 nw1 rl1 tt1 ba pts)))), (62, (zI G 300 (X0_addRow_c62 rw1 re1 (X0_firstKind_c65 (nI rw1) oc1 ts1 nw1 rl1 tt1 ba pts) (X0_firstKind_v (nI rw1) oc1 ts1 nw1 rl1 tt1 ba pts)))), (63, (zI G 180 (X0_addRow_c63 rw1 tr1 (X0_firstKind_c66 (nI rw1) oc1 ts1 nw1 rl1 tt1 ba pts) (X0_firstKind_v (nI rw1) oc1 ts1 nw1 rl1 tt1 ba pts)))), (64, (zI G 1000 (X0_learn_c64 nw1 (X0_addRow_c60 rw1 kd1 (X0_firstKind_v (nI rw1) oc1 ts1 nw1 rl1 tt1 ba pts)) (X0_addRow_c61 rw1 (X0_firstKind_p59_2 (nI rw1) oc1 ts1 nw1 rl1 tt1 ba pts) sg1 (X0_firstKind_v (nI rw1) oc1 ts1 nw1 rl1 tt1 ba pts)) (X0_addRow_c63 rw1 tr1 (X0_firstKind_c66 (nI rw1) oc1 ts1 nw1 rl1 tt1 ba pts) (X0_firstKind_v (nI rw1) oc1 ts1 nw1 rl1 tt1 ba pts)) rw1))), (65, (zI G 5 (X0_firstKind_c65 (nI rw1) oc1 ts1 nw1 rl1 tt1 ba pts))), (66, (zI G 3 (X0_firstKind_c66 (nI rw1) oc1 ts1 nw1 rl1 tt1 ba pts)))]) rfl ?_
          refine z_iinc_2 (v := nI (k + 1)) dX0_follow_69 rfl (zinc _) ?_
          refine z_goto (tgt := 16) dX0_follow_72 (by decide) ?_
          have K9 := (K (by simp only [X0_follow_L16_B, if_neg c31, if_pos c48]))
          try simp only [X0_follow_L16_F, if_neg c31, if_pos c48] at K9
          exact K9 _
        · refine z_aload_n dX0_follow_51 rfl rfl ?_
          refine z_iconst (v := nI 0) dX0_follow_52 rfl (by decide) ?_
          refine z_putN (e9 := (oFol G (nI (X0_addRow_p59_0 rw1 (X0_firstKind_v (nI rw1) oc1 ts1 nw1 rl1 tt1 ba pts))) (nI 0) (X0_firstKind_p59_2 (nI rw1) oc1 ts1 nw1 rl1 tt1 ba pts))) tyX0 tyX0_ok nmX0 dX0_follow_53 rfl hiX0_follow_X0 1 lkX0_follow_15 rfl (by decide +kernel) (Nat.le_of_ble_eq_true rfl) rfl rfl (by decide) (Nat.le_of_ble_eq_true rfl) rfl rfl rfl ?_
          refine z_n (L' := [(59, (oFol G (nI (X0_addRow_p59_0 rw1 (X0_firstKind_v (nI rw1) oc1 ts1 nw1 rl1 tt1 ba pts))) (nI 0) (X0_firstKind_p59_2 (nI rw1) oc1 ts1 nw1 rl1 tt1 ba pts))), (60, (zI G 60 (X0_addRow_c60 rw1 kd1 (X0_firstKind_v (nI rw1) oc1 ts1 nw1 rl1 tt1 ba pts)))), (61, (zI G 60 (X0_addRow_c61 rw1 (X0_firstKind_p59_2 (nI rw1) oc1 ts1 nw1 rl1 tt1 ba pts) sg1 (X0_firstKind_v (nI rw1) oc1 ts1 nw1 rl1 tt1 ba pts)))), (62, (zI G 300 (X0_addRow_c62 rw1 re1 (X0_firstKind_c65 (nI rw1) oc1 ts1 nw1 rl1 tt1 ba pts) (X0_firstKind_v (nI rw1) oc1 ts1 nw1 rl1 tt1 ba pts)))), (63, (zI G 180 (X0_addRow_c63 rw1 tr1 (X0_firstKind_c66 (nI rw1) oc1 ts1 nw1 rl1 tt1 ba pts) (X0_firstKind_v (nI rw1) oc1 ts1 nw1 rl1 tt1 ba pts)))), (64, (zI G 1000 nw1)), (65, (zI G 5 (X0_firstKind_c65 (nI rw1) oc1 ts1 nw1 rl1 tt1 ba pts))), (66, (zI G 3 (X0_firstKind_c66 (nI rw1) oc1 ts1 nw1 rl1 tt1 ba pts)))]) rfl ?_
          refine z_goto (tgt := 75) dX0_follow_56 (by decide) ?_
          exact Ko (X0_addRow_p59_0 rw1 (X0_firstKind_v (nI rw1) oc1 ts1 nw1 rl1 tt1 ba pts), nI 0, X0_firstKind_p59_2 (nI rw1) oc1 ts1 nw1 rl1 tt1 ba pts, X0_addRow_c60 rw1 kd1 (X0_firstKind_v (nI rw1) oc1 ts1 nw1 rl1 tt1 ba pts), X0_addRow_c61 rw1 (X0_firstKind_p59_2 (nI rw1) oc1 ts1 nw1 rl1 tt1 ba pts) sg1 (X0_firstKind_v (nI rw1) oc1 ts1 nw1 rl1 tt1 ba pts), X0_addRow_c62 rw1 re1 (X0_firstKind_c65 (nI rw1) oc1 ts1 nw1 rl1 tt1 ba pts) (X0_firstKind_v (nI rw1) oc1 ts1 nw1 rl1 tt1 ba pts), X0_addRow_c63 rw1 tr1 (X0_firstKind_c66 (nI rw1) oc1 ts1 nw1 rl1 tt1 ba pts) (X0_firstKind_v (nI rw1) oc1 ts1 nw1 rl1 tt1 ba pts), nw1, X0_firstKind_c65 (nI rw1) oc1 ts1 nw1 rl1 tt1 ba pts, X0_firstKind_c66 (nI rw1) oc1 ts1 nw1 rl1 tt1 ba pts) (by simp only [X0_follow_L16_B, if_neg c31, if_neg c48]) _
      · refine z_aload_n dX0_follow_34 rfl rfl ?_
        refine z_iconst (v := nI 1) dX0_follow_35 rfl (by decide) ?_
        refine z_putN (e9 := (oFol G (nI rw1) (nI 1) (X0_firstKind_p59_2 (nI rw1) oc1 ts1 nw1 rl1 tt1 ba pts))) tyX0 tyX0_ok nmX0 dX0_follow_36 rfl hiX0_follow_X0 1 lkX0_follow_15 rfl (by decide +kernel) (Nat.le_of_ble_eq_true rfl) rfl rfl (by decide) (Nat.le_of_ble_eq_true rfl) rfl rfl rfl ?_
        refine z_n (L' := [(59, (oFol G (nI rw1) (nI 1) (X0_firstKind_p59_2 (nI rw1) oc1 ts1 nw1 rl1 tt1 ba pts))), (60, (zI G 60 kd1)), (61, (zI G 60 sg1)), (62, (zI G 300 re1)), (63, (zI G 180 tr1)), (64, (zI G 1000 nw1)), (65, (zI G 5 (X0_firstKind_c65 (nI rw1) oc1 ts1 nw1 rl1 tt1 ba pts))), (66, (zI G 3 (X0_firstKind_c66 (nI rw1) oc1 ts1 nw1 rl1 tt1 ba pts)))]) rfl ?_
        refine z_goto (tgt := 75) dX0_follow_39 (by decide) ?_
        exact Ko (rw1, nI 1, X0_firstKind_p59_2 (nI rw1) oc1 ts1 nw1 rl1 tt1 ba pts, kd1, sg1, re1, tr1, nw1, X0_firstKind_c65 (nI rw1) oc1 ts1 nw1 rl1 tt1 ba pts, X0_firstKind_c66 (nI rw1) oc1 ts1 nw1 rl1 tt1 ba pts) (by simp only [X0_follow_L16_B, if_pos c31]) _
  · intro a9 hI K
    obtain ⟨rw1, oc1, ts1, kd1, sg1, re1, tr1, nw1, rl1, tt1⟩ := a9
    intro y3
    refine z_iload_n dX0_follow_16 rfl rfl ?_
    refine z_bipush (v := nI 60) dX0_follow_17 rfl (by decide) ?_
    refine z_icmp_ge (tgt := 75) dX0_follow_19 rfl (by decide) (fun c19 => ?_) (fun c19 => ?_)
    · exact K _
    · exact absurd (nI_le (Nat.le_refl _) (by omega)) c19
  · generalize hR16 : zfoldX (X0_follow_L16_B ba pts) (X0_follow_L16_F ba pts) 60 0 (X0_forget_p59_0 , nI 2, ts, kd, sgn, rel, tri, X0_gather_c64 now kd sgn tri fl ori 0, rl, tt) = r9
    obtain ⟨ic, rw1o, oc1o, ts1o, kd1o, sg1o, re1o, tr1o, nw1o, rl1o, tt1o⟩ := r9
    intro hJ16 hle16 y3
    clear hJ16
    refine z_aload_n dX0_follow_75 rfl rfl ?_
    refine z_get dX0_follow_76 rfl hiX0_follow_X0 1 lkX0_follow_15 (Nat.le_of_ble_eq_true rfl) rfl rfl (by decide) rfl ?_
    exact z_ireturn dX0_follow_79 rfl rfl (Nat.le_refl _) (Nat.le_refl _) (fun _ => rfl) ⟨by simp only [X0_follow_v, hR16, zlet_e], by simp only [X0_follow_p59_0, X0_follow_p59_1, X0_follow_p59_2, X0_follow_c60, X0_follow_c61, X0_follow_c62, X0_follow_c63, X0_follow_c64, X0_follow_c65, X0_follow_c66, hR16, zlet_e]⟩
