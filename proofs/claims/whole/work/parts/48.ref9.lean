theorem zpickY_P {α β γ : Type} {P : γ → Prop} {r : β ⊕ α} {f : β → γ} {k : α → γ} (hf : ∀ b, r = .inl b → P (f b)) (hk : ∀ a, r = .inr a → P (k a)) : P (zpickY r f k) := by
  cases r with
  | inl b => exact hf b rfl
  | inr a => exact hk a rfl
theorem zpick_P {α β γ : Type} {P : γ → Prop} {r : Option β × α} {f : β → γ} {k : α → γ} (hf : ∀ b, r.1 = some b → P (f b)) (hk : r.1 = none → P (k r.2)) : P (zpick r f k) := by
  obtain ⟨o, a⟩ := r
  cases o with
  | some b => exact hf b rfl
  | none => exact hk rfl
theorem zfoldY_PQ {α β : Type} {n : Nat} (P : α → Prop) (Q : β → Prop) {B : Nat → α → Option (β ⊕ α)} {F : Nat → α → α} (hF : ∀ i a, i < n → P a → P (F i a)) (hB : ∀ i a, i < n → P a → (∀ b, B i a = some (.inl b) → Q b) ∧ ∀ b, B i a = some (.inr b) → P b) : ∀ (d i : Nat) (a : α), i + d = n → P a → (∀ b, zfoldY B F d i a = .inl b → Q b) ∧ ∀ z, zfoldY B F d i a = .inr z → P z := by
  intro d
  induction d with
  | zero =>
    intro i a hi ha
    refine ⟨fun b hb => ?_, fun z hz => ?_⟩
    · simp only [zfoldY] at hb
      cases hb
    · simp only [zfoldY] at hz
      cases hz
      exact ha
  | succ d ih =>
    intro i a hi ha
    have q := hB i a (by omega) ha
    have r := ih (i + 1) (F i a) (by omega) (hF i a (by omega) ha)
    simp only [zfoldY]
    split
    · rename_i z hz
      cases z with
      | inl b => exact ⟨fun b9 h9 => (by cases h9; exact q.1 b hz), fun z9 h9 => by cases h9⟩
      | inr b => exact ⟨fun b9 h9 => (by cases h9), fun z9 h9 => by cases h9; exact q.2 b hz⟩
    · exact r
theorem zfoldB_PQ {α β : Type} {n : Nat} (P : α → Prop) (Q : β → Prop) {B : Nat → α → Option β} {F : Nat → α → α} (hF : ∀ i a, i < n → P a → P (F i a)) (hB : ∀ i a, i < n → P a → ∀ b, B i a = some b → Q b) : ∀ (d i : Nat) (a : α), i + d = n → P a → (∀ b, (zfoldB B F d i a).1 = some b → Q b) ∧ P (zfoldB B F d i a).2 := by
  intro d
  induction d with
  | zero =>
    intro i a hi ha
    exact ⟨fun b hb => (by simp only [zfoldB] at hb; cases hb), ha⟩
  | succ d ih =>
    intro i a hi ha
    have q := hB i a (by omega) ha
    have r := ih (i + 1) (F i a) (by omega) (hF i a (by omega) ha)
    simp only [zfoldB]
    split
    · rename_i z hz
      exact ⟨fun b9 h9 => (by cases h9; exact q _ hz), ha⟩
    · exact r
theorem zpY_in {α β γ : Type} {r : β ⊕ α} {x : β} (h : zpickY r (fun b => some (.inl b : β ⊕ γ)) (fun _ => none) = some (.inl x)) : r = .inl x := by
  cases r with
  | inl b => cases h; rfl
  | inr a => cases h
theorem zpY_nb {α β γ : Type} {r : β ⊕ α} {x : γ} {p : Prop} (h : zpickY r (fun b => some (.inl b : β ⊕ γ)) (fun _ => none) = some (.inr x)) : p := by
  cases r with
  | inl b => cases h
  | inr a => cases h
theorem zpY_so {α β : Type} {r : β ⊕ α} {x : β} (h : zpickY r (fun b => some b) (fun _ => none) = some x) : r = .inl x := by
  cases r with
  | inl b => cases h; rfl
  | inr a => cases h
theorem zp_so {α β : Type} {r : Option β × α} {x : β} (h : zpick r (fun b => some b) (fun _ => none) = some x) : r.1 = some x := by
  obtain ⟨o, a⟩ := r
  cases o with
  | some b => cases h; rfl
  | none => cases h
theorem tells_lt {t a b c d e : Nat} (ha : a < 10) (hb : b < 10) (hc : c < 10) (hd : d < 10) (he : e < 10) : X7_tells_p76_14 t a b c d e < 1000 := by
  unfold X7_tells_p76_14
  repeat' split
  all_goals exact plN_lt (by assumption) (by assumption) (by assumption)
theorem work_lt {cmT : Nat} {sg sx : Nat → Int32} {a b c d e : Nat} (hm : cmT < 1000) (ha : a < 10) (hb : b < 10) (hc : c < 10) (hd : d < 10) (he : e < 10) : X7_work_p76_14 cmT sg sx a b c d e < 1000 := by
  unfold X7_work_p76_14
  simp only [zlet]
  repeat' split
  all_goals first | exact hm | exact tells_lt ha hb hc hd he
theorem makeRow_rw {rws : Nat} {c : Int32} : X7_makeRow_p76_12 rws c = rws + 1 := by
  unfold X7_makeRow_p76_12
  repeat' split
  all_goals rfl
theorem rtri_in {pts : Nat} {a b c : Int32} (h : ¬ X7_isTriple_v pts a b c = 0) (hp : pts ≤ 10) : vp_in a pts ∧ vp_in b pts ∧ vp_in c pts := by
  unfold X7_isTriple_v at h
  repeat' split at h
  all_goals first | exact absurd rfl h | skip
  rename_i c1 c2 c3 c4 c5 c6
  exact ⟨isIn_in c1 (by omega), isIn_in c2 (by omega), isIn_in c3 (by omega)⟩
abbrev mX7_follows : zM := (cX7_follows, 6, (some .boolean), RX7, wsX7_follows, "follows")
theorem hiX7_follows_X7 : ∀ w ∈ wsX70, w ∈ wsX7_follows := fun w h => List.mem_cons_of_mem _ (List.mem_append_right _ h)
theorem lkX7_follows_143 : Cond.fieldLink RX7 143 "ConfigSearchModel" "points" "I" ∈ wsX7_follows := by decide +kernel
theorem okk_X7_work : zOk yX7_work 5 := by unfold zOk; decide +kernel
theorem lkX7_follows_238 : Cond.fieldLink RX7 238 "ConfigSearchModel" "comes" "I" ∈ wsX7_follows := by decide +kernel
theorem okk_X7_makeRow : zOk yX7_makeRow 5 := by unfold zOk; decide +kernel
def X7_follows_L62_F (sg : Nat → Int32) (a : Nat) (b : Nat) (c : Nat) (d : Nat) (e : Nat) (a9 : (Nat → Int32) × (Int32) × (Nat) × (Int32)) : (Nat → Int32) × (Int32) × (Nat) × (Int32) := if (nI d) = (nI a) then (a9.1, a9.2.1, a9.2.2.1, a9.2.2.2) else (if (nI e) = (nI a) then (a9.1, a9.2.1, a9.2.2.1, a9.2.2.2) else (if (nI (X7_work_p76_13 sg a9.1 a b c d e)) = 0 then (X7_work_c101 sg a9.1 a b c d e, nI (X7_work_p76_13 sg a9.1 a b c d e), X7_work_p76_14 a9.2.2.1 sg a9.1 a b c d e, X7_work_p76_15 a9.2.2.2 sg a9.1 a b c d e) else (a9.1, a9.2.1, a9.2.2.1, a9.2.2.2)))
def X7_follows_L62_B (brs : Nat) (rws : Nat) (bm : Nat → Int32) (sg : Nat → Int32) (rk : Nat → Int32) (rt : Nat → Int32) (rs : Nat → Int32) (rf : Nat → Int32) (a : Nat) (b : Nat) (c : Nat) (d : Nat) (e : Nat) (a9 : (Nat → Int32) × (Int32) × (Nat) × (Int32)) : Option (((Int32) × (Nat) × (Int32) × (Nat) × (Int32) × (Nat → Int32) × (Nat → Int32) × (Nat → Int32) × (Nat → Int32) × (Nat → Int32) × (Nat → Int32)) ⊕ ((Nat → Int32) × (Int32) × (Nat) × (Int32))) := if (nI d) = (nI a) then (some (.inr (a9.1, a9.2.1, a9.2.2.1, a9.2.2.2))) else (if (nI e) = (nI a) then none else (if (nI (X7_work_p76_13 sg a9.1 a b c d e)) = 0 then none else (some (.inl (nI 1, X7_makeRow_p76_12 rws (nI (X7_work_p76_13 sg a9.1 a b c d e)), nI (X7_work_p76_13 sg a9.1 a b c d e), X7_work_p76_14 a9.2.2.1 sg a9.1 a b c d e, X7_work_p76_15 a9.2.2.2 sg a9.1 a b c d e, X7_makeRow_c96 brs rws (nI (X7_work_p76_13 sg a9.1 a b c d e)) (X7_work_p76_14 a9.2.2.1 sg a9.1 a b c d e) (X7_work_p76_15 a9.2.2.2 sg a9.1 a b c d e) bm sg rk rt rs, X7_makeRow_c97 brs rws (nI (X7_work_p76_13 sg a9.1 a b c d e)) (X7_work_p76_14 a9.2.2.1 sg a9.1 a b c d e) (X7_work_p76_15 a9.2.2.2 sg a9.1 a b c d e) bm rk, X7_makeRow_c98 rws (nI (X7_work_p76_13 sg a9.1 a b c d e)) rf a b c d e, X7_makeRow_c99 rws (nI (X7_work_p76_13 sg a9.1 a b c d e)) (X7_work_p76_14 a9.2.2.1 sg a9.1 a b c d e) rt, X7_makeRow_c100 rws (nI (X7_work_p76_13 sg a9.1 a b c d e)) (X7_work_p76_15 a9.2.2.2 sg a9.1 a b c d e) rs, X7_work_c101 sg a9.1 a b c d e)))))
def X7_follows_L42_F (pts : Nat) (brs : Nat) (rws : Nat) (bm : Nat → Int32) (sg : Nat → Int32) (rk : Nat → Int32) (rt : Nat → Int32) (rs : Nat → Int32) (rf : Nat → Int32) (a : Nat) (b : Nat) (c : Nat) (d : Nat) (a9 : (Nat → Int32) × (Int32) × (Nat) × (Int32)) : (Nat → Int32) × (Int32) × (Nat) × (Int32) := if (nI c) = (nI a) then (a9.1, a9.2.1, a9.2.2.1, a9.2.2.2) else (zpickY (zfoldY (X7_follows_L62_B brs rws bm sg rk rt rs rf a b c d) (X7_follows_L62_F sg a b c d) (pts - (d + 1)) (d + 1) (a9.1, a9.2.1, a9.2.2.1, a9.2.2.2)) (fun b => (a9.1, a9.2.1, a9.2.2.1, a9.2.2.2)) (fun am62 => (am62.1, am62.2.1, am62.2.2.1, am62.2.2.2)))
def X7_follows_L42_B (pts : Nat) (brs : Nat) (rws : Nat) (bm : Nat → Int32) (sg : Nat → Int32) (rk : Nat → Int32) (rt : Nat → Int32) (rs : Nat → Int32) (rf : Nat → Int32) (a : Nat) (b : Nat) (c : Nat) (d : Nat) (a9 : (Nat → Int32) × (Int32) × (Nat) × (Int32)) : Option (((Int32) × (Nat) × (Int32) × (Nat) × (Int32) × (Nat → Int32) × (Nat → Int32) × (Nat → Int32) × (Nat → Int32) × (Nat → Int32) × (Nat → Int32)) ⊕ ((Nat → Int32) × (Int32) × (Nat) × (Int32))) := if (nI c) = (nI a) then (some (.inr (a9.1, a9.2.1, a9.2.2.1, a9.2.2.2))) else (zpickY (zfoldY (X7_follows_L62_B brs rws bm sg rk rt rs rf a b c d) (X7_follows_L62_F sg a b c d) (pts - (d + 1)) (d + 1) (a9.1, a9.2.1, a9.2.2.1, a9.2.2.2)) (fun b => some (.inl b)) (fun am62 => none))
def X7_follows_L24_F (pts : Nat) (brs : Nat) (rws : Nat) (bm : Nat → Int32) (sg : Nat → Int32) (rk : Nat → Int32) (rt : Nat → Int32) (rs : Nat → Int32) (rf : Nat → Int32) (a : Nat) (b : Nat) (c : Nat) (a9 : (Nat → Int32) × (Int32) × (Nat) × (Int32)) : (Nat → Int32) × (Int32) × (Nat) × (Int32) := if (nI b) = (nI a) then (a9.1, a9.2.1, a9.2.2.1, a9.2.2.2) else (zpickY (zfoldY (X7_follows_L42_B pts brs rws bm sg rk rt rs rf a b c) (X7_follows_L42_F pts brs rws bm sg rk rt rs rf a b c) (pts - (c + 1)) (c + 1) (a9.1, a9.2.1, a9.2.2.1, a9.2.2.2)) (fun b => (a9.1, a9.2.1, a9.2.2.1, a9.2.2.2)) (fun am42 => (am42.1, am42.2.1, am42.2.2.1, am42.2.2.2)))
def X7_follows_L24_B (pts : Nat) (brs : Nat) (rws : Nat) (bm : Nat → Int32) (sg : Nat → Int32) (rk : Nat → Int32) (rt : Nat → Int32) (rs : Nat → Int32) (rf : Nat → Int32) (a : Nat) (b : Nat) (c : Nat) (a9 : (Nat → Int32) × (Int32) × (Nat) × (Int32)) : Option (((Int32) × (Nat) × (Int32) × (Nat) × (Int32) × (Nat → Int32) × (Nat → Int32) × (Nat → Int32) × (Nat → Int32) × (Nat → Int32) × (Nat → Int32)) ⊕ ((Nat → Int32) × (Int32) × (Nat) × (Int32))) := if (nI b) = (nI a) then (some (.inr (a9.1, a9.2.1, a9.2.2.1, a9.2.2.2))) else (zpickY (zfoldY (X7_follows_L42_B pts brs rws bm sg rk rt rs rf a b c) (X7_follows_L42_F pts brs rws bm sg rk rt rs rf a b c) (pts - (c + 1)) (c + 1) (a9.1, a9.2.1, a9.2.2.1, a9.2.2.2)) (fun b => some (.inl b)) (fun am42 => none))
def X7_follows_L12_F (pts : Nat) (brs : Nat) (rws : Nat) (bm : Nat → Int32) (sg : Nat → Int32) (rk : Nat → Int32) (rt : Nat → Int32) (rs : Nat → Int32) (rf : Nat → Int32) (a : Nat) (b : Nat) (a9 : (Nat → Int32) × (Int32) × (Nat) × (Int32)) : (Nat → Int32) × (Int32) × (Nat) × (Int32) := zpickY (zfoldY (X7_follows_L24_B pts brs rws bm sg rk rt rs rf a b) (X7_follows_L24_F pts brs rws bm sg rk rt rs rf a b) (pts - (b + 1)) (b + 1) (a9.1, a9.2.1, a9.2.2.1, a9.2.2.2)) (fun b => (a9.1, a9.2.1, a9.2.2.1, a9.2.2.2)) (fun am24 => (am24.1, am24.2.1, am24.2.2.1, am24.2.2.2))
def X7_follows_L12_B (pts : Nat) (brs : Nat) (rws : Nat) (bm : Nat → Int32) (sg : Nat → Int32) (rk : Nat → Int32) (rt : Nat → Int32) (rs : Nat → Int32) (rf : Nat → Int32) (a : Nat) (b : Nat) (a9 : (Nat → Int32) × (Int32) × (Nat) × (Int32)) : Option ((Int32) × (Nat) × (Int32) × (Nat) × (Int32) × (Nat → Int32) × (Nat → Int32) × (Nat → Int32) × (Nat → Int32) × (Nat → Int32) × (Nat → Int32)) := zpickY (zfoldY (X7_follows_L24_B pts brs rws bm sg rk rt rs rf a b) (X7_follows_L24_F pts brs rws bm sg rk rt rs rf a b) (pts - (b + 1)) (b + 1) (a9.1, a9.2.1, a9.2.2.1, a9.2.2.2)) (fun b => some b) (fun am24 => none)
def X7_follows_L2_F (pts : Nat) (brs : Nat) (rws : Nat) (bm : Nat → Int32) (sg : Nat → Int32) (rk : Nat → Int32) (rt : Nat → Int32) (rs : Nat → Int32) (rf : Nat → Int32) (a : Nat) (a9 : (Nat → Int32) × (Int32) × (Nat) × (Int32)) : (Nat → Int32) × (Int32) × (Nat) × (Int32) := zpick (zfoldB (X7_follows_L12_B pts brs rws bm sg rk rt rs rf a) (X7_follows_L12_F pts brs rws bm sg rk rt rs rf a) pts 0 (a9.1, a9.2.1, a9.2.2.1, a9.2.2.2)) (fun b => (a9.1, a9.2.1, a9.2.2.1, a9.2.2.2)) (fun am12 => (am12.1, am12.2.1, am12.2.2.1, am12.2.2.2))
def X7_follows_L2_B (pts : Nat) (brs : Nat) (rws : Nat) (bm : Nat → Int32) (sg : Nat → Int32) (rk : Nat → Int32) (rt : Nat → Int32) (rs : Nat → Int32) (rf : Nat → Int32) (a : Nat) (a9 : (Nat → Int32) × (Int32) × (Nat) × (Int32)) : Option ((Int32) × (Nat) × (Int32) × (Nat) × (Int32) × (Nat → Int32) × (Nat → Int32) × (Nat → Int32) × (Nat → Int32) × (Nat → Int32) × (Nat → Int32)) := zpick (zfoldB (X7_follows_L12_B pts brs rws bm sg rk rt rs rf a) (X7_follows_L12_F pts brs rws bm sg rk rt rs rf a) pts 0 (a9.1, a9.2.1, a9.2.2.1, a9.2.2.2)) (fun b => some b) (fun am12 => none)
def X7_follows_v (pts brs : Nat) (rws : Nat) (cms : Int32) (cmT : Nat) (cmS : Int32) (bm sg rk rt rs rf sx : Nat → Int32) : Int32 := zpick (zfoldB (X7_follows_L2_B pts brs rws bm sg rk rt rs rf) (X7_follows_L2_F pts brs rws bm sg rk rt rs rf) pts 0 (sx, cms, cmT, cmS)) (fun b => b.1) (fun am2 => nI 0)
def X7_follows_p76_12 (pts brs : Nat) (rws : Nat) (cms : Int32) (cmT : Nat) (cmS : Int32) (bm sg rk rt rs rf sx : Nat → Int32) : Nat := zpick (zfoldB (X7_follows_L2_B pts brs rws bm sg rk rt rs rf) (X7_follows_L2_F pts brs rws bm sg rk rt rs rf) pts 0 (sx, cms, cmT, cmS)) (fun b => b.2.1) (fun am2 => rws)
def X7_follows_p76_13 (pts brs : Nat) (rws : Nat) (cms : Int32) (cmT : Nat) (cmS : Int32) (bm sg rk rt rs rf sx : Nat → Int32) : Int32 := zpick (zfoldB (X7_follows_L2_B pts brs rws bm sg rk rt rs rf) (X7_follows_L2_F pts brs rws bm sg rk rt rs rf) pts 0 (sx, cms, cmT, cmS)) (fun b => b.2.2.1) (fun am2 => am2.2.1)
def X7_follows_p76_14 (pts brs : Nat) (rws : Nat) (cms : Int32) (cmT : Nat) (cmS : Int32) (bm sg rk rt rs rf sx : Nat → Int32) : Nat := zpick (zfoldB (X7_follows_L2_B pts brs rws bm sg rk rt rs rf) (X7_follows_L2_F pts brs rws bm sg rk rt rs rf) pts 0 (sx, cms, cmT, cmS)) (fun b => b.2.2.2.1) (fun am2 => am2.2.2.1)
def X7_follows_p76_15 (pts brs : Nat) (rws : Nat) (cms : Int32) (cmT : Nat) (cmS : Int32) (bm sg rk rt rs rf sx : Nat → Int32) : Int32 := zpick (zfoldB (X7_follows_L2_B pts brs rws bm sg rk rt rs rf) (X7_follows_L2_F pts brs rws bm sg rk rt rs rf) pts 0 (sx, cms, cmT, cmS)) (fun b => b.2.2.2.2.1) (fun am2 => am2.2.2.2)
def X7_follows_c96 (pts brs : Nat) (rws : Nat) (cms : Int32) (cmT : Nat) (cmS : Int32) (bm sg rk rt rs rf sx : Nat → Int32) : Nat → Int32 := zpick (zfoldB (X7_follows_L2_B pts brs rws bm sg rk rt rs rf) (X7_follows_L2_F pts brs rws bm sg rk rt rs rf) pts 0 (sx, cms, cmT, cmS)) (fun b => b.2.2.2.2.2.1) (fun am2 => sg)
def X7_follows_c97 (pts brs : Nat) (rws : Nat) (cms : Int32) (cmT : Nat) (cmS : Int32) (bm sg rk rt rs rf sx : Nat → Int32) : Nat → Int32 := zpick (zfoldB (X7_follows_L2_B pts brs rws bm sg rk rt rs rf) (X7_follows_L2_F pts brs rws bm sg rk rt rs rf) pts 0 (sx, cms, cmT, cmS)) (fun b => b.2.2.2.2.2.2.1) (fun am2 => rk)
def X7_follows_c98 (pts brs : Nat) (rws : Nat) (cms : Int32) (cmT : Nat) (cmS : Int32) (bm sg rk rt rs rf sx : Nat → Int32) : Nat → Int32 := zpick (zfoldB (X7_follows_L2_B pts brs rws bm sg rk rt rs rf) (X7_follows_L2_F pts brs rws bm sg rk rt rs rf) pts 0 (sx, cms, cmT, cmS)) (fun b => b.2.2.2.2.2.2.2.1) (fun am2 => rf)
def X7_follows_c99 (pts brs : Nat) (rws : Nat) (cms : Int32) (cmT : Nat) (cmS : Int32) (bm sg rk rt rs rf sx : Nat → Int32) : Nat → Int32 := zpick (zfoldB (X7_follows_L2_B pts brs rws bm sg rk rt rs rf) (X7_follows_L2_F pts brs rws bm sg rk rt rs rf) pts 0 (sx, cms, cmT, cmS)) (fun b => b.2.2.2.2.2.2.2.2.1) (fun am2 => rt)
def X7_follows_c100 (pts brs : Nat) (rws : Nat) (cms : Int32) (cmT : Nat) (cmS : Int32) (bm sg rk rt rs rf sx : Nat → Int32) : Nat → Int32 := zpick (zfoldB (X7_follows_L2_B pts brs rws bm sg rk rt rs rf) (X7_follows_L2_F pts brs rws bm sg rk rt rs rf) pts 0 (sx, cms, cmT, cmS)) (fun b => b.2.2.2.2.2.2.2.2.2.1) (fun am2 => rs)
def X7_follows_c101 (pts brs : Nat) (rws : Nat) (cms : Int32) (cmT : Nat) (cmS : Int32) (bm sg rk rt rs rf sx : Nat → Int32) : Nat → Int32 := zpick (zfoldB (X7_follows_L2_B pts brs rws bm sg rk rt rs rf) (X7_follows_L2_F pts brs rws bm sg rk rt rs rf) pts 0 (sx, cms, cmT, cmS)) (fun b => b.2.2.2.2.2.2.2.2.2.2) (fun am2 => am2.1)
theorem fl62_F {sg : Nat → Int32} {a b c d e : Nat} {a9 : ((Nat → Int32) × (Int32) × (Nat) × (Int32))} (ha : a < 10) (hb : b < 10) (hc : c < 10) (hd : d < 10) (he : e < 10) (h : a9.2.2.1 < 1000) : (X7_follows_L62_F sg a b c d e a9).2.2.1 < 1000 := by
  unfold X7_follows_L62_F
  repeat' split
  all_goals first | exact h | exact work_lt h ha hb hc hd he
theorem fl62_B {brs rws : Nat} {bm sg rk rt rs rf : Nat → Int32} {a b c d e : Nat} {a9 : ((Nat → Int32) × (Int32) × (Nat) × (Int32))} (ha : a < 10) (hb : b < 10) (hc : c < 10) (hd : d < 10) (he : e < 10) (h : a9.2.2.1 < 1000) : (∀ r, X7_follows_L62_B brs rws bm sg rk rt rs rf a b c d e a9 = some (.inl r) → r.2.1 = rws + 1 ∧ r.2.2.2.1 < 1000) ∧ ∀ z, X7_follows_L62_B brs rws bm sg rk rt rs rf a b c d e a9 = some (.inr z) → z.2.2.1 < 1000 := by
  unfold X7_follows_L62_B
  repeat' split
  · exact ⟨fun r hr => (by cases hr), fun z hz => by cases hz; exact h⟩
  · exact ⟨fun r hr => (by cases hr), fun z hz => by cases hz⟩
  · exact ⟨fun r hr => (by cases hr), fun z hz => by cases hz⟩
  · exact ⟨fun r hr => (by cases hr; exact ⟨makeRow_rw, work_lt h ha hb hc hd he⟩), fun z hz => by cases hz⟩
theorem fl62 {pts brs rws : Nat} {bm sg rk rt rs rf : Nat → Int32} {a b c d : Nat} {a9 : ((Nat → Int32) × (Int32) × (Nat) × (Int32))} (hp : pts ≤ 10) (ha : a < 10) (hb : b < 10) (hc : c < 10) (hd : d < pts) (h : a9.2.2.1 < 1000) : (∀ r, zfoldY (X7_follows_L62_B brs rws bm sg rk rt rs rf a b c d) (X7_follows_L62_F sg a b c d) (pts - (d + 1)) (d + 1) a9 = .inl r → r.2.1 = rws + 1 ∧ r.2.2.2.1 < 1000) ∧ ∀ z, zfoldY (X7_follows_L62_B brs rws bm sg rk rt rs rf a b c d) (X7_follows_L62_F sg a b c d) (pts - (d + 1)) (d + 1) a9 = .inr z → z.2.2.1 < 1000 :=
  zfoldY_PQ (n := pts) (fun (z : ((Nat → Int32) × (Int32) × (Nat) × (Int32))) => z.2.2.1 < 1000) (fun r => r.2.1 = rws + 1 ∧ r.2.2.2.1 < 1000) (B := X7_follows_L62_B brs rws bm sg rk rt rs rf a b c d) (F := X7_follows_L62_F sg a b c d) (fun e z he hz => fl62_F ha hb hc (by omega) (by omega) hz) (fun e z he hz => fl62_B ha hb hc (by omega) (by omega) hz) (pts - (d + 1)) (d + 1) a9 (by omega) h
theorem fl42_F {pts brs rws : Nat} {bm sg rk rt rs rf : Nat → Int32} {a b c d : Nat} {a9 : ((Nat → Int32) × (Int32) × (Nat) × (Int32))} (hp : pts ≤ 10) (ha : a < 10) (hb : b < 10) (hc : c < 10) (hd : d < pts) (h : a9.2.2.1 < 1000) : (X7_follows_L42_F pts brs rws bm sg rk rt rs rf a b c d a9).2.2.1 < 1000 := by
  unfold X7_follows_L42_F
  split
  · exact h
  · exact zpickY_P (P := fun (z : ((Nat → Int32) × (Int32) × (Nat) × (Int32))) => z.2.2.1 < 1000) (fun _ _ => h) (fun z hz => (fl62 hp ha hb hc hd h).2 z hz)
theorem fl42_B {pts brs rws : Nat} {bm sg rk rt rs rf : Nat → Int32} {a b c d : Nat} {a9 : ((Nat → Int32) × (Int32) × (Nat) × (Int32))} (hp : pts ≤ 10) (ha : a < 10) (hb : b < 10) (hc : c < 10) (hd : d < pts) (h : a9.2.2.1 < 1000) : (∀ r, X7_follows_L42_B pts brs rws bm sg rk rt rs rf a b c d a9 = some (.inl r) → r.2.1 = rws + 1 ∧ r.2.2.2.1 < 1000) ∧ ∀ z, X7_follows_L42_B pts brs rws bm sg rk rt rs rf a b c d a9 = some (.inr z) → z.2.2.1 < 1000 := by
  unfold X7_follows_L42_B
  split
  · exact ⟨fun r hr => (by cases hr), fun z hz => by cases hz; exact h⟩
  · exact ⟨fun r hr => (fl62 hp ha hb hc hd h).1 r (zpY_in hr), fun z hz => zpY_nb hz⟩
theorem fl42 {pts brs rws : Nat} {bm sg rk rt rs rf : Nat → Int32} {a b c : Nat} {a9 : ((Nat → Int32) × (Int32) × (Nat) × (Int32))} (hp : pts ≤ 10) (ha : a < 10) (hb : b < 10) (hc : c < pts) (h : a9.2.2.1 < 1000) : (∀ r, zfoldY (X7_follows_L42_B pts brs rws bm sg rk rt rs rf a b c) (X7_follows_L42_F pts brs rws bm sg rk rt rs rf a b c) (pts - (c + 1)) (c + 1) a9 = .inl r → r.2.1 = rws + 1 ∧ r.2.2.2.1 < 1000) ∧ ∀ z, zfoldY (X7_follows_L42_B pts brs rws bm sg rk rt rs rf a b c) (X7_follows_L42_F pts brs rws bm sg rk rt rs rf a b c) (pts - (c + 1)) (c + 1) a9 = .inr z → z.2.2.1 < 1000 :=
  zfoldY_PQ (n := pts) (fun (z : ((Nat → Int32) × (Int32) × (Nat) × (Int32))) => z.2.2.1 < 1000) (fun r => r.2.1 = rws + 1 ∧ r.2.2.2.1 < 1000) (B := X7_follows_L42_B pts brs rws bm sg rk rt rs rf a b c) (F := X7_follows_L42_F pts brs rws bm sg rk rt rs rf a b c) (fun d z hd hz => fl42_F hp (by omega) (by omega) (by omega) hd hz) (fun d z hd hz => fl42_B hp (by omega) (by omega) (by omega) hd hz) (pts - (c + 1)) (c + 1) a9 (by omega) h
theorem fl24_F {pts brs rws : Nat} {bm sg rk rt rs rf : Nat → Int32} {a b c : Nat} {a9 : ((Nat → Int32) × (Int32) × (Nat) × (Int32))} (hp : pts ≤ 10) (ha : a < 10) (hb : b < 10) (hc : c < pts) (h : a9.2.2.1 < 1000) : (X7_follows_L24_F pts brs rws bm sg rk rt rs rf a b c a9).2.2.1 < 1000 := by
  unfold X7_follows_L24_F
  split
  · exact h
  · exact zpickY_P (P := fun (z : ((Nat → Int32) × (Int32) × (Nat) × (Int32))) => z.2.2.1 < 1000) (fun _ _ => h) (fun z hz => (fl42 hp ha hb hc h).2 z hz)
theorem fl24_B {pts brs rws : Nat} {bm sg rk rt rs rf : Nat → Int32} {a b c : Nat} {a9 : ((Nat → Int32) × (Int32) × (Nat) × (Int32))} (hp : pts ≤ 10) (ha : a < 10) (hb : b < 10) (hc : c < pts) (h : a9.2.2.1 < 1000) : (∀ r, X7_follows_L24_B pts brs rws bm sg rk rt rs rf a b c a9 = some (.inl r) → r.2.1 = rws + 1 ∧ r.2.2.2.1 < 1000) ∧ ∀ z, X7_follows_L24_B pts brs rws bm sg rk rt rs rf a b c a9 = some (.inr z) → z.2.2.1 < 1000 := by
  unfold X7_follows_L24_B
  split
  · exact ⟨fun r hr => (by cases hr), fun z hz => by cases hz; exact h⟩
  · exact ⟨fun r hr => (fl42 hp ha hb hc h).1 r (zpY_in hr), fun z hz => zpY_nb hz⟩
theorem fl24 {pts brs rws : Nat} {bm sg rk rt rs rf : Nat → Int32} {a b : Nat} {a9 : ((Nat → Int32) × (Int32) × (Nat) × (Int32))} (hp : pts ≤ 10) (ha : a < 10) (hb : b < pts) (h : a9.2.2.1 < 1000) : (∀ r, zfoldY (X7_follows_L24_B pts brs rws bm sg rk rt rs rf a b) (X7_follows_L24_F pts brs rws bm sg rk rt rs rf a b) (pts - (b + 1)) (b + 1) a9 = .inl r → r.2.1 = rws + 1 ∧ r.2.2.2.1 < 1000) ∧ ∀ z, zfoldY (X7_follows_L24_B pts brs rws bm sg rk rt rs rf a b) (X7_follows_L24_F pts brs rws bm sg rk rt rs rf a b) (pts - (b + 1)) (b + 1) a9 = .inr z → z.2.2.1 < 1000 :=
  zfoldY_PQ (n := pts) (fun (z : ((Nat → Int32) × (Int32) × (Nat) × (Int32))) => z.2.2.1 < 1000) (fun r => r.2.1 = rws + 1 ∧ r.2.2.2.1 < 1000) (B := X7_follows_L24_B pts brs rws bm sg rk rt rs rf a b) (F := X7_follows_L24_F pts brs rws bm sg rk rt rs rf a b) (fun c z hc hz => fl24_F hp (by omega) (by omega) hc hz) (fun c z hc hz => fl24_B hp (by omega) (by omega) hc hz) (pts - (b + 1)) (b + 1) a9 (by omega) h
theorem fl12_F {pts brs rws : Nat} {bm sg rk rt rs rf : Nat → Int32} {a b : Nat} {a9 : ((Nat → Int32) × (Int32) × (Nat) × (Int32))} (hp : pts ≤ 10) (ha : a < 10) (hb : b < pts) (h : a9.2.2.1 < 1000) : (X7_follows_L12_F pts brs rws bm sg rk rt rs rf a b a9).2.2.1 < 1000 := by
  unfold X7_follows_L12_F
  exact zpickY_P (P := fun (z : ((Nat → Int32) × (Int32) × (Nat) × (Int32))) => z.2.2.1 < 1000) (fun _ _ => h) (fun z hz => (fl24 hp ha hb h).2 z hz)
theorem fl12 {pts brs rws : Nat} {bm sg rk rt rs rf : Nat → Int32} {a : Nat} {a9 : ((Nat → Int32) × (Int32) × (Nat) × (Int32))} (hp : pts ≤ 10) (ha : a < 10) (h : a9.2.2.1 < 1000) : (∀ r, (zfoldB (X7_follows_L12_B pts brs rws bm sg rk rt rs rf a) (X7_follows_L12_F pts brs rws bm sg rk rt rs rf a) pts 0 a9).1 = some r → r.2.1 = rws + 1 ∧ r.2.2.2.1 < 1000) ∧ (zfoldB (X7_follows_L12_B pts brs rws bm sg rk rt rs rf a) (X7_follows_L12_F pts brs rws bm sg rk rt rs rf a) pts 0 a9).2.2.2.1 < 1000 :=
  zfoldB_PQ (n := pts) (fun (z : ((Nat → Int32) × (Int32) × (Nat) × (Int32))) => z.2.2.1 < 1000) (fun r => r.2.1 = rws + 1 ∧ r.2.2.2.1 < 1000) (B := X7_follows_L12_B pts brs rws bm sg rk rt rs rf a) (F := X7_follows_L12_F pts brs rws bm sg rk rt rs rf a) (fun b z hb hz => fl12_F hp ha hb hz) (fun b z hb hz r hr => (fl24 hp ha hb hz).1 r (zpY_so hr)) pts 0 a9 (by omega) h
theorem fl2_F {pts brs rws : Nat} {bm sg rk rt rs rf : Nat → Int32} {a : Nat} {a9 : ((Nat → Int32) × (Int32) × (Nat) × (Int32))} (hp : pts ≤ 10) (ha : a < 10) (h : a9.2.2.1 < 1000) : (X7_follows_L2_F pts brs rws bm sg rk rt rs rf a a9).2.2.1 < 1000 := by
  unfold X7_follows_L2_F
  exact zpick_P (P := fun (z : ((Nat → Int32) × (Int32) × (Nat) × (Int32))) => z.2.2.1 < 1000) (fun _ _ => h) (fun _ => (fl12 hp ha h).2)
theorem fl2 {pts brs rws : Nat} {bm sg rk rt rs rf : Nat → Int32} {a9 : ((Nat → Int32) × (Int32) × (Nat) × (Int32))} (hp : pts ≤ 10) (h : a9.2.2.1 < 1000) : (∀ r, (zfoldB (X7_follows_L2_B pts brs rws bm sg rk rt rs rf) (X7_follows_L2_F pts brs rws bm sg rk rt rs rf) pts 0 a9).1 = some r → r.2.1 = rws + 1 ∧ r.2.2.2.1 < 1000) ∧ (zfoldB (X7_follows_L2_B pts brs rws bm sg rk rt rs rf) (X7_follows_L2_F pts brs rws bm sg rk rt rs rf) pts 0 a9).2.2.2.1 < 1000 :=
  zfoldB_PQ (n := pts) (fun (z : ((Nat → Int32) × (Int32) × (Nat) × (Int32))) => z.2.2.1 < 1000) (fun r => r.2.1 = rws + 1 ∧ r.2.2.2.1 < 1000) (B := X7_follows_L2_B pts brs rws bm sg rk rt rs rf) (F := X7_follows_L2_F pts brs rws bm sg rk rt rs rf) (fun a z ha hz => fl2_F hp (by omega) hz) (fun a z ha hz r hr => (fl12 hp (by omega) hz).1 r (zp_so hr)) pts 0 a9 (by omega) h
theorem follows_rw {pts brs rws : Nat} {cms : Int32} {cmT : Nat} {cmS : Int32} {bm sg rk rt rs rf sx : Nat → Int32} (hp : pts ≤ 10) (h : cmT < 1000) (hv : ¬ X7_follows_v pts brs rws cms cmT cmS bm sg rk rt rs rf sx = 0) : X7_follows_p76_12 pts brs rws cms cmT cmS bm sg rk rt rs rf sx = rws + 1 := by
  unfold X7_follows_v at hv
  unfold X7_follows_p76_12
  revert hv
  refine zpick_P (P := fun z => ¬ z = 0 → _) (fun b hb _ => ?_) (fun _ hv => absurd rfl hv)
  refine zpick_P (P := fun z => z = rws + 1) (fun b hb => ((fl2 hp h).1 b hb).1) (fun hn => ?_)
  rw [hb] at hn
  cases hn
theorem follows_lt {pts brs rws : Nat} {cms : Int32} {cmT : Nat} {cmS : Int32} {bm sg rk rt rs rf sx : Nat → Int32} (hp : pts ≤ 10) (h : cmT < 1000) : X7_follows_p76_14 pts brs rws cms cmT cmS bm sg rk rt rs rf sx < 1000 := by
  unfold X7_follows_p76_14
  exact zpick_P (P := fun z => z < 1000) (fun b hb => ((fl2 hp h).1 b hb).2) (fun _ => (fl2 hp h).2)
set_option maxRecDepth 100000 in
set_option maxHeartbeats 4000000 in
theorem c_X7_follows (G : zG) (ex : Bool) (g : Nat → va_E) (code : Int32) (tps pts lns wds brs ors : Nat) (stp hasP fld laid told : Int32) (rws : Nat) (cms : Int32) (cmT : Nat) (cmS isN : Int32) (trs : Nat) (bm sg rk rt rs rf sx : Nat → Int32) (hb9 : brs ≤ 20) (hw : rws < 60) (hp : pts ≤ 10) (hcm : cmT < 1000) (h76 : g 76 = (oMod G code (nI tps) (nI pts) (nI lns) (nI wds) (nI brs) (nI ors) stp hasP fld laid told (nI rws) cms (nI cmT) cmS isN (nI trs))) (h86 : g 86 = (zI G 20 bm)) (h96 : g 96 = (zI G 1000 sg)) (h97 : g 97 = (zI G 60 rk)) (h99 : g 99 = (zI G 60 rt)) (h100 : g 100 = (zI G 60 rs)) (h98 : g 98 = (zI G 300 rf)) (h101 : g 101 = (zI G 6 sx)) : zC G yX7_follows wsX7_follows (zrm 4 105) ex [.ref (zB G + 76)] (zN, g) (fun r h => r = some (.int (X7_follows_v pts brs rws cms cmT cmS bm sg rk rt rs rf sx)) ∧ h = (zN, zus g [(76, (oMod G code (nI tps) (nI pts) (nI lns) (nI wds) (nI brs) (nI ors) stp hasP fld laid told (nI (X7_follows_p76_12 pts brs rws cms cmT cmS bm sg rk rt rs rf sx)) (X7_follows_p76_13 pts brs rws cms cmT cmS bm sg rk rt rs rf sx) (nI (X7_follows_p76_14 pts brs rws cms cmT cmS bm sg rk rt rs rf sx)) (X7_follows_p76_15 pts brs rws cms cmT cmS bm sg rk rt rs rf sx) isN (nI trs))), (96, zI G 1000 (X7_follows_c96 pts brs rws cms cmT cmS bm sg rk rt rs rf sx)), (97, zI G 60 (X7_follows_c97 pts brs rws cms cmT cmS bm sg rk rt rs rf sx)), (98, zI G 300 (X7_follows_c98 pts brs rws cms cmT cmS bm sg rk rt rs rf sx)), (99, zI G 60 (X7_follows_c99 pts brs rws cms cmT cmS bm sg rk rt rs rf sx)), (100, zI G 60 (X7_follows_c100 pts brs rws cms cmT cmS bm sg rk rt rs rf sx)), (101, zI G 6 (X7_follows_c101 pts brs rws cms cmT cmS bm sg rk rt rs rf sx))])) := by
  refine zC_of mX7_follows (lv := [some (.ref (zB G + 76)), none, none, none, none, none]) rfl rfl (by decide) (by intro v hv; simp at hv; subst hv; rfl) (Nat.le_of_ble_eq_true rfl) rfl ?_
  refine z_0 ?_
  refine z_heap (g' := zu (zus g []) 76 (oMod G code (nI tps) (nI pts) (nI lns) (nI wds) (nI brs) (nI ors) stp hasP fld laid told (nI rws) cms (nI cmT) cmS isN (nI trs))) (zu_self (zus g []) 76 _ h76).symm ?_
  refine z_n (L' := [(76, (oMod G code (nI tps) (nI pts) (nI lns) (nI wds) (nI brs) (nI ors) stp hasP fld laid told (nI rws) cms (nI cmT) cmS isN (nI trs)))]) rfl ?_
  refine z_heap (g' := zu (zus g [(76, (oMod G code (nI tps) (nI pts) (nI lns) (nI wds) (nI brs) (nI ors) stp hasP fld laid told (nI rws) cms (nI cmT) cmS isN (nI trs)))]) 96 (zI G 1000 sg)) (zu_self (zus g [(76, (oMod G code (nI tps) (nI pts) (nI lns) (nI wds) (nI brs) (nI ors) stp hasP fld laid told (nI rws) cms (nI cmT) cmS isN (nI trs)))]) 96 _ h96).symm ?_
  refine z_n (L' := [(76, (oMod G code (nI tps) (nI pts) (nI lns) (nI wds) (nI brs) (nI ors) stp hasP fld laid told (nI rws) cms (nI cmT) cmS isN (nI trs))), (96, (zI G 1000 sg))]) rfl ?_
  refine z_heap (g' := zu (zus g [(76, (oMod G code (nI tps) (nI pts) (nI lns) (nI wds) (nI brs) (nI ors) stp hasP fld laid told (nI rws) cms (nI cmT) cmS isN (nI trs))), (96, (zI G 1000 sg))]) 97 (zI G 60 rk)) (zu_self (zus g [(76, (oMod G code (nI tps) (nI pts) (nI lns) (nI wds) (nI brs) (nI ors) stp hasP fld laid told (nI rws) cms (nI cmT) cmS isN (nI trs))), (96, (zI G 1000 sg))]) 97 _ h97).symm ?_
  refine z_n (L' := [(76, (oMod G code (nI tps) (nI pts) (nI lns) (nI wds) (nI brs) (nI ors) stp hasP fld laid told (nI rws) cms (nI cmT) cmS isN (nI trs))), (96, (zI G 1000 sg)), (97, (zI G 60 rk))]) rfl ?_
  refine z_heap (g' := zu (zus g [(76, (oMod G code (nI tps) (nI pts) (nI lns) (nI wds) (nI brs) (nI ors) stp hasP fld laid told (nI rws) cms (nI cmT) cmS isN (nI trs))), (96, (zI G 1000 sg)), (97, (zI G 60 rk))]) 98 (zI G 300 rf)) (zu_self (zus g [(76, (oMod G code (nI tps) (nI pts) (nI lns) (nI wds) (nI brs) (nI ors) stp hasP fld laid told (nI rws) cms (nI cmT) cmS isN (nI trs))), (96, (zI G 1000 sg)), (97, (zI G 60 rk))]) 98 _ h98).symm ?_
  refine z_n (L' := [(76, (oMod G code (nI tps) (nI pts) (nI lns) (nI wds) (nI brs) (nI ors) stp hasP fld laid told (nI rws) cms (nI cmT) cmS isN (nI trs))), (96, (zI G 1000 sg)), (97, (zI G 60 rk)), (98, (zI G 300 rf))]) rfl ?_
  refine z_heap (g' := zu (zus g [(76, (oMod G code (nI tps) (nI pts) (nI lns) (nI wds) (nI brs) (nI ors) stp hasP fld laid told (nI rws) cms (nI cmT) cmS isN (nI trs))), (96, (zI G 1000 sg)), (97, (zI G 60 rk)), (98, (zI G 300 rf))]) 99 (zI G 60 rt)) (zu_self (zus g [(76, (oMod G code (nI tps) (nI pts) (nI lns) (nI wds) (nI brs) (nI ors) stp hasP fld laid told (nI rws) cms (nI cmT) cmS isN (nI trs))), (96, (zI G 1000 sg)), (97, (zI G 60 rk)), (98, (zI G 300 rf))]) 99 _ h99).symm ?_
  refine z_n (L' := [(76, (oMod G code (nI tps) (nI pts) (nI lns) (nI wds) (nI brs) (nI ors) stp hasP fld laid told (nI rws) cms (nI cmT) cmS isN (nI trs))), (96, (zI G 1000 sg)), (97, (zI G 60 rk)), (98, (zI G 300 rf)), (99, (zI G 60 rt))]) rfl ?_
  refine z_heap (g' := zu (zus g [(76, (oMod G code (nI tps) (nI pts) (nI lns) (nI wds) (nI brs) (nI ors) stp hasP fld laid told (nI rws) cms (nI cmT) cmS isN (nI trs))), (96, (zI G 1000 sg)), (97, (zI G 60 rk)), (98, (zI G 300 rf)), (99, (zI G 60 rt))]) 100 (zI G 60 rs)) (zu_self (zus g [(76, (oMod G code (nI tps) (nI pts) (nI lns) (nI wds) (nI brs) (nI ors) stp hasP fld laid told (nI rws) cms (nI cmT) cmS isN (nI trs))), (96, (zI G 1000 sg)), (97, (zI G 60 rk)), (98, (zI G 300 rf)), (99, (zI G 60 rt))]) 100 _ h100).symm ?_
  refine z_n (L' := [(76, (oMod G code (nI tps) (nI pts) (nI lns) (nI wds) (nI brs) (nI ors) stp hasP fld laid told (nI rws) cms (nI cmT) cmS isN (nI trs))), (96, (zI G 1000 sg)), (97, (zI G 60 rk)), (98, (zI G 300 rf)), (99, (zI G 60 rt)), (100, (zI G 60 rs))]) rfl ?_
  refine z_heap (g' := zu (zus g [(76, (oMod G code (nI tps) (nI pts) (nI lns) (nI wds) (nI brs) (nI ors) stp hasP fld laid told (nI rws) cms (nI cmT) cmS isN (nI trs))), (96, (zI G 1000 sg)), (97, (zI G 60 rk)), (98, (zI G 300 rf)), (99, (zI G 60 rt)), (100, (zI G 60 rs))]) 101 (zI G 6 sx)) (zu_self (zus g [(76, (oMod G code (nI tps) (nI pts) (nI lns) (nI wds) (nI brs) (nI ors) stp hasP fld laid told (nI rws) cms (nI cmT) cmS isN (nI trs))), (96, (zI G 1000 sg)), (97, (zI G 60 rk)), (98, (zI G 300 rf)), (99, (zI G 60 rt)), (100, (zI G 60 rs))]) 101 _ h101).symm ?_
  refine z_n (L' := [(76, (oMod G code (nI tps) (nI pts) (nI lns) (nI wds) (nI brs) (nI ors) stp hasP fld laid told (nI rws) cms (nI cmT) cmS isN (nI trs))), (96, (zI G 1000 sg)), (97, (zI G 60 rk)), (98, (zI G 300 rf)), (99, (zI G 60 rt)), (100, (zI G 60 rs)), (101, (zI G 6 sx))]) rfl ?_
  refine z_iconst (v := nI 0) dX7_follows_0 rfl (by decide) ?_
  refine z_istore_1 dX7_follows_1 rfl ?_
  refine z_forB (head := fun a (st9 : (Nat → Int32) × (Int32) × (Nat) × (Int32)) => ∀ y2 y3 y4 y5 : Option Value, Z G mX7_follows (zrm 4 105) ex _ 2 [some (.ref (zB G + 76)), some (.int (nI a)), y2, y3, y4, y5] [] (zN, zus g [(76, (oMod G code (nI tps) (nI pts) (nI lns) (nI wds) (nI brs) (nI ors) stp hasP fld laid told (nI rws) st9.2.1 (nI st9.2.2.1) st9.2.2.2 isN (nI trs))), (96, (zI G 1000 sg)), (97, (zI G 60 rk)), (98, (zI G 300 rf)), (99, (zI G 60 rt)), (100, (zI G 60 rs)), (101, (zI G 6 st9.1))]) 0 0) (out := fun b _ => (some (Value.int b.1) = some (Value.int (X7_follows_v pts brs rws cms cmT cmS bm sg rk rt rs rf sx))) ∧ ((zN, zus g [(76, (oMod G code (nI tps) (nI pts) (nI lns) (nI wds) (nI brs) (nI ors) stp hasP fld laid told (nI b.2.1) b.2.2.1 (nI b.2.2.2.1) b.2.2.2.2.1 isN (nI trs))), (96, (zI G 1000 b.2.2.2.2.2.1)), (97, (zI G 60 b.2.2.2.2.2.2.1)), (98, (zI G 300 b.2.2.2.2.2.2.2.1)), (99, (zI G 60 b.2.2.2.2.2.2.2.2.1)), (100, (zI G 60 b.2.2.2.2.2.2.2.2.2.1)), (101, (zI G 6 b.2.2.2.2.2.2.2.2.2.2))]) : zAH) = (zN, zus g [(76, (oMod G code (nI tps) (nI pts) (nI lns) (nI wds) (nI brs) (nI ors) stp hasP fld laid told (nI (X7_follows_p76_12 pts brs rws cms cmT cmS bm sg rk rt rs rf sx)) (X7_follows_p76_13 pts brs rws cms cmT cmS bm sg rk rt rs rf sx) (nI (X7_follows_p76_14 pts brs rws cms cmT cmS bm sg rk rt rs rf sx)) (X7_follows_p76_15 pts brs rws cms cmT cmS bm sg rk rt rs rf sx) isN (nI trs))), (96, zI G 1000 (X7_follows_c96 pts brs rws cms cmT cmS bm sg rk rt rs rf sx)), (97, zI G 60 (X7_follows_c97 pts brs rws cms cmT cmS bm sg rk rt rs rf sx)), (98, zI G 300 (X7_follows_c98 pts brs rws cms cmT cmS bm sg rk rt rs rf sx)), (99, zI G 60 (X7_follows_c99 pts brs rws cms cmT cmS bm sg rk rt rs rf sx)), (100, zI G 60 (X7_follows_c100 pts brs rws cms cmT cmS bm sg rk rt rs rf sx)), (101, zI G 6 (X7_follows_c101 pts brs rws cms cmT cmS bm sg rk rt rs rf sx))])) (B := (X7_follows_L2_B pts brs rws bm sg rk rt rs rf)) (F := (X7_follows_L2_F pts brs rws bm sg rk rt rs rf)) (n := pts) (fun _ a9 => a9.2.2.1 < 1000) (fun a a9 ha9 h _ => fl2_F (by omega) (by omega) h) ?_ pts 0 (sx, cms, cmT, cmS) (by omega) hcm ?_ ?_ _ _ _ _
  · intro a a9 hi hI Ko K
    obtain ⟨sxa, cmsa, cmTa, cmSa⟩ := a9
    intro y2 y3 y4 y5
    have ha9 : a < pts := hi
    have hIa : cmTa < 1000 := hI
    refine z_iload_n dX7_follows_2 rfl rfl ?_
    refine z_aload_n dX7_follows_3 rfl rfl ?_
    refine z_get dX7_follows_4 rfl hiX7_follows_X7 3 lkX7_follows_143 (Nat.le_of_ble_eq_true rfl) rfl rfl (by decide) rfl ?_
    refine z_icmp_ge (tgt := 144) dX7_follows_7 rfl (by decide) (fun c7 => ?_) (fun c7 => ?_)
    · exact absurd c7 (nI_ge hi (by omega))
    · refine z_iconst (v := nI 0) dX7_follows_10 rfl (by decide) ?_
      refine z_istore_2 dX7_follows_11 rfl ?_
      refine z_forB (head := fun b (st9 : (Nat → Int32) × (Int32) × (Nat) × (Int32)) => ∀ y3 y4 y5 : Option Value, Z G mX7_follows (zrm 4 105) ex _ 12 [some (.ref (zB G + 76)), some (.int (nI a)), some (.int (nI b)), y3, y4, y5] [] (zN, zus g [(76, (oMod G code (nI tps) (nI pts) (nI lns) (nI wds) (nI brs) (nI ors) stp hasP fld laid told (nI rws) st9.2.1 (nI st9.2.2.1) st9.2.2.2 isN (nI trs))), (96, (zI G 1000 sg)), (97, (zI G 60 rk)), (98, (zI G 300 rf)), (99, (zI G 60 rt)), (100, (zI G 60 rs)), (101, (zI G 6 st9.1))]) 0 0) (out := fun b _ => (some (Value.int b.1) = some (Value.int (X7_follows_v pts brs rws cms cmT cmS bm sg rk rt rs rf sx))) ∧ ((zN, zus g [(76, (oMod G code (nI tps) (nI pts) (nI lns) (nI wds) (nI brs) (nI ors) stp hasP fld laid told (nI b.2.1) b.2.2.1 (nI b.2.2.2.1) b.2.2.2.2.1 isN (nI trs))), (96, (zI G 1000 b.2.2.2.2.2.1)), (97, (zI G 60 b.2.2.2.2.2.2.1)), (98, (zI G 300 b.2.2.2.2.2.2.2.1)), (99, (zI G 60 b.2.2.2.2.2.2.2.2.1)), (100, (zI G 60 b.2.2.2.2.2.2.2.2.2.1)), (101, (zI G 6 b.2.2.2.2.2.2.2.2.2.2))]) : zAH) = (zN, zus g [(76, (oMod G code (nI tps) (nI pts) (nI lns) (nI wds) (nI brs) (nI ors) stp hasP fld laid told (nI (X7_follows_p76_12 pts brs rws cms cmT cmS bm sg rk rt rs rf sx)) (X7_follows_p76_13 pts brs rws cms cmT cmS bm sg rk rt rs rf sx) (nI (X7_follows_p76_14 pts brs rws cms cmT cmS bm sg rk rt rs rf sx)) (X7_follows_p76_15 pts brs rws cms cmT cmS bm sg rk rt rs rf sx) isN (nI trs))), (96, zI G 1000 (X7_follows_c96 pts brs rws cms cmT cmS bm sg rk rt rs rf sx)), (97, zI G 60 (X7_follows_c97 pts brs rws cms cmT cmS bm sg rk rt rs rf sx)), (98, zI G 300 (X7_follows_c98 pts brs rws cms cmT cmS bm sg rk rt rs rf sx)), (99, zI G 60 (X7_follows_c99 pts brs rws cms cmT cmS bm sg rk rt rs rf sx)), (100, zI G 60 (X7_follows_c100 pts brs rws cms cmT cmS bm sg rk rt rs rf sx)), (101, zI G 6 (X7_follows_c101 pts brs rws cms cmT cmS bm sg rk rt rs rf sx))])) (B := (X7_follows_L12_B pts brs rws bm sg rk rt rs rf a)) (F := (X7_follows_L12_F pts brs rws bm sg rk rt rs rf a)) (n := pts) (fun _ a9 => a9.2.2.1 < 1000) (fun b a9 hb9 h _ => fl12_F (by omega) (by omega) hb9 h) ?_ pts 0 (sxa, cmsa, cmTa, cmSa) (by omega) hIa ?_ ?_ _ _ _
      · intro b a9 hi hI Ko K
        obtain ⟨sxb, cmsb, cmTb, cmSb⟩ := a9
        intro y3 y4 y5
        have hb9 : b < pts := hi
        have hIb : cmTb < 1000 := hI
        refine z_iload_n dX7_follows_12 rfl rfl ?_
        refine z_aload_n dX7_follows_13 rfl rfl ?_
        refine z_get dX7_follows_14 rfl hiX7_follows_X7 3 lkX7_follows_143 (Nat.le_of_ble_eq_true rfl) rfl rfl (by decide) rfl ?_
        refine z_icmp_ge (tgt := 138) dX7_follows_17 rfl (by decide) (fun c17 => ?_) (fun c17 => ?_)
        · exact absurd c17 (nI_ge hi (by omega))
        · refine z_iload_n dX7_follows_20 rfl rfl ?_
          refine z_iconst (v := nI 1) dX7_follows_21 rfl (by decide) ?_
          refine z_iadd dX7_follows_22 rfl ?_
          refine z_top (show (nI b) + (nI 1) = nI (b + 1) from (zq_add rfl rfl)) ?_
          refine z_istore_3 dX7_follows_23 rfl ?_
          refine z_forY (head := fun c (st9 : (Nat → Int32) × (Int32) × (Nat) × (Int32)) => ∀ y4 y5 : Option Value, Z G mX7_follows (zrm 4 105) ex _ 24 [some (.ref (zB G + 76)), some (.int (nI a)), some (.int (nI b)), some (.int (nI c)), y4, y5] [] (zN, zus g [(76, (oMod G code (nI tps) (nI pts) (nI lns) (nI wds) (nI brs) (nI ors) stp hasP fld laid told (nI rws) st9.2.1 (nI st9.2.2.1) st9.2.2.2 isN (nI trs))), (96, (zI G 1000 sg)), (97, (zI G 60 rk)), (98, (zI G 300 rf)), (99, (zI G 60 rt)), (100, (zI G 60 rs)), (101, (zI G 6 st9.1))]) 0 0) (ret := fun b => (some (Value.int b.1) = some (Value.int (X7_follows_v pts brs rws cms cmT cmS bm sg rk rt rs rf sx))) ∧ ((zN, zus g [(76, (oMod G code (nI tps) (nI pts) (nI lns) (nI wds) (nI brs) (nI ors) stp hasP fld laid told (nI b.2.1) b.2.2.1 (nI b.2.2.2.1) b.2.2.2.2.1 isN (nI trs))), (96, (zI G 1000 b.2.2.2.2.2.1)), (97, (zI G 60 b.2.2.2.2.2.2.1)), (98, (zI G 300 b.2.2.2.2.2.2.2.1)), (99, (zI G 60 b.2.2.2.2.2.2.2.2.1)), (100, (zI G 60 b.2.2.2.2.2.2.2.2.2.1)), (101, (zI G 6 b.2.2.2.2.2.2.2.2.2.2))]) : zAH) = (zN, zus g [(76, (oMod G code (nI tps) (nI pts) (nI lns) (nI wds) (nI brs) (nI ors) stp hasP fld laid told (nI (X7_follows_p76_12 pts brs rws cms cmT cmS bm sg rk rt rs rf sx)) (X7_follows_p76_13 pts brs rws cms cmT cmS bm sg rk rt rs rf sx) (nI (X7_follows_p76_14 pts brs rws cms cmT cmS bm sg rk rt rs rf sx)) (X7_follows_p76_15 pts brs rws cms cmT cmS bm sg rk rt rs rf sx) isN (nI trs))), (96, zI G 1000 (X7_follows_c96 pts brs rws cms cmT cmS bm sg rk rt rs rf sx)), (97, zI G 60 (X7_follows_c97 pts brs rws cms cmT cmS bm sg rk rt rs rf sx)), (98, zI G 300 (X7_follows_c98 pts brs rws cms cmT cmS bm sg rk rt rs rf sx)), (99, zI G 60 (X7_follows_c99 pts brs rws cms cmT cmS bm sg rk rt rs rf sx)), (100, zI G 60 (X7_follows_c100 pts brs rws cms cmT cmS bm sg rk rt rs rf sx)), (101, zI G 6 (X7_follows_c101 pts brs rws cms cmT cmS bm sg rk rt rs rf sx))])) (out := fun (st9 : (Nat → Int32) × (Int32) × (Nat) × (Int32)) => ∀ y4 y5 yc : Option Value, Z G mX7_follows (zrm 4 105) ex (fun r h => r = some (.int (X7_follows_v pts brs rws cms cmT cmS bm sg rk rt rs rf sx)) ∧ h = (zN, zus g [(76, (oMod G code (nI tps) (nI pts) (nI lns) (nI wds) (nI brs) (nI ors) stp hasP fld laid told (nI (X7_follows_p76_12 pts brs rws cms cmT cmS bm sg rk rt rs rf sx)) (X7_follows_p76_13 pts brs rws cms cmT cmS bm sg rk rt rs rf sx) (nI (X7_follows_p76_14 pts brs rws cms cmT cmS bm sg rk rt rs rf sx)) (X7_follows_p76_15 pts brs rws cms cmT cmS bm sg rk rt rs rf sx) isN (nI trs))), (96, zI G 1000 (X7_follows_c96 pts brs rws cms cmT cmS bm sg rk rt rs rf sx)), (97, zI G 60 (X7_follows_c97 pts brs rws cms cmT cmS bm sg rk rt rs rf sx)), (98, zI G 300 (X7_follows_c98 pts brs rws cms cmT cmS bm sg rk rt rs rf sx)), (99, zI G 60 (X7_follows_c99 pts brs rws cms cmT cmS bm sg rk rt rs rf sx)), (100, zI G 60 (X7_follows_c100 pts brs rws cms cmT cmS bm sg rk rt rs rf sx)), (101, zI G 6 (X7_follows_c101 pts brs rws cms cmT cmS bm sg rk rt rs rf sx))])) 132 [some (.ref (zB G + 76)), some (.int (nI a)), some (.int (nI b)), yc, y4, y5] [] (zN, zus g [(76, (oMod G code (nI tps) (nI pts) (nI lns) (nI wds) (nI brs) (nI ors) stp hasP fld laid told (nI rws) st9.2.1 (nI st9.2.2.1) st9.2.2.2 isN (nI trs))), (96, (zI G 1000 sg)), (97, (zI G 60 rk)), (98, (zI G 300 rf)), (99, (zI G 60 rt)), (100, (zI G 60 rs)), (101, (zI G 6 st9.1))]) 0 0) (B := (X7_follows_L24_B pts brs rws bm sg rk rt rs rf a b)) (F := (X7_follows_L24_F pts brs rws bm sg rk rt rs rf a b)) (n := pts) (fun _ a9 => a9.2.2.1 < 1000) (fun a9 => a9.2.2.1 < 1000) (fun c a9 hc9 h _ => fl24_F (by omega) (by omega) (by omega) (by omega) h) (fun c a9 b9 hc9 h hB => (fl24_B (by omega) (by omega) (by omega) (by omega) h).2 _ hB) (fun _ h => h) ?_ ?_ (pts - (b + 1)) (b + 1) (sxb, cmsb, cmTb, cmSb) (by omega) hIb ?_ ?_ _ _
          · intro c a9 hi hI Ko Kx K
            obtain ⟨sxc, cmsc, cmTc, cmSc⟩ := a9
            intro y4 y5
            have hc9 : c < pts := hi
            have hIc : cmTc < 1000 := hI
            refine z_iload_n dX7_follows_24 rfl rfl ?_
            refine z_aload_n dX7_follows_25 rfl rfl ?_
            refine z_get dX7_follows_26 rfl hiX7_follows_X7 3 lkX7_follows_143 (Nat.le_of_ble_eq_true rfl) rfl rfl (by decide) rfl ?_
            refine z_icmp_ge (tgt := 132) dX7_follows_29 rfl (by decide) (fun c29 => ?_) (fun c29 => ?_)
            · exact absurd c29 (nI_ge hi (by omega))
            · refine z_iload_n dX7_follows_32 rfl rfl ?_
              refine z_iload_n dX7_follows_33 rfl rfl ?_
              refine z_icmp_eq (tgt := 132) dX7_follows_34 rfl (by decide) (fun c34 => ?_) (fun c34 => ?_)
              · exact Kx (sxc, cmsc, cmTc, cmSc) (by simp only [X7_follows_L24_B, if_pos c34]) _ _ _
              · refine z_iload_n dX7_follows_37 rfl rfl ?_
                refine z_iconst (v := nI 1) dX7_follows_38 rfl (by decide) ?_
                refine z_iadd dX7_follows_39 rfl ?_
                refine z_top (show (nI c) + (nI 1) = nI (c + 1) from (zq_add rfl rfl)) ?_
                refine z_istore_4 dX7_follows_40 rfl ?_
                refine z_forY (head := fun d (st9 : (Nat → Int32) × (Int32) × (Nat) × (Int32)) => ∀ y5 : Option Value, Z G mX7_follows (zrm 4 105) ex _ 42 [some (.ref (zB G + 76)), some (.int (nI a)), some (.int (nI b)), some (.int (nI c)), some (.int (nI d)), y5] [] (zN, zus g [(76, (oMod G code (nI tps) (nI pts) (nI lns) (nI wds) (nI brs) (nI ors) stp hasP fld laid told (nI rws) st9.2.1 (nI st9.2.2.1) st9.2.2.2 isN (nI trs))), (96, (zI G 1000 sg)), (97, (zI G 60 rk)), (98, (zI G 300 rf)), (99, (zI G 60 rt)), (100, (zI G 60 rs)), (101, (zI G 6 st9.1))]) 0 0) (ret := fun b => (some (Value.int b.1) = some (Value.int (X7_follows_v pts brs rws cms cmT cmS bm sg rk rt rs rf sx))) ∧ ((zN, zus g [(76, (oMod G code (nI tps) (nI pts) (nI lns) (nI wds) (nI brs) (nI ors) stp hasP fld laid told (nI b.2.1) b.2.2.1 (nI b.2.2.2.1) b.2.2.2.2.1 isN (nI trs))), (96, (zI G 1000 b.2.2.2.2.2.1)), (97, (zI G 60 b.2.2.2.2.2.2.1)), (98, (zI G 300 b.2.2.2.2.2.2.2.1)), (99, (zI G 60 b.2.2.2.2.2.2.2.2.1)), (100, (zI G 60 b.2.2.2.2.2.2.2.2.2.1)), (101, (zI G 6 b.2.2.2.2.2.2.2.2.2.2))]) : zAH) = (zN, zus g [(76, (oMod G code (nI tps) (nI pts) (nI lns) (nI wds) (nI brs) (nI ors) stp hasP fld laid told (nI (X7_follows_p76_12 pts brs rws cms cmT cmS bm sg rk rt rs rf sx)) (X7_follows_p76_13 pts brs rws cms cmT cmS bm sg rk rt rs rf sx) (nI (X7_follows_p76_14 pts brs rws cms cmT cmS bm sg rk rt rs rf sx)) (X7_follows_p76_15 pts brs rws cms cmT cmS bm sg rk rt rs rf sx) isN (nI trs))), (96, zI G 1000 (X7_follows_c96 pts brs rws cms cmT cmS bm sg rk rt rs rf sx)), (97, zI G 60 (X7_follows_c97 pts brs rws cms cmT cmS bm sg rk rt rs rf sx)), (98, zI G 300 (X7_follows_c98 pts brs rws cms cmT cmS bm sg rk rt rs rf sx)), (99, zI G 60 (X7_follows_c99 pts brs rws cms cmT cmS bm sg rk rt rs rf sx)), (100, zI G 60 (X7_follows_c100 pts brs rws cms cmT cmS bm sg rk rt rs rf sx)), (101, zI G 6 (X7_follows_c101 pts brs rws cms cmT cmS bm sg rk rt rs rf sx))])) (out := fun (st9 : (Nat → Int32) × (Int32) × (Nat) × (Int32)) => ∀ y5 yc : Option Value, Z G mX7_follows (zrm 4 105) ex (fun r h => r = some (.int (X7_follows_v pts brs rws cms cmT cmS bm sg rk rt rs rf sx)) ∧ h = (zN, zus g [(76, (oMod G code (nI tps) (nI pts) (nI lns) (nI wds) (nI brs) (nI ors) stp hasP fld laid told (nI (X7_follows_p76_12 pts brs rws cms cmT cmS bm sg rk rt rs rf sx)) (X7_follows_p76_13 pts brs rws cms cmT cmS bm sg rk rt rs rf sx) (nI (X7_follows_p76_14 pts brs rws cms cmT cmS bm sg rk rt rs rf sx)) (X7_follows_p76_15 pts brs rws cms cmT cmS bm sg rk rt rs rf sx) isN (nI trs))), (96, zI G 1000 (X7_follows_c96 pts brs rws cms cmT cmS bm sg rk rt rs rf sx)), (97, zI G 60 (X7_follows_c97 pts brs rws cms cmT cmS bm sg rk rt rs rf sx)), (98, zI G 300 (X7_follows_c98 pts brs rws cms cmT cmS bm sg rk rt rs rf sx)), (99, zI G 60 (X7_follows_c99 pts brs rws cms cmT cmS bm sg rk rt rs rf sx)), (100, zI G 60 (X7_follows_c100 pts brs rws cms cmT cmS bm sg rk rt rs rf sx)), (101, zI G 6 (X7_follows_c101 pts brs rws cms cmT cmS bm sg rk rt rs rf sx))])) 126 [some (.ref (zB G + 76)), some (.int (nI a)), some (.int (nI b)), some (.int (nI c)), yc, y5] [] (zN, zus g [(76, (oMod G code (nI tps) (nI pts) (nI lns) (nI wds) (nI brs) (nI ors) stp hasP fld laid told (nI rws) st9.2.1 (nI st9.2.2.1) st9.2.2.2 isN (nI trs))), (96, (zI G 1000 sg)), (97, (zI G 60 rk)), (98, (zI G 300 rf)), (99, (zI G 60 rt)), (100, (zI G 60 rs)), (101, (zI G 6 st9.1))]) 0 0) (B := (X7_follows_L42_B pts brs rws bm sg rk rt rs rf a b c)) (F := (X7_follows_L42_F pts brs rws bm sg rk rt rs rf a b c)) (n := pts) (fun _ a9 => a9.2.2.1 < 1000) (fun a9 => a9.2.2.1 < 1000) (fun d a9 hd9 h _ => fl42_F (by omega) (by omega) (by omega) (by omega) (by omega) h) (fun d a9 b9 hd9 h hB => (fl42_B (by omega) (by omega) (by omega) (by omega) (by omega) h).2 _ hB) (fun _ h => h) ?_ ?_ (pts - (c + 1)) (c + 1) (sxc, cmsc, cmTc, cmSc) (by omega) hIc ?_ ?_ _
                · intro d a9 hi hI Ko Kx K
                  obtain ⟨sxd, cmsd, cmTd, cmSd⟩ := a9
                  intro y5
                  have hd9 : d < pts := hi
                  have hId : cmTd < 1000 := hI
                  refine z_iload dX7_follows_42 rfl rfl ?_
                  refine z_aload_n dX7_follows_44 rfl rfl ?_
                  refine z_get dX7_follows_45 rfl hiX7_follows_X7 3 lkX7_follows_143 (Nat.le_of_ble_eq_true rfl) rfl rfl (by decide) rfl ?_
                  refine z_icmp_ge (tgt := 126) dX7_follows_48 rfl (by decide) (fun c48 => ?_) (fun c48 => ?_)
                  · exact absurd c48 (nI_ge hi (by omega))
                  · refine z_iload_n dX7_follows_51 rfl rfl ?_
                    refine z_iload_n dX7_follows_52 rfl rfl ?_
                    refine z_icmp_eq (tgt := 126) dX7_follows_53 rfl (by decide) (fun c53 => ?_) (fun c53 => ?_)
                    · exact Kx (sxd, cmsd, cmTd, cmSd) (by simp only [X7_follows_L42_B, if_pos c53]) _ _
                    · refine z_iload dX7_follows_56 rfl rfl ?_
                      refine z_iconst (v := nI 1) dX7_follows_58 rfl (by decide) ?_
                      refine z_iadd dX7_follows_59 rfl ?_
                      refine z_top (show (nI d) + (nI 1) = nI (d + 1) from (zq_add rfl rfl)) ?_
                      refine z_istore_5 dX7_follows_60 rfl ?_
                      refine z_forY (head := fun e (st9 : (Nat → Int32) × (Int32) × (Nat) × (Int32)) => Z G mX7_follows (zrm 4 105) ex _ 62 [some (.ref (zB G + 76)), some (.int (nI a)), some (.int (nI b)), some (.int (nI c)), some (.int (nI d)), some (.int (nI e))] [] (zN, zus g [(76, (oMod G code (nI tps) (nI pts) (nI lns) (nI wds) (nI brs) (nI ors) stp hasP fld laid told (nI rws) st9.2.1 (nI st9.2.2.1) st9.2.2.2 isN (nI trs))), (96, (zI G 1000 sg)), (97, (zI G 60 rk)), (98, (zI G 300 rf)), (99, (zI G 60 rt)), (100, (zI G 60 rs)), (101, (zI G 6 st9.1))]) 0 0) (ret := fun b => (some (Value.int b.1) = some (Value.int (X7_follows_v pts brs rws cms cmT cmS bm sg rk rt rs rf sx))) ∧ ((zN, zus g [(76, (oMod G code (nI tps) (nI pts) (nI lns) (nI wds) (nI brs) (nI ors) stp hasP fld laid told (nI b.2.1) b.2.2.1 (nI b.2.2.2.1) b.2.2.2.2.1 isN (nI trs))), (96, (zI G 1000 b.2.2.2.2.2.1)), (97, (zI G 60 b.2.2.2.2.2.2.1)), (98, (zI G 300 b.2.2.2.2.2.2.2.1)), (99, (zI G 60 b.2.2.2.2.2.2.2.2.1)), (100, (zI G 60 b.2.2.2.2.2.2.2.2.2.1)), (101, (zI G 6 b.2.2.2.2.2.2.2.2.2.2))]) : zAH) = (zN, zus g [(76, (oMod G code (nI tps) (nI pts) (nI lns) (nI wds) (nI brs) (nI ors) stp hasP fld laid told (nI (X7_follows_p76_12 pts brs rws cms cmT cmS bm sg rk rt rs rf sx)) (X7_follows_p76_13 pts brs rws cms cmT cmS bm sg rk rt rs rf sx) (nI (X7_follows_p76_14 pts brs rws cms cmT cmS bm sg rk rt rs rf sx)) (X7_follows_p76_15 pts brs rws cms cmT cmS bm sg rk rt rs rf sx) isN (nI trs))), (96, zI G 1000 (X7_follows_c96 pts brs rws cms cmT cmS bm sg rk rt rs rf sx)), (97, zI G 60 (X7_follows_c97 pts brs rws cms cmT cmS bm sg rk rt rs rf sx)), (98, zI G 300 (X7_follows_c98 pts brs rws cms cmT cmS bm sg rk rt rs rf sx)), (99, zI G 60 (X7_follows_c99 pts brs rws cms cmT cmS bm sg rk rt rs rf sx)), (100, zI G 60 (X7_follows_c100 pts brs rws cms cmT cmS bm sg rk rt rs rf sx)), (101, zI G 6 (X7_follows_c101 pts brs rws cms cmT cmS bm sg rk rt rs rf sx))])) (out := fun (st9 : (Nat → Int32) × (Int32) × (Nat) × (Int32)) => ∀ yc : Option Value, Z G mX7_follows (zrm 4 105) ex (fun r h => r = some (.int (X7_follows_v pts brs rws cms cmT cmS bm sg rk rt rs rf sx)) ∧ h = (zN, zus g [(76, (oMod G code (nI tps) (nI pts) (nI lns) (nI wds) (nI brs) (nI ors) stp hasP fld laid told (nI (X7_follows_p76_12 pts brs rws cms cmT cmS bm sg rk rt rs rf sx)) (X7_follows_p76_13 pts brs rws cms cmT cmS bm sg rk rt rs rf sx) (nI (X7_follows_p76_14 pts brs rws cms cmT cmS bm sg rk rt rs rf sx)) (X7_follows_p76_15 pts brs rws cms cmT cmS bm sg rk rt rs rf sx) isN (nI trs))), (96, zI G 1000 (X7_follows_c96 pts brs rws cms cmT cmS bm sg rk rt rs rf sx)), (97, zI G 60 (X7_follows_c97 pts brs rws cms cmT cmS bm sg rk rt rs rf sx)), (98, zI G 300 (X7_follows_c98 pts brs rws cms cmT cmS bm sg rk rt rs rf sx)), (99, zI G 60 (X7_follows_c99 pts brs rws cms cmT cmS bm sg rk rt rs rf sx)), (100, zI G 60 (X7_follows_c100 pts brs rws cms cmT cmS bm sg rk rt rs rf sx)), (101, zI G 6 (X7_follows_c101 pts brs rws cms cmT cmS bm sg rk rt rs rf sx))])) 120 [some (.ref (zB G + 76)), some (.int (nI a)), some (.int (nI b)), some (.int (nI c)), some (.int (nI d)), yc] [] (zN, zus g [(76, (oMod G code (nI tps) (nI pts) (nI lns) (nI wds) (nI brs) (nI ors) stp hasP fld laid told (nI rws) st9.2.1 (nI st9.2.2.1) st9.2.2.2 isN (nI trs))), (96, (zI G 1000 sg)), (97, (zI G 60 rk)), (98, (zI G 300 rf)), (99, (zI G 60 rt)), (100, (zI G 60 rs)), (101, (zI G 6 st9.1))]) 0 0) (B := (X7_follows_L62_B brs rws bm sg rk rt rs rf a b c d)) (F := (X7_follows_L62_F sg a b c d)) (n := pts) (fun _ a9 => a9.2.2.1 < 1000) (fun a9 => a9.2.2.1 < 1000) (fun e a9 he9 h _ => fl62_F (by omega) (by omega) (by omega) (by omega) (by omega) h) (fun e a9 b9 he9 h hB => (fl62_B (by omega) (by omega) (by omega) (by omega) (by omega) h).2 _ hB) (fun _ h => h) ?_ ?_ (pts - (d + 1)) (d + 1) (sxd, cmsd, cmTd, cmSd) (by omega) hId ?_ ?_
                      · intro e a9 hi hI Ko Kx K
                        obtain ⟨sxe, cmse, cmTe, cmSe⟩ := a9
                        have he9 : e < pts := hi
                        have hIe : cmTe < 1000 := hI
                        refine z_iload dX7_follows_62 rfl rfl ?_
                        refine z_aload_n dX7_follows_64 rfl rfl ?_
                        refine z_get dX7_follows_65 rfl hiX7_follows_X7 3 lkX7_follows_143 (Nat.le_of_ble_eq_true rfl) rfl rfl (by decide) rfl ?_
                        refine z_icmp_ge (tgt := 120) dX7_follows_68 rfl (by decide) (fun c68 => ?_) (fun c68 => ?_)
                        · exact absurd c68 (nI_ge hi (by omega))
                        · refine z_iload dX7_follows_71 rfl rfl ?_
                          refine z_iload_n dX7_follows_73 rfl rfl ?_
                          refine z_icmp_eq (tgt := 120) dX7_follows_74 rfl (by decide) (fun c74 => ?_) (fun c74 => ?_)
                          · exact Kx (sxe, cmse, cmTe, cmSe) (by simp only [X7_follows_L62_B, if_pos c74]) _
                          · refine z_iload dX7_follows_77 rfl rfl ?_
                            refine z_iload_n dX7_follows_79 rfl rfl ?_
                            refine z_icmp_eq (tgt := 114) dX7_follows_80 rfl (by decide) (fun c80 => ?_) (fun c80 => ?_)
                            · refine z_iinc_5 (v := nI (e + 1)) dX7_follows_114 rfl (zinc _) ?_
                              refine z_goto (tgt := 62) dX7_follows_117 (by decide) ?_
                              have K9 := (K (by simp only [X7_follows_L62_B, if_neg c74, if_pos c80]))
                              try simp only [X7_follows_L62_F, if_neg c74, if_pos c80] at K9
                              exact K9
                            · refine z_aload_n dX7_follows_83 rfl rfl ?_
                              refine z_iload_n dX7_follows_84 rfl rfl ?_
                              refine z_iload_n dX7_follows_85 rfl rfl ?_
                              refine z_iload_n dX7_follows_86 rfl rfl ?_
                              refine z_iload dX7_follows_87 rfl rfl ?_
                              refine z_iload dX7_follows_89 rfl rfl ?_
                              refine z_callVv (c_X7_work G ex _ code tps pts lns wds brs ors stp hasP fld laid told rws cmse cmTe cmSe isN trs sg sxe a b c d e (by omega) (by omega) (by omega) (by omega) (by omega) rfl rfl rfl) gX7_follows_X7_work rfl dX7_follows_91 rfl rfl rfl okk_X7_work (Nat.le_of_ble_eq_true rfl) rfl rfl ⟨Nat.le_of_ble_eq_true rfl, Nat.le_of_ble_eq_true rfl⟩ ⟨Nat.le_of_ble_eq_true rfl, Nat.le_of_ble_eq_true rfl⟩ (Nat.le_of_ble_eq_true rfl) ?_
                              refine z_nn (L' := [(76, (oMod G code (nI tps) (nI pts) (nI lns) (nI wds) (nI brs) (nI ors) stp hasP fld laid told (nI rws) (nI (X7_work_p76_13 sg sxe a b c d e)) (nI (X7_work_p76_14 cmTe sg sxe a b c d e)) (X7_work_p76_15 cmSe sg sxe a b c d e) isN (nI trs))), (96, (zI G 1000 sg)), (97, (zI G 60 rk)), (98, (zI G 300 rf)), (99, (zI G 60 rt)), (100, (zI G 60 rs)), (101, (zI G 6 (X7_work_c101 sg sxe a b c d e)))]) rfl ?_
                              refine z_aload_n dX7_follows_94 rfl rfl ?_
                              refine z_get dX7_follows_95 rfl hiX7_follows_X7 38 lkX7_follows_238 (Nat.le_of_ble_eq_true rfl) rfl rfl (by decide) rfl ?_
                              refine z_if_eq (tgt := 114) dX7_follows_98 rfl (by decide) (fun c98 => ?_) (fun c98 => ?_)
                              · refine z_iinc_5 (v := nI (e + 1)) dX7_follows_114 rfl (zinc _) ?_
                                refine z_goto (tgt := 62) dX7_follows_117 (by decide) ?_
                                have K9 := (K (by simp only [X7_follows_L62_B, if_neg c74, if_neg c80, if_pos c98]))
                                try simp only [X7_follows_L62_F, if_neg c74, if_neg c80, if_pos c98] at K9
                                exact K9
                              · refine z_aload_n dX7_follows_101 rfl rfl ?_
                                refine z_iload_n dX7_follows_102 rfl rfl ?_
                                refine z_iload_n dX7_follows_103 rfl rfl ?_
                                refine z_iload_n dX7_follows_104 rfl rfl ?_
                                refine z_iload dX7_follows_105 rfl rfl ?_
                                refine z_iload dX7_follows_107 rfl rfl ?_
                                refine z_callVv (c_X7_makeRow G ex _ code tps pts lns wds brs ors stp hasP fld laid told rws (nI (X7_work_p76_13 sg sxe a b c d e)) (X7_work_p76_14 cmTe sg sxe a b c d e) (X7_work_p76_15 cmSe sg sxe a b c d e) isN trs bm sg rk rt rs rf a b c d e (by omega) (by omega) (work_lt hIe (by omega) (by omega) (by omega) (by omega) (by omega)) rfl h86 rfl rfl rfl rfl rfl) gX7_follows_X7_makeRow rfl dX7_follows_109 rfl rfl rfl okk_X7_makeRow (Nat.le_of_ble_eq_true rfl) rfl rfl ⟨Nat.le_of_ble_eq_true rfl, Nat.le_of_ble_eq_true rfl⟩ ⟨Nat.le_of_ble_eq_true rfl, Nat.le_of_ble_eq_true rfl⟩ (Nat.le_of_ble_eq_true rfl) ?_
                                refine z_nn (L' := [(76, (oMod G code (nI tps) (nI pts) (nI lns) (nI wds) (nI brs) (nI ors) stp hasP fld laid told (nI (X7_makeRow_p76_12 rws (nI (X7_work_p76_13 sg sxe a b c d e)))) (nI (X7_work_p76_13 sg sxe a b c d e)) (nI (X7_work_p76_14 cmTe sg sxe a b c d e)) (X7_work_p76_15 cmSe sg sxe a b c d e) isN (nI trs))), (96, (zI G 1000 (X7_makeRow_c96 brs rws (nI (X7_work_p76_13 sg sxe a b c d e)) (X7_work_p76_14 cmTe sg sxe a b c d e) (X7_work_p76_15 cmSe sg sxe a b c d e) bm sg rk rt rs))), (97, (zI G 60 (X7_makeRow_c97 brs rws (nI (X7_work_p76_13 sg sxe a b c d e)) (X7_work_p76_14 cmTe sg sxe a b c d e) (X7_work_p76_15 cmSe sg sxe a b c d e) bm rk))), (98, (zI G 300 (X7_makeRow_c98 rws (nI (X7_work_p76_13 sg sxe a b c d e)) rf a b c d e))), (99, (zI G 60 (X7_makeRow_c99 rws (nI (X7_work_p76_13 sg sxe a b c d e)) (X7_work_p76_14 cmTe sg sxe a b c d e) rt))), (100, (zI G 60 (X7_makeRow_c100 rws (nI (X7_work_p76_13 sg sxe a b c d e)) (X7_work_p76_15 cmSe sg sxe a b c d e) rs))), (101, (zI G 6 (X7_work_c101 sg sxe a b c d e)))]) rfl ?_
                                refine z_iconst (v := nI 1) dX7_follows_112 rfl (by decide) ?_
                                exact z_ireturn dX7_follows_113 rfl rfl (Nat.le_refl _) (Nat.le_refl _) (fun _ => rfl) (Ko (nI 1, X7_makeRow_p76_12 rws (nI (X7_work_p76_13 sg sxe a b c d e)), nI (X7_work_p76_13 sg sxe a b c d e), X7_work_p76_14 cmTe sg sxe a b c d e, X7_work_p76_15 cmSe sg sxe a b c d e, X7_makeRow_c96 brs rws (nI (X7_work_p76_13 sg sxe a b c d e)) (X7_work_p76_14 cmTe sg sxe a b c d e) (X7_work_p76_15 cmSe sg sxe a b c d e) bm sg rk rt rs, X7_makeRow_c97 brs rws (nI (X7_work_p76_13 sg sxe a b c d e)) (X7_work_p76_14 cmTe sg sxe a b c d e) (X7_work_p76_15 cmSe sg sxe a b c d e) bm rk, X7_makeRow_c98 rws (nI (X7_work_p76_13 sg sxe a b c d e)) rf a b c d e, X7_makeRow_c99 rws (nI (X7_work_p76_13 sg sxe a b c d e)) (X7_work_p76_14 cmTe sg sxe a b c d e) rt, X7_makeRow_c100 rws (nI (X7_work_p76_13 sg sxe a b c d e)) (X7_work_p76_15 cmSe sg sxe a b c d e) rs, X7_work_c101 sg sxe a b c d e) (by simp only [X7_follows_L62_B, if_neg c74, if_neg c80, if_neg c98]))
                      · intro a9 hI K
                        obtain ⟨sxe, cmse, cmTe, cmSe⟩ := a9
                        refine z_iload dX7_follows_62 rfl rfl ?_
                        refine z_aload_n dX7_follows_64 rfl rfl ?_
                        refine z_get dX7_follows_65 rfl hiX7_follows_X7 3 lkX7_follows_143 (Nat.le_of_ble_eq_true rfl) rfl rfl (by decide) rfl ?_
                        refine z_icmp_ge (tgt := 120) dX7_follows_68 rfl (by decide) (fun c68 => ?_) (fun c68 => ?_)
                        · exact K _
                        · exact absurd (nI_le (Nat.le_refl _) (by omega)) c68
                      · intro b hz62
                        exact (Ko (b.1, b.2.1, b.2.2.1, b.2.2.2.1, b.2.2.2.2.1, b.2.2.2.2.2.1, b.2.2.2.2.2.2.1, b.2.2.2.2.2.2.2.1, b.2.2.2.2.2.2.2.2.1, b.2.2.2.2.2.2.2.2.2.1, b.2.2.2.2.2.2.2.2.2.2) (by simp only [X7_follows_L42_B, if_neg c53, hz62, zpickY_l]))
                      · intro a9 hz62 hJ62
                        obtain ⟨sxe, cmse, cmTe, cmSe⟩ := a9
                        intro yc62
                        refine z_iinc_4 (v := nI (d + 1)) dX7_follows_120 rfl (zinc _) ?_
                        refine z_goto (tgt := 42) dX7_follows_123 (by decide) ?_
                        have K9 := (K (by simp only [X7_follows_L42_B, if_neg c53, hz62, zpickY_r]))
                        try simp only [X7_follows_L42_F, if_neg c53, hz62, zpickY_r] at K9
                        exact K9 _
                · intro a9 hI K
                  obtain ⟨sxd, cmsd, cmTd, cmSd⟩ := a9
                  intro y5
                  refine z_iload dX7_follows_42 rfl rfl ?_
                  refine z_aload_n dX7_follows_44 rfl rfl ?_
                  refine z_get dX7_follows_45 rfl hiX7_follows_X7 3 lkX7_follows_143 (Nat.le_of_ble_eq_true rfl) rfl rfl (by decide) rfl ?_
                  refine z_icmp_ge (tgt := 126) dX7_follows_48 rfl (by decide) (fun c48 => ?_) (fun c48 => ?_)
                  · exact K _ _
                  · exact absurd (nI_le (Nat.le_refl _) (by omega)) c48
                · intro b hz42
                  exact (Ko (b.1, b.2.1, b.2.2.1, b.2.2.2.1, b.2.2.2.2.1, b.2.2.2.2.2.1, b.2.2.2.2.2.2.1, b.2.2.2.2.2.2.2.1, b.2.2.2.2.2.2.2.2.1, b.2.2.2.2.2.2.2.2.2.1, b.2.2.2.2.2.2.2.2.2.2) (by simp only [X7_follows_L24_B, if_neg c34, hz42, zpickY_l]))
                · intro a9 hz42 hJ42
                  obtain ⟨sxd, cmsd, cmTd, cmSd⟩ := a9
                  intro y5 yc42
                  refine z_iinc_3 (v := nI (c + 1)) dX7_follows_126 rfl (zinc _) ?_
                  refine z_goto (tgt := 24) dX7_follows_129 (by decide) ?_
                  have K9 := (K (by simp only [X7_follows_L24_B, if_neg c34, hz42, zpickY_r]))
                  try simp only [X7_follows_L24_F, if_neg c34, hz42, zpickY_r] at K9
                  exact K9 _ _
          · intro a9 hI K
            obtain ⟨sxc, cmsc, cmTc, cmSc⟩ := a9
            intro y4 y5
            refine z_iload_n dX7_follows_24 rfl rfl ?_
            refine z_aload_n dX7_follows_25 rfl rfl ?_
            refine z_get dX7_follows_26 rfl hiX7_follows_X7 3 lkX7_follows_143 (Nat.le_of_ble_eq_true rfl) rfl rfl (by decide) rfl ?_
            refine z_icmp_ge (tgt := 132) dX7_follows_29 rfl (by decide) (fun c29 => ?_) (fun c29 => ?_)
            · exact K _ _ _
            · exact absurd (nI_le (Nat.le_refl _) (by omega)) c29
          · intro b hz24
            exact (Ko (b.1, b.2.1, b.2.2.1, b.2.2.2.1, b.2.2.2.2.1, b.2.2.2.2.2.1, b.2.2.2.2.2.2.1, b.2.2.2.2.2.2.2.1, b.2.2.2.2.2.2.2.2.1, b.2.2.2.2.2.2.2.2.2.1, b.2.2.2.2.2.2.2.2.2.2) (by simp only [X7_follows_L12_B, hz24, zpickY_l]))
          · intro a9 hz24 hJ24
            obtain ⟨sxc, cmsc, cmTc, cmSc⟩ := a9
            intro y4 y5 yc24
            refine z_iinc_2 (v := nI (b + 1)) dX7_follows_132 rfl (zinc _) ?_
            refine z_goto (tgt := 12) dX7_follows_135 (by decide) ?_
            have K9 := (K (by simp only [X7_follows_L12_B, hz24, zpickY_r]))
            try simp only [X7_follows_L12_F, hz24, zpickY_r] at K9
            exact K9 _ _ _
      · intro b a9 hz12
        exact (Ko (b.1, b.2.1, b.2.2.1, b.2.2.2.1, b.2.2.2.2.1, b.2.2.2.2.2.1, b.2.2.2.2.2.2.1, b.2.2.2.2.2.2.2.1, b.2.2.2.2.2.2.2.2.1, b.2.2.2.2.2.2.2.2.2.1, b.2.2.2.2.2.2.2.2.2.2) (by simp only [X7_follows_L2_B, hz12, zpick_s]))
      · intro a9 hz12 hI
        obtain ⟨sxb, cmsb, cmTb, cmSb⟩ := a9
        intro y3 y4 y5
        refine z_iload_n dX7_follows_12 rfl rfl ?_
        refine z_aload_n dX7_follows_13 rfl rfl ?_
        refine z_get dX7_follows_14 rfl hiX7_follows_X7 3 lkX7_follows_143 (Nat.le_of_ble_eq_true rfl) rfl rfl (by decide) rfl ?_
        refine z_icmp_ge (tgt := 138) dX7_follows_17 rfl (by decide) (fun c17 => ?_) (fun c17 => ?_)
        · refine z_iinc_1 (v := nI (a + 1)) dX7_follows_138 rfl (zinc _) ?_
          refine z_goto (tgt := 2) dX7_follows_141 (by decide) ?_
          have K9 := (K (by simp only [X7_follows_L2_B, hz12, zpick_n]))
          try simp only [X7_follows_L2_F, hz12, zpick_n] at K9
          exact K9 _ _ _ _
        · exact absurd (nI_le (Nat.le_refl _) (by omega)) c17
  · intro b a9 hz2
    exact ⟨by simp only [X7_follows_v, hz2, zpick_s], by simp only [X7_follows_p76_12, X7_follows_p76_13, X7_follows_p76_14, X7_follows_p76_15, X7_follows_c96, X7_follows_c97, X7_follows_c98, X7_follows_c99, X7_follows_c100, X7_follows_c101, hz2, zpick_s]⟩
  · intro a9 hz2 hI
    obtain ⟨sxa, cmsa, cmTa, cmSa⟩ := a9
    intro y2 y3 y4 y5
    refine z_iload_n dX7_follows_2 rfl rfl ?_
    refine z_aload_n dX7_follows_3 rfl rfl ?_
    refine z_get dX7_follows_4 rfl hiX7_follows_X7 3 lkX7_follows_143 (Nat.le_of_ble_eq_true rfl) rfl rfl (by decide) rfl ?_
    refine z_icmp_ge (tgt := 144) dX7_follows_7 rfl (by decide) (fun c7 => ?_) (fun c7 => ?_)
    · refine z_iconst (v := nI 0) dX7_follows_144 rfl (by decide) ?_
      exact z_ireturn dX7_follows_145 rfl rfl (Nat.le_refl _) (Nat.le_refl _) (fun _ => rfl) ⟨by simp only [X7_follows_v, hz2, zpick_n], by simp only [X7_follows_p76_12, X7_follows_p76_13, X7_follows_p76_14, X7_follows_p76_15, X7_follows_c96, X7_follows_c97, X7_follows_c98, X7_follows_c99, X7_follows_c100, X7_follows_c101, hz2, zpick_n]⟩
    · exact absurd (nI_le (Nat.le_refl _) (by omega)) c7
