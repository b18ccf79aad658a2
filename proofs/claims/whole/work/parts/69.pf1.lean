/-! ===== the first relation that makes a row: the class ===== -/
theorem zfoldB_first {α β : Type} {B : Nat → α → Option β} {F : Nat → α → α} {n : Nat} {S : Nat → β → Prop} {N : Nat → Prop} (hs : ∀ i a b, i < n → B i a = some b → S i b) (hn : ∀ i a, i < n → B i a = none → N i) :
    ∀ (d i : Nat) (a : α), i + d = n → (∀ b, (zfoldB B F d i a).1 = some b → ∃ j, i ≤ j ∧ j < n ∧ S j b ∧ ∀ k, i ≤ k → k < j → N k) ∧ ((zfoldB B F d i a).1 = none → ∀ k, i ≤ k → k < n → N k) := by
  intro d
  induction d with
  | zero =>
    intro i a hi
    exact ⟨fun b hb => (by simp only [zfoldB] at hb; cases hb), fun _ k h1 h2 => (by omega)⟩
  | succ d ih =>
    intro i a hi
    obtain ⟨r1, r2⟩ := ih (i + 1) (F i a) (by omega)
    simp only [zfoldB]
    cases hb : B i a with
    | some b =>
      refine ⟨fun b9 h9 => ?_, fun h9 => (by cases h9)⟩
      cases h9
      exact ⟨i, Nat.le_refl _, by omega, hs i a _ (by omega) hb, fun k h1 h2 => by omega⟩
    | none =>
      refine ⟨fun b9 h9 => ?_, fun h9 k h1 h2 => ?_⟩
      · obtain ⟨j, g1, g2, g3, g4⟩ := r1 b9 h9
        refine ⟨j, by omega, g2, g3, fun k h1 h2 => ?_⟩
        rcases Nat.eq_or_lt_of_le h1 with e | e
        · rw [← e]; exact hn i a (by omega) hb
        · exact g4 k e h2
      · rcases Nat.eq_or_lt_of_le h1 with e | e
        · rw [← e]; exact hn i a (by omega) hb
        · exact r2 h9 k e h2
theorem zpick_some {α β : Type} {r : Option β × α} {x : β} (h : zpick r (fun b => some b) (fun _ => none) = some x) : r.1 = some x := zp_so h
theorem zpick_none {α β : Type} {r : Option β × α} (h : zpick r (fun b => some b) (fun _ => (none : Option β)) = none) : r.1 = none := by
  obtain ⟨o, a⟩ := r
  cases o with
  | some b => cases h
  | none => rfl
/-- a number among the points without a -/
def sga (a k : Nat) : Nat := if a ≤ k then k + 1 else k
def rlF (a b c d e j : Nat) : Nat := if j = 0 then a else if j = 1 then b else if j = 2 then c else if j = 3 then d else e
theorem sga_mono {a k l : Nat} (h : k < l) : sga a k < sga a l := by
  unfold sga
  split <;> split <;> omega
theorem sga_ne {a k : Nat} : sga a k ≠ a := by
  unfold sga
  split <;> omega
theorem sga_lt {a k n : Nat} (h : k < n - 1) : sga a k < n := by
  unfold sga
  split <;> omega
theorem sga_inv {a x n : Nat} (hx : x < n) (h : x ≠ a) (ha : a < n) : ∃ k, k < n - 1 ∧ sga a k = x := by
  rcases Nat.lt_or_gt_of_ne h with q | q
  · exact ⟨x, by omega, by unfold sga; rw [if_neg (by omega)]⟩
  · exact ⟨x - 1, by omega, by unfold sga; rw [if_pos (by omega)]; omega⟩
theorem sga_lt_iff {a k l : Nat} : sga a k < sga a l ↔ k < l := by
  unfold sga
  split <;> split <;> omega
theorem setRel_at {rl : Nat → Int32} {a b c d e : Nat} (ha : a < 10) (hb : b < 10) (hc : c < 10) (hd : d < 10) (he : e < 10) : ∀ j, j < 5 → X0_setRelation_c65 rl a b c d e j = nI (rlF a (sga a b) (sga a c) (sga a d) (sga a e) j) := by
  intro j hj
  unfold X0_setRelation_c65 sga
  simp only [nI_leI (show a < 2 ^ 31 by omega) (show b < 2 ^ 31 by omega), nI_leI (show a < 2 ^ 31 by omega) (show c < 2 ^ 31 by omega), nI_leI (show a < 2 ^ 31 by omega) (show d < 2 ^ 31 by omega), nI_leI (show a < 2 ^ 31 by omega) (show e < 2 ^ 31 by omega)]
  rcases (show j = 0 ∨ j = 1 ∨ j = 2 ∨ j = 3 ∨ j = 4 by omega) with rfl | rfl | rfl | rfl | rfl
  all_goals (by_cases c1 : a ≤ b <;> by_cases c2 : a ≤ c <;> by_cases c3 : a ≤ d <;> by_cases c4 : a ≤ e <;> simp only [c1, c2, c3, c4, if_true, if_false] <;> rfl)
/-- five points, a first, the others rising -/
def V5 (n a b c d e : Nat) : Prop := a < n ∧ b < c ∧ c < d ∧ d < e ∧ e < n ∧ b ≠ a ∧ c ≠ a ∧ d ≠ a ∧ e ≠ a
theorem V5_rel {n a b c d e : Nat} {rl : Nat → Int32} (h : V5 n a b c d e) (hr : ∀ j, j < 5 → rl j = nI (rlF a b c d e j)) : REL n rl (rlF a b c d e) := by
  obtain ⟨h1, h2, h3, h4, h5, h6, h7, h8, h9⟩ := h
  have e0 : rlF a b c d e 0 = a := rfl
  have e1 : rlF a b c d e 1 = b := rfl
  have e2 : rlF a b c d e 2 = c := rfl
  have e3 : rlF a b c d e 3 = d := rfl
  have e4 : rlF a b c d e 4 = e := rfl
  refine ⟨fun j hj => ⟨?_, hr j hj⟩, fun j k hj hk hjk => ?_⟩
  · rcases (show j = 0 ∨ j = 1 ∨ j = 2 ∨ j = 3 ∨ j = 4 by omega) with rfl | rfl | rfl | rfl | rfl
    all_goals (first | rw [e0] | rw [e1] | rw [e2] | rw [e3] | rw [e4]) <;> omega
  · rcases (show j = 0 ∨ j = 1 ∨ j = 2 ∨ j = 3 ∨ j = 4 by omega) with rfl | rfl | rfl | rfl | rfl <;> rcases (show k = 0 ∨ k = 1 ∨ k = 2 ∨ k = 3 ∨ k = 4 by omega) with rfl | rfl | rfl | rfl | rfl <;> simp only [e0, e1, e2, e3, e4] <;> omega
/-- something comes of the relation -/
def PD (sg : Nat → Int32) (a b c d e : Nat) : Prop := (wkD (X7_laySix_c101 sg (fun _ => 0) a b c d e)).1 ≠ 0
theorem PD_iff {sg sx : Nat → Int32} {a b c d e : Nat} : X7_work_p76_13 sg sx a b c d e ≠ 0 ↔ PD sg a b c d e := by
  rw [work_13]
  unfold PD
  rw [wkD_ext (L := X7_laySix_c101 sg sx a b c d e) (L' := X7_laySix_c101 sg (fun _ => 0) a b c d e) (fun i hi => by rw [six_at i hi, six_at i hi])]
/-- the first one in the order of a dictionary -/
def FST (n : Nat) (sg : Nat → Int32) (a b c d e : Nat) : Prop := V5 n a b c d e ∧ PD sg a b c d e ∧
  (∀ e', e' < e → V5 n a b c d e' → ¬ PD sg a b c d e') ∧ (∀ d' e', d' < d → V5 n a b c d' e' → ¬ PD sg a b c d' e') ∧ (∀ c' d' e', c' < c → V5 n a b c' d' e' → ¬ PD sg a b c' d' e') ∧
  (∀ b' c' d' e', b' < b → V5 n a b' c' d' e' → ¬ PD sg a b' c' d' e') ∧ (∀ a' b' c' d' e', a' < a → V5 n a' b' c' d' e' → ¬ PD sg a' b' c' d' e')
theorem FST_one {n : Nat} {sg : Nat → Int32} {a b c d e a' b' c' d' e' : Nat} (h : FST n sg a b c d e) (h' : FST n sg a' b' c' d' e') : a = a' ∧ b = b' ∧ c = c' ∧ d = d' ∧ e = e' := by
  obtain ⟨v, p, q1, q2, q3, q4, q5⟩ := h
  obtain ⟨v', p', r1, r2, r3, r4, r5⟩ := h'
  rcases Nat.lt_trichotomy a a' with t | t | t
  · exact absurd p (r5 _ _ _ _ _ t v)
  · subst t
    rcases Nat.lt_trichotomy b b' with t | t | t
    · exact absurd p (r4 _ _ _ _ t v)
    · subst t
      rcases Nat.lt_trichotomy c c' with t | t | t
      · exact absurd p (r3 _ _ _ t v)
      · subst t
        rcases Nat.lt_trichotomy d d' with t | t | t
        · exact absurd p (r2 _ _ t v)
        · subst t
          rcases Nat.lt_trichotomy e e' with t | t | t
          · exact absurd p (r1 _ t v)
          · exact ⟨rfl, rfl, rfl, rfl, t⟩
          · exact absurd p' (q1 _ t v')
        · exact absurd p' (q2 _ _ t v')
      · exact absurd p' (q3 _ _ _ t v')
    · exact absurd p' (q4 _ _ _ _ t v')
  · exact absurd p' (q5 _ _ _ _ _ t v')
