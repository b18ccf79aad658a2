/-! ===== one relation, looked at by both ===== -/
def s0 (a b c : Nat) : Nat := min a (min b c)
def s2 (a b c : Nat) : Nat := max a (max b c)
def s1 (a b c : Nat) : Nat := a + b + c - min a (min b c) - max a (max b c)
def srtOk (k : Nat) : Bool :=
  let a := k / 100; let b := k / 10 % 10; let c := k % 10
  a == b || a == c || b == c || (decide (s0 a b c < s1 a b c) && decide (s1 a b c < s2 a b c) && spN a b c == spN (s0 a b c) (s1 a b c) (s2 a b c) && tlTt (fun _ => 0) (nI a) (nI b) (nI c) 0 == nI (s0 a b c) && tlTt (fun _ => 0) (nI a) (nI b) (nI c) 1 == nI (s1 a b c) && tlTt (fun _ => 0) (nI a) (nI b) (nI c) 2 == nI (s2 a b c) && (X5_turnOf_v (nI a) (nI b) (nI c) == X7_turnOf_v (nI a) (nI b) (nI c)) && (X7_turnOf_v (nI a) (nI b) (nI c) == 1 || X7_turnOf_v (nI a) (nI b) (nI c) == -1) && X7_maskAt_v (nI (plN a b c)) == X7_maskOf_v (nI (s0 a b c)) (nI (s1 a b c)) (nI (s2 a b c)))
set_option maxRecDepth 100000 in
theorem srt_all : allB srtOk 1000 = true := by decide +kernel
theorem srt {n a b c : Nat} (hn : n ≤ 10) (ha : a < n) (hb : b < n) (hc : c < n) (h1 : a ≠ b) (h2 : a ≠ c) (h3 : b ≠ c) : (s0 a b c < s1 a b c ∧ s1 a b c < s2 a b c ∧ s2 a b c < n) ∧ spN a b c = spN (s0 a b c) (s1 a b c) (s2 a b c) ∧ (∀ tt, tlTt tt (nI a) (nI b) (nI c) 0 = nI (s0 a b c) ∧ tlTt tt (nI a) (nI b) (nI c) 1 = nI (s1 a b c) ∧ tlTt tt (nI a) (nI b) (nI c) 2 = nI (s2 a b c)) ∧ X5_turnOf_v (nI a) (nI b) (nI c) = X7_turnOf_v (nI a) (nI b) (nI c) ∧ (X7_turnOf_v (nI a) (nI b) (nI c) = 1 ∨ X7_turnOf_v (nI a) (nI b) (nI c) = -1) ∧ X7_maskAt_v (nI (plN a b c)) = X7_maskOf_v (nI (s0 a b c)) (nI (s1 a b c)) (nI (s2 a b c)) ∧ plN a b c = 100 * s0 a b c + 10 * s1 a b c + s2 a b c := by
  have q := allB_at srt_all (100 * a + 10 * b + c) (by omega)
  unfold srtOk at q
  simp only [show (100 * a + 10 * b + c) / 100 = a by omega, show (100 * a + 10 * b + c) / 10 % 10 = b by omega, show (100 * a + 10 * b + c) % 10 = c by omega, Bool.or_eq_true, Bool.and_eq_true, beq_iff_eq, decide_eq_true_eq] at q
  rcases q with ((q | q) | q) | q
  · exact absurd q h1
  · exact absurd q h2
  · exact absurd q h3
  · obtain ⟨⟨⟨⟨⟨⟨⟨⟨q1, q2⟩, q3⟩, q4⟩, q5⟩, q6⟩, q7⟩, q8⟩, q9⟩ := q
    refine ⟨⟨q1, q2, ?_⟩, q3, fun tt => ⟨q4, q5, q6⟩, q7, q8, q9, rfl⟩
    unfold s2
    omega
theorem mul3 {v t : Int32} (hv : v = -1 ∨ v = 0 ∨ v = 1) (ht : t = 1 ∨ t = -1) : v * t = -1 ∨ v * t = 0 ∨ v * t = 1 := by
  rcases hv with h | h | h <;> rcases ht with g | g <;> (subst h; subst g; decide)
/-- the relation that is looked at: five points, all apart -/
def REL (n : Nat) (rl : Nat → Int32) (f : Nat → Nat) : Prop := (∀ j, j < 5 → f j < n ∧ rl j = nI (f j)) ∧ ∀ j k, j < 5 → k < 5 → j ≠ k → f j ≠ f k
theorem b2_lt {f : Nat → Nat} {n : Nat} (h : ∀ j, j < 5 → f j < n) (hd : ∀ j k, j < 5 → k < 5 → j ≠ k → f j ≠ f k) : ∀ t, t < 6 → (b2 t (f 1) (f 2) (f 3) (f 4) < n ∧ b3 t (f 1) (f 2) (f 3) (f 4) < n) ∧ f 0 ≠ b2 t (f 1) (f 2) (f 3) (f 4) ∧ f 0 ≠ b3 t (f 1) (f 2) (f 3) (f 4) ∧ b2 t (f 1) (f 2) (f 3) (f 4) ≠ b3 t (f 1) (f 2) (f 3) (f 4) :=
  six6 ⟨⟨h 1 (by decide), h 2 (by decide)⟩, hd 0 1 (by decide) (by decide) (by decide), hd 0 2 (by decide) (by decide) (by decide), hd 1 2 (by decide) (by decide) (by decide)⟩
    ⟨⟨h 3 (by decide), h 4 (by decide)⟩, hd 0 3 (by decide) (by decide) (by decide), hd 0 4 (by decide) (by decide) (by decide), hd 3 4 (by decide) (by decide) (by decide)⟩
    ⟨⟨h 1 (by decide), h 3 (by decide)⟩, hd 0 1 (by decide) (by decide) (by decide), hd 0 3 (by decide) (by decide) (by decide), hd 1 3 (by decide) (by decide) (by decide)⟩
    ⟨⟨h 2 (by decide), h 4 (by decide)⟩, hd 0 2 (by decide) (by decide) (by decide), hd 0 4 (by decide) (by decide) (by decide), hd 2 4 (by decide) (by decide) (by decide)⟩
    ⟨⟨h 1 (by decide), h 4 (by decide)⟩, hd 0 1 (by decide) (by decide) (by decide), hd 0 4 (by decide) (by decide) (by decide), hd 1 4 (by decide) (by decide) (by decide)⟩
    ⟨⟨h 2 (by decide), h 3 (by decide)⟩, hd 0 2 (by decide) (by decide) (by decide), hd 0 3 (by decide) (by decide) (by decide), hd 2 3 (by decide) (by decide) (by decide)⟩
/-- the class's six signs are the reference's -/
theorem six_same {n : Nat} (hn : n ≤ 10) {now sg sx rl : Nat → Int32} {f : Nat → Nat} (hN : NS3 n now (SGE sg)) (hS : SGI n sg) (hR : REL n rl f) : (∀ i, i < 6 → sgIn (X7_laySix_c101 sg sx (f 0) (f 1) (f 2) (f 3) (f 4) i)) ∧ ∀ t s, t < 3 → s < 2 → X0_signIn_v now rl t s = cvJ (X7_laySix_c101 sg sx (f 0) (f 1) (f 2) (f 3) (f 4) (2 * t + s)) := by
  have hb := fun j hj => (hR.1 j hj).1
  have h6 := b2_lt hb hR.2
  have hj := jr_at (rl := rl) (a := f 0) (b := f 1) (c := f 2) (d := f 3) (e := f 4) (hR.1 0 (by decide)).2 (hR.1 1 (by decide)).2 (hR.1 2 (by decide)).2 (hR.1 3 (by decide)).2 (hR.1 4 (by decide)).2 (by have := hb 0 (by decide); omega) (by have := hb 1 (by decide); omega) (by have := hb 2 (by decide); omega) (by have := hb 3 (by decide); omega) (by have := hb 4 (by decide); omega)
  refine ⟨fun i hi => ?_, fun t s ht hs => ?_⟩
  · rw [six_at i hi]
    obtain ⟨⟨g1, g2⟩, g3, g4, g5⟩ := h6 i hi
    exact (NS_at hn hN hS (hb 0 (by decide)) g1 g2 g3 g4 g5).2
  · have hi : 2 * t + s < 6 := by omega
    rw [six_at _ hi]
    obtain ⟨⟨g1, g2⟩, g3, g4, g5⟩ := h6 _ hi
    obtain ⟨j0, j1, j2⟩ := hj _ hi
    rw [show (2 * t + s) / 2 = t by omega, show (2 * t + s) % 2 = s by omega] at j0 j1 j2
    rw [← (NS_at hn hN hS (hb 0 (by decide)) g1 g2 g3 g4 g5).1]
    show now ((((((rl 0).toNatClampNeg) * 10) + ((rl (beN ((4 * t) + (2 * s)))).toNatClampNeg)) * 10) + ((rl (beN (((4 * t) + (2 * s)) + 1))).toNatClampNeg)) = _
    have e0 : (rl 0).toNatClampNeg = f 0 := j0
    have e1 : (rl (beN ((4 * t) + (2 * s)))).toNatClampNeg = _ := j1
    have e2 : (rl (beN (((4 * t) + (2 * s)) + 1))).toNatClampNeg = _ := j2
    rw [e0, e1, e2]
theorem wkD_c {L : Nat → Int32} : (wkD L).1 = 0 ∨ (wkD L).1 = 1 ∨ (wkD L).1 = 2 := by
  rw [← wkD_map (fun z => z.1)]
  unfold wkK wkSK
  repeat' split
  all_goals first | exact Or.inl rfl | exact Or.inr (Or.inl rfl) | exact Or.inr (Or.inr rfl)
theorem judge_work {n : Nat} (hn : n ≤ 10) {now sg sx rl tt ba : Nat → Int32} {rows outc ts cmS : Int32} {cmT : Nat} {f : Nat → Nat} (hN : NS3 n now (SGE sg)) (hS : SGI n sg) (hR : REL n rl f) :
    (X7_work_p76_13 sg sx (f 0) (f 1) (f 2) (f 3) (f 4) = 0 ∧ X0_judge_v rows outc ts now rl tt ba = -4 ∧ X0_judge_p59_2 rows outc ts now rl tt ba = ts ∧ X0_judge_c66 rows outc ts now rl tt ba = tt) ∨
    (X7_work_p76_13 sg sx (f 0) (f 1) (f 2) (f 3) (f 4) = 1 ∧ X0_judge_v rows outc ts now rl tt ba = nI 1 ∧ X0_judge_p59_2 rows outc ts now rl tt ba = ts ∧ X0_judge_c66 rows outc ts now rl tt ba = tt) ∨
    (X7_work_p76_13 sg sx (f 0) (f 1) (f 2) (f 3) (f 4) = 2 ∧ ∃ x y z v, x < y ∧ y < z ∧ z < n ∧ (v = -1 ∨ v = 0 ∨ v = 1) ∧ X7_work_p76_14 cmT sg sx (f 0) (f 1) (f 2) (f 3) (f 4) = 100 * x + 10 * y + z ∧ X7_work_p76_15 cmS sg sx (f 0) (f 1) (f 2) (f 3) (f 4) = v ∧
      X0_judge_p59_2 rows outc ts now rl tt ba = v ∧ X0_judge_c66 rows outc ts now rl tt ba 0 = nI x ∧ X0_judge_c66 rows outc ts now rl tt ba 1 = nI y ∧ X0_judge_c66 rows outc ts now rl tt ba 2 = nI z ∧
      X7_maskAt_v (nI (100 * x + 10 * y + z)) = X7_maskOf_v (nI x) (nI y) (nI z) ∧ X0_judge_v rows outc ts now rl tt ba = if v = 0 then (if ba (spN x y z) = 0 then nI 0 else nI 2) else nI 0) := by
  obtain ⟨hL, hJ⟩ := six_same (sx := sx) hn hN hS hR
  have q := jw hL hJ
  have hat := wkD_at (L := X7_laySix_c101 sg sx (f 0) (f 1) (f 2) (f 3) (f 4))
  have hcs := wkD_c (L := X7_laySix_c101 sg sx (f 0) (f 1) (f 2) (f 3) (f 4))
  rw [judge_v, judge_s, judge_t, work_13, work_14, work_15]
  generalize wkD (X7_laySix_c101 sg sx (f 0) (f 1) (f 2) (f 3) (f 4)) = w at q hat hcs ⊢
  generalize jdD (X0_signIn_v now rl) = j at q ⊢
  obtain ⟨q1, q2⟩ := q
  by_cases c2 : w.1 = 2
  · refine Or.inr (Or.inr ⟨c2, ?_⟩)
    obtain ⟨e1, e2, e3, e4⟩ := q2 c2
    have hb := fun k hk => (hR.1 k hk).1
    obtain ⟨⟨g1, g2⟩, g3, g4, g5⟩ := b2_lt hb hR.2 _ hat
    obtain ⟨⟨m1, m2, m3⟩, m4, m5, m6, m7, m8, m9⟩ := srt hn (hb 0 (by decide)) g1 g2 g3 g4 g5
    obtain ⟨j0, j1, j2⟩ := jr_at (rl := rl) (a := f 0) (b := f 1) (c := f 2) (d := f 3) (e := f 4) (hR.1 0 (by decide)).2 (hR.1 1 (by decide)).2 (hR.1 2 (by decide)).2 (hR.1 3 (by decide)).2 (hR.1 4 (by decide)).2 (by have := hb 0 (by decide); omega) (by have := hb 1 (by decide); omega) (by have := hb 2 (by decide); omega) (by have := hb 3 (by decide); omega) (by have := hb 4 (by decide); omega) _ hat
    rw [e1, e2] at j0 j1 j2
    have cj : j.1 = 2 := by rw [← q1]; exact c2
    refine ⟨_, _, _, w.2.2 * X7_turnOf_v (nI (f 0)) (nI (b2 w.2.1 (f 1) (f 2) (f 3) (f 4))) (nI (b3 w.2.1 (f 1) (f 2) (f 3) (f 4))), m1, m2, m3, mul3 e4 m7, ?_, ?_, ?_, ?_, ?_, ?_, ?_, ?_⟩
    · show (if w.1 = 2 then _ else _) = _
      rw [if_pos c2, tells14 _ hat, m9]
    · show (if w.1 = 2 then _ else _) = _
      rw [if_pos c2, tells15 _ hat]
    · unfold jS jT
      rw [if_pos cj, j0, j1, j2, m6, e3]
    · unfold jTt
      rw [if_pos cj, j0, j1, j2]
      exact (m5 tt).1
    · unfold jTt
      rw [if_pos cj, j0, j1, j2]
      exact (m5 tt).2.1
    · unfold jTt
      rw [if_pos cj, j0, j1, j2]
      exact (m5 tt).2.2
    · rw [← m9]
      exact m8
    · unfold jV jT
      rw [if_neg (by omega), if_neg (by omega), j0, j1, j2, m6, e3, m4]
  · have hc : j.1 ≠ 2 := by rw [← q1]; exact c2
    have e5 : jS rl ts j = ts := if_neg hc
    have e6 : jTt rl tt j = tt := if_neg hc
    rw [e5, e6]
    rcases hcs with z | z | z
    · refine Or.inl ⟨z, ?_, rfl, rfl⟩
      unfold jV
      rw [if_pos (by rw [← q1]; exact z)]
    · refine Or.inr (Or.inl ⟨z, ?_, rfl, rfl⟩)
      unfold jV
      rw [if_neg (by rw [← q1, z]; decide), if_pos (by rw [← q1]; exact z)]
    · exact absurd z c2
