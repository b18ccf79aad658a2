/-! ===== signs of any order; rows; both tables with rows ===== -/
set_option maxRecDepth 100000 in
theorem pl60 : ∀ z, z < 10 → ∀ y, y < z → ∀ x, x < y → (plN x y z = 100 * x + 10 * y + z ∧ plN y z x = 100 * x + 10 * y + z ∧ plN z x y = 100 * x + 10 * y + z) ∧ plN y x z = 100 * x + 10 * y + z ∧ plN x z y = 100 * x + 10 * y + z ∧ plN z y x = 100 * x + 10 * y + z := by decide +kernel
theorem pl6 (x : Nat) (_ : x < 10) (y : Nat) (_ : y < 10) (z : Nat) (hz : z < 10) (h1 : x < y) (h2 : y < z) : (plN x y z = 100 * x + 10 * y + z ∧ plN y z x = 100 * x + 10 * y + z ∧ plN z x y = 100 * x + 10 * y + z) ∧ plN y x z = 100 * x + 10 * y + z ∧ plN x z y = 100 * x + 10 * y + z ∧ plN z y x = 100 * x + 10 * y + z := pl60 z hz y h2 x h1
set_option maxRecDepth 100000 in
theorem tu60 : ∀ z, z < 10 → ∀ y, y < z → ∀ x, x < y → (X7_turnOf_v (nI x) (nI y) (nI z) = nI 1 ∧ X7_turnOf_v (nI y) (nI z) (nI x) = nI 1 ∧ X7_turnOf_v (nI z) (nI x) (nI y) = nI 1) ∧ X7_turnOf_v (nI y) (nI x) (nI z) = -1 ∧ X7_turnOf_v (nI x) (nI z) (nI y) = -1 ∧ X7_turnOf_v (nI z) (nI y) (nI x) = -1 := by decide +kernel
theorem tu6 (x : Nat) (_ : x < 10) (y : Nat) (_ : y < 10) (z : Nat) (hz : z < 10) (h1 : x < y) (h2 : y < z) : (X7_turnOf_v (nI x) (nI y) (nI z) = nI 1 ∧ X7_turnOf_v (nI y) (nI z) (nI x) = nI 1 ∧ X7_turnOf_v (nI z) (nI x) (nI y) = nI 1) ∧ X7_turnOf_v (nI y) (nI x) (nI z) = -1 ∧ X7_turnOf_v (nI x) (nI z) (nI y) = -1 ∧ X7_turnOf_v (nI z) (nI y) (nI x) = -1 := tu60 z hz y h2 x h1
def SGE (sg : Nat → Int32) : Nat → Nat → Nat → Int32 := fun x y z => sg (100 * x + 10 * y + z)
def SGI (n : Nat) (sg : Nat → Int32) : Prop := ∀ x y z, x < y → y < z → z < n → sgIn (sg (100 * x + 10 * y + z))
theorem cv_p {s : Int32} (h : sgIn s) : cvJ s = cvJ (if s = nI 9 then nI 9 else s * nI 1) ∧ sgIn (if s = nI 9 then nI 9 else s * nI 1) := by
  rcases h with h | h | h | h <;> (subst h; unfold sgIn; decide)
theorem cv_m {s : Int32} (h : sgIn s) : cvN s = cvJ (if s = nI 9 then nI 9 else s * -1) ∧ sgIn (if s = nI 9 then nI 9 else s * -1) := by
  rcases h with h | h | h | h <;> (subst h; unfold sgIn; decide)
theorem NS_at {n : Nat} {now sg : Nat → Int32} (hn : n ≤ 10) (hN : NS3 n now (SGE sg)) (hS : SGI n sg) {a b c : Nat} (ha : a < n) (hb : b < n) (hc : c < n) (h1 : a ≠ b) (h2 : a ≠ c) (h3 : b ≠ c) : now ((((a * 10) + b) * 10) + c) = cvJ (X7_signOf_v sg a b c) ∧ sgIn (X7_signOf_v sg a b c) := by
  unfold X7_signOf_v
  rcases (show (a < b ∧ b < c) ∨ (b < c ∧ c < a) ∨ (c < a ∧ a < b) ∨ (b < a ∧ a < c) ∨ (a < c ∧ c < b) ∨ (c < b ∧ b < a) by omega) with q | q | q | q | q | q
  · obtain ⟨⟨p1, p2, p3⟩, p4, p5, p6⟩ := pl6 a (by omega) b (by omega) c (by omega) q.1 q.2
    obtain ⟨⟨t1, t2, t3⟩, t4, t5, t6⟩ := tu6 a (by omega) b (by omega) c (by omega) q.1 q.2
    obtain ⟨⟨g1, g2, g3⟩, g4, g5, g6⟩ := hN a b c q.1 q.2 hc
    rw [p1, t1, g1]
    exact cv_p (hS a b c q.1 q.2 hc)
  · obtain ⟨⟨p1, p2, p3⟩, p4, p5, p6⟩ := pl6 b (by omega) c (by omega) a (by omega) q.1 q.2
    obtain ⟨⟨t1, t2, t3⟩, t4, t5, t6⟩ := tu6 b (by omega) c (by omega) a (by omega) q.1 q.2
    obtain ⟨⟨g1, g2, g3⟩, g4, g5, g6⟩ := hN b c a q.1 q.2 ha
    rw [p3, t3, g3]
    exact cv_p (hS b c a q.1 q.2 ha)
  · obtain ⟨⟨p1, p2, p3⟩, p4, p5, p6⟩ := pl6 c (by omega) a (by omega) b (by omega) q.1 q.2
    obtain ⟨⟨t1, t2, t3⟩, t4, t5, t6⟩ := tu6 c (by omega) a (by omega) b (by omega) q.1 q.2
    obtain ⟨⟨g1, g2, g3⟩, g4, g5, g6⟩ := hN c a b q.1 q.2 hb
    rw [p2, t2, g2]
    exact cv_p (hS c a b q.1 q.2 hb)
  · obtain ⟨⟨p1, p2, p3⟩, p4, p5, p6⟩ := pl6 b (by omega) a (by omega) c (by omega) q.1 q.2
    obtain ⟨⟨t1, t2, t3⟩, t4, t5, t6⟩ := tu6 b (by omega) a (by omega) c (by omega) q.1 q.2
    obtain ⟨⟨g1, g2, g3⟩, g4, g5, g6⟩ := hN b a c q.1 q.2 hc
    rw [p4, t4, g4]
    exact cv_m (hS b a c q.1 q.2 hc)
  · obtain ⟨⟨p1, p2, p3⟩, p4, p5, p6⟩ := pl6 a (by omega) c (by omega) b (by omega) q.1 q.2
    obtain ⟨⟨t1, t2, t3⟩, t4, t5, t6⟩ := tu6 a (by omega) c (by omega) b (by omega) q.1 q.2
    obtain ⟨⟨g1, g2, g3⟩, g4, g5, g6⟩ := hN a c b q.1 q.2 hb
    rw [p5, t5, g5]
    exact cv_m (hS a c b q.1 q.2 hb)
  · obtain ⟨⟨p1, p2, p3⟩, p4, p5, p6⟩ := pl6 c (by omega) b (by omega) a (by omega) q.1 q.2
    obtain ⟨⟨t1, t2, t3⟩, t4, t5, t6⟩ := tu6 c (by omega) b (by omega) a (by omega) q.1 q.2
    obtain ⟨⟨g1, g2, g3⟩, g4, g5, g6⟩ := hN c b a q.1 q.2 ha
    rw [p6, t6, g6]
    exact cv_m (hS c b a q.1 q.2 ha)
/-- a row in both tables -/
def RW1 (n : Nat) (kd sgn rel tri rk rs rf rt : Nat → Int32) (i : Nat) : Prop :=
  kd i = rk i ∧ sgn i = rs i ∧ ((sgn i = -1 ∨ sgn i = 0 ∨ sgn i = 1) ∧ (kd i = nI 0 ∨ kd i = nI 1 ∨ kd i = nI 2)) ∧
  (∃ f : Nat → Nat, (∀ j, j < 5 → f j < n ∧ rel (5 * i + j) = nI (f j) ∧ rf (5 * i + j) = nI (f j)) ∧ ∀ j k, j < 5 → k < 5 → j ≠ k → f j ≠ f k) ∧
  (kd i = nI 1 → ∀ j, j < 3 → tri (3 * i + j) = -4) ∧
  (¬ kd i = nI 1 → ∃ x y z, x < y ∧ y < z ∧ z < n ∧ tri (3 * i) = nI x ∧ tri (3 * i + 1) = nI y ∧ tri (3 * i + 2) = nI z ∧ rt i = nI (100 * x + 10 * y + z))
def RWS (n : Nat) (kd sgn rel tri rk rs rf rt : Nat → Int32) (m : Nat) : Prop := ∀ i, i < m → RW1 n kd sgn rel tri rk rs rf rt i
theorem ne9 {v : Int32} (h : v = -1 ∨ v = 0 ∨ v = 1) : v ≠ nI 9 := by
  rcases h with h | h | h <;> (subst h; decide)
theorem SGE_up {sg : Nat → Int32} {a b c x y z : Nat} {v : Int32} (hb : b < 10) (hc : c < 10) (hy : y < 10) (hz : z < 10) : upE (SGE sg) a b c v x y z = SGE (upd sg (100 * a + 10 * b + c) v) x y z := by
  unfold upE SGE
  simp only [upd]
  by_cases q : x = a ∧ y = b ∧ z = c
  · obtain ⟨rfl, rfl, rfl⟩ := q
    rw [if_pos ⟨rfl, rfl, rfl⟩, if_pos rfl]
  · rw [if_neg q, if_neg (fun e => ?_)]
    have h1 : x = a := by omega
    subst h1
    have h2 : y = b := by omega
    subst h2
    exact q ⟨rfl, rfl, by omega⟩
theorem learn_step {n : Nat} (hn : n ≤ 10) {now sg kd sgn rel tri rk rs rf rt : Nat → Int32} {i : Nat} (hR : RW1 n kd sgn rel tri rk rs rf rt i) (hN : NS3 n now (SGE sg)) (hS : SGI n sg) : NS3 n (X0_learn_c64 now kd sgn tri i) (SGE (X7_layRow_c96 sg rk rt rs i)) ∧ SGI n (X7_layRow_c96 sg rk rt rs i) := by
  obtain ⟨r1, r2, r3, r4, r5, r6⟩ := hR
  unfold X0_learn_c64 X7_layRow_c96
  by_cases c : kd i = nI 1
  · rw [if_pos c, if_pos (by rw [← r1]; exact c)]
    exact ⟨hN, hS⟩
  · rw [if_neg c, if_neg (by rw [← r1]; exact c)]
    obtain ⟨x, y, z, h1, h2, h3, e1, e2, e3, e4⟩ := r6 c
    rw [e1, e2, e3, e4, ← r2, pk_cl (x := nI x) x rfl (by omega), pk_cl (x := nI y) y rfl (by omega), pk_cl (x := nI z) z rfl (by omega), pk_cl (x := nI (100 * x + 10 * y + z)) (100 * x + 10 * y + z) rfl (by omega)]
    refine ⟨NS3_ext (NS3_set hN h1 h2 (by omega) hn (ne9 r3.1)) (fun a b d g1 g2 g3 => SGE_up (by omega) (by omega) (by omega) (by omega)), fun a b d g1 g2 g3 => ?_⟩
    simp only [upd]
    split
    · rcases r3.1 with q | q | q
      · exact Or.inl q
      · exact Or.inr (Or.inl q)
      · exact Or.inr (Or.inr (Or.inl q))
    · exact hS a b d g1 g2 g3
/-- what is told, alike in both -/
def TLD (n lns ors : Nat) (fl ori lm om os : Nat → Int32) : Prop := (∀ k, ori k = -1 ∨ ori k = 0 ∨ ori k = 1) ∧ ∀ x y z, x < y → y < z → z < n → tvE fl ori x y z = rvE lns ors lm om os x y z
theorem tables {n lns ors : Nat} {fl ori lm om os now sg kd sgn rel tri rk rs rf rt : Nat → Int32} (hn : n ≤ 10) (hT : TLD n lns ors fl ori lm om os) : ∀ (m : Nat), RWS n kd sgn rel tri rk rs rf rt m → NS3 n (X0_gather_c64 now kd sgn tri fl ori m) (SGE (X7_layTable_c96 n lns ors lm om os sg rk rt rs m)) ∧ SGI n (X7_layTable_c96 n lns ors lm om os sg rk rt rs m) := by
  intro m hR
  have g0 : NS3 n (zfold (X0_gather_L11_F fl ori) 8 2 (fillF 1000 (-4) now)) (SGE (zfold (X7_layTable_L2_F n lns ors lm om os) n 0 sg)) := by
    refine NS3_ext (gather0 (fun k => ne9 (hT.1 k)) hn (fun i hi => ?_)) (fun x y z h1 h2 h3 => ?_)
    · unfold fillF
      rw [fill_at (n := 0), if_pos (by omega)]
    · rw [hT.2 x y z h1 h2 h3]
      exact (layTable0 hn x y z h1 h2 h3).symm
  have s0 : SGI n (zfold (X7_layTable_L2_F n lns ors lm om os) n 0 sg) := by
    intro x y z h1 h2 h3
    rw [layTable0 hn x y z h1 h2 h3, ← hT.2 x y z h1 h2 h3]
    unfold tvE
    split
    · exact Or.inr (Or.inr (Or.inr rfl))
    · rcases hT.1 (spN x y z) with q | q | q
      · exact Or.inl q
      · exact Or.inr (Or.inl q)
      · exact Or.inr (Or.inr (Or.inl q))
  unfold X0_gather_c64 X7_layTable_c96
  generalize zfold (X0_gather_L11_F fl ori) 8 2 (fillF 1000 (-4) now) = A at g0 ⊢
  generalize zfold (X7_layTable_L2_F n lns ors lm om os) n 0 sg = B at g0 s0 ⊢
  have key : ∀ (d i : Nat) (A B : Nat → Int32), i + d ≤ m → NS3 n A (SGE B) → SGI n B → NS3 n (zfold (X0_gather_L106_F kd sgn tri) d i A) (SGE (zfold (X7_layTable_L122_F rk rt rs) d i B)) ∧ SGI n (zfold (X7_layTable_L122_F rk rt rs) d i B) := by
    intro d
    induction d with
    | zero => intro i A B _ h1 h2; exact ⟨h1, h2⟩
    | succ d ih =>
      intro i A B hi h1 h2
      have q := learn_step hn (hR i (by omega)) h1 h2
      exact ih (i + 1) _ _ (by omega) q.1 q.2
  exact key m 0 A B (by omega) g0 s0
