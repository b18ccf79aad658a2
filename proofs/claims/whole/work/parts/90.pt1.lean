/-! ===== what is told: bar and orient, alike in both ===== -/
def trLs : List Nat := (List.range 10).flatMap fun z => (List.range z).flatMap fun y => (List.range y).map fun x => 100 * x + 10 * y + z
set_option maxRecDepth 100000 in
theorem sp_at0 : ∀ z, z < 10 → ∀ y, y < z → ∀ x, x < y → trLs.getD (spN x y z) 0 = 100 * x + 10 * y + z := by decide +kernel
theorem sp_inj {x y z a b c : Nat} (h1 : x < y) (h2 : y < z) (h3 : z < 10) (g1 : a < b) (g2 : b < c) (g3 : c < 10) (h : spN x y z = spN a b c) : x = a ∧ y = b ∧ z = c := by
  have e1 := sp_at0 z h3 y h2 x h1
  have e2 := sp_at0 c g3 b g2 a g1
  rw [h, e2] at e1
  omega
def mkD (m : Int32) : Nat := ((List.range 10).filter fun i => m.toNatClampNeg / 2 ^ i % 2 == 1).foldl (fun a i => 10 * a + i) 0
set_option maxRecDepth 100000 in
theorem mk_at0 : ∀ z, z < 10 → ∀ y, y < z → ∀ x, x < y → mkD (X7_maskOf_v (nI x) (nI y) (nI z)) = 100 * x + 10 * y + z := by decide +kernel
theorem mk_inj {x y z a b c : Nat} (h1 : x < y) (h2 : y < z) (h3 : z < 10) (g1 : a < b) (g2 : b < c) (g3 : c < 10) (h : X7_maskOf_v (nI x) (nI y) (nI z) = X7_maskOf_v (nI a) (nI b) (nI c)) : x = a ∧ y = b ∧ z = c := by
  have e1 := mk_at0 z h3 y h2 x h1
  have e2 := mk_at0 c g3 b g2 a g1
  rw [h, e2] at e1
  omega
def mkOk (k : Nat) : Bool :=
  let a := k / 100; let b := k / 10 % 10; let c := k % 10
  decide (X7_maskOf_v (nI a) (nI b) (nI c) = X7_maskOf_v (nI (s0 a b c)) (nI (s1 a b c)) (nI (s2 a b c))) || (a == b || (a == c || b == c))
set_option maxRecDepth 100000 in
theorem mk_all : allB mkOk 1000 = true := by decide +kernel
theorem mk_srt {a b c : Nat} (ha : a < 10) (hb : b < 10) (hc : c < 10) (h1 : a ≠ b) (h2 : a ≠ c) (h3 : b ≠ c) : X7_maskOf_v (nI a) (nI b) (nI c) = X7_maskOf_v (nI (s0 a b c)) (nI (s1 a b c)) (nI (s2 a b c)) := by
  have q := allB_at mk_all (100 * a + 10 * b + c) (by omega)
  unfold mkOk at q
  simp only [show (100 * a + 10 * b + c) / 100 = a by omega, show (100 * a + 10 * b + c) / 10 % 10 = b by omega, show (100 * a + 10 * b + c) % 10 = c by omega, Bool.or_eq_true, beq_iff_eq, decide_eq_true_eq] at q
  rcases q with q | q | q | q
  · exact q
  · exact absurd q h1
  · exact absurd q h2
  · exact absurd q h3
/-- where a mask stands in a row of masks -/
theorem at_add {bm : Nat → Int32} {n : Nat} {m mk : Int32} : X7_barAt_v (n + 1) (upd bm n m) mk = if m = mk then nI n else X7_barAt_v n bm mk := by
  unfold X7_barAt_v
  rw [zfold_add n 1 0]
  show X7_barAt_L5_F (upd bm n m) mk (0 + n) _ = _
  rw [Nat.zero_add, zfold_ext (n := n) (F' := X7_barAt_L5_F bm mk) (fun i a hi => by
    unfold X7_barAt_L5_F upd
    rw [if_neg (show ¬ i = n by omega)]) n 0 _ (by omega)]
  unfold X7_barAt_L5_F upd
  rw [if_pos rfl]
theorem at_lt {bm : Nat → Int32} {mk : Int32} : ∀ n, X7_barAt_v n bm mk = -4 ∨ ∃ k, k < n ∧ X7_barAt_v n bm mk = nI k ∧ bm k = mk := by
  intro n
  induction n with
  | zero => exact Or.inl rfl
  | succ n ih =>
    have e : X7_barAt_v (n + 1) bm mk = if bm n = mk then nI n else X7_barAt_v n bm mk := by
      have q := at_add (bm := bm) (n := n) (m := bm n) (mk := mk)
      rw [upd_self] at q
      exact q
    rw [e]
    by_cases c : bm n = mk
    · rw [if_pos c]
      exact Or.inr ⟨n, by omega, rfl, c⟩
    · rw [if_neg c]
      rcases ih with q | ⟨k, hk, q, q2⟩
      · exact Or.inl q
      · exact Or.inr ⟨k, by omega, q, q2⟩
theorem at_0 {bm : Nat → Int32} {mk : Int32} : X7_barAt_v 0 bm mk = -4 := rfl
theorem or_at {om : Nat → Int32} {n : Nat} {mk : Int32} : X7_orientAt_v n om mk = X7_barAt_v n om mk := rfl
theorem nI_n4 {k : Nat} (h : k < 1000000) : ¬ nI k = -4 := by
  intro q
  have e : (nI k).toInt = -4 := by rw [q]; rfl
  rw [nI_toInt (by omega)] at e
  omega
/-- what is told: both sides -/
def TOLD (n lns brs ors : Nat) (fl ba ori lm bm om os : Nat → Int32) : Prop :=
  (∀ k, ori k = -1 ∨ ori k = 0 ∨ ori k = 1) ∧ BAR n brs ba bm ∧ ∀ x y z, x < y → y < z → z < n →
    (fl (spN x y z) = 0 ↔ X7_isFlat_v lns lm (X7_maskOf_v (nI x) (nI y) (nI z)) = 0) ∧
    (X7_orientAt_v ors om (X7_maskOf_v (nI x) (nI y) (nI z)) = -4 → ori (spN x y z) = 0) ∧
    (¬ X7_orientAt_v ors om (X7_maskOf_v (nI x) (nI y) (nI z)) = -4 → X7_isFlat_v lns lm (X7_maskOf_v (nI x) (nI y) (nI z)) = 0 ∧ ori (spN x y z) = os (X7_orientAt_v ors om (X7_maskOf_v (nI x) (nI y) (nI z))).toNatClampNeg ∧ ¬ ori (spN x y z) = 0)
theorem TOLD_TLD {n lns brs ors : Nat} {fl ba ori lm bm om os : Nat → Int32} (h : TOLD n lns brs ors fl ba ori lm bm om os) : TLD n lns ors fl ori lm om os := by
  refine ⟨h.1, fun x y z h1 h2 h3 => ?_⟩
  obtain ⟨q1, q2, q3⟩ := h.2.2 x y z h1 h2 h3
  unfold tvE rvE
  by_cases c : X7_isFlat_v lns lm (X7_maskOf_v (nI x) (nI y) (nI z)) = 0
  · rw [if_pos c]
    by_cases d : X7_orientAt_v ors om (X7_maskOf_v (nI x) (nI y) (nI z)) = -4
    · rw [if_pos d, if_pos ⟨q1.mpr c, q2 d⟩]
    · rw [if_neg d, if_neg (fun u => (q3 d).2.2 u.2)]
      exact (q3 d).2.1
  · rw [if_neg c, if_neg (fun u => c (q1.mp u.1))]
    by_cases d : X7_orientAt_v ors om (X7_maskOf_v (nI x) (nI y) (nI z)) = -4
    · exact q2 d
    · exact absurd (q3 d).1 c
section PT
variable {n lns brs ors : Nat} {fl ba ori lm bm om os : Nat → Int32}
theorem bar_same (hn : n ≤ 10) (hb : brs ≤ 20) (h : TOLD n lns brs ors fl ba ori lm bm om os) (a b c : Int32) :
    X6_bar_v n (nI brs) fl ba a b c = X7_bar_v n lns brs lm bm a b c ∧ X6_bar_p36_0 n (nI brs) fl ba a b c = nI (X7_bar_p76_5 n lns brs lm bm a b c) ∧ X7_bar_p76_0 n lns brs lm bm a b c = 0 ∧ X7_bar_p76_5 n lns brs lm bm a b c ≤ 20 ∧
    TOLD n lns (X7_bar_p76_5 n lns brs lm bm a b c) ors fl (X6_bar_c38 n (nI brs) fl ba a b c) ori lm (X7_bar_c86 n lns brs lm bm a b c) om os := by
  unfold X6_bar_v X6_bar_p36_0 X6_bar_c38 X7_bar_v X7_bar_p76_0 X7_bar_p76_5 X7_bar_c86
  by_cases ht : X7_isTriple_v n a b c = 0
  · have ht' := (tri_iff (n := n) (a := a) (b := b) (c := c) (by omega)).mpr ht
    simp only [if_pos ht, if_pos ht']
    exact ⟨trivial, trivial, trivial, hb, h⟩
  · have ht' : ¬ X4_isTriple_v n a b c = 0 := fun q => ht ((tri_iff (by omega)).mp q)
    simp only [if_neg ht, if_neg ht']
    obtain ⟨⟨va, vb, vc⟩, d1, d2, d3⟩ := tri_in hn ht
    have ea := zvin va
    have eb := zvin vb
    have ec := zvin vc
    have la := zvlt va
    have lb := zvlt vb
    have lc := zvlt vc
    generalize a.toNatClampNeg = a' at *
    generalize b.toNatClampNeg = b' at *
    generalize c.toNatClampNeg = c' at *
    subst ea
    subst eb
    subst ec
    obtain ⟨⟨k1, k2, k3⟩, k4, -⟩ := srt hn la lb lc d1 d2 d3
    rw [mk_srt (by omega) (by omega) (by omega) d1 d2 d3, k4]
    generalize s0 a' b' c' = x at *
    generalize s1 a' b' c' = y at *
    generalize s2 a' b' c' = z at *
    obtain ⟨q1, q2, q3⟩ := h.2.2 x y z k1 k2 k3
    have q4 := h.2.1 x y z k1 k2 k3
    by_cases c1 : X7_isFlat_v lns lm (X7_maskOf_v (nI x) (nI y) (nI z)) = 0
    · simp only [if_pos c1, if_pos (q1.mpr c1)]
      unfold X5_addBarred_v X5_addBarred_p36_0 X5_addBarred_c38
      by_cases c2 : X7_barAt_v brs bm (X7_maskOf_v (nI x) (nI y) (nI z)) = -4
      · simp only [if_pos c2, if_pos (q4.mpr c2)]
        by_cases c3 : brs = 20
        · have e1 : nI brs = nI 20 := by rw [c3]
          have e2 : ¬ nI brs < nI 20 := by rw [c3]; decide
          simp only [if_pos e1, if_neg e2]
          exact ⟨trivial, trivial, trivial, hb, h⟩
        · have e1 : ¬ nI brs = nI 20 := fun q => c3 ((nI_eq (by omega) (by omega)).mp q)
          have e2 : nI brs < nI 20 := nI_lt (by omega) (by omega)
          simp only [if_neg e1, if_pos e2]
          refine ⟨nI_add brs 1, nI_add brs 1, trivial, by omega, h.1, ?_, h.2.2⟩
          intro u v w h1 h2 h3
          rw [at_add]
          by_cases e : x = u ∧ y = v ∧ z = w
          · obtain ⟨rfl, rfl, rfl⟩ := e
            rw [if_pos rfl]
            unfold upd
            rw [if_pos rfl]
            exact ⟨fun q => absurd q (by decide), fun q => absurd q (nI_n4 (by omega))⟩
          · rw [if_neg (fun q => e (mk_inj k1 k2 (by omega) h1 h2 (by omega) q))]
            unfold upd
            rw [if_neg (fun q => e ((fun ⟨p1, p2, p3⟩ => ⟨p1.symm, p2.symm, p3.symm⟩) (sp_inj h1 h2 (by omega) k1 k2 (by omega) q)))]
            exact h.2.1 u v w h1 h2 h3
      · simp only [if_neg c2, if_neg (fun q => c2 (q4.mp q))]
        exact ⟨trivial, trivial, trivial, hb, h⟩
    · simp only [if_neg c1, if_neg (fun q => c1 (q1.mp q))]
      exact ⟨trivial, trivial, trivial, hb, h⟩
theorem pm_eq {r o : Int32} (hr : r = 1 ∨ r = -1) (ho : o = -1 ∨ o = 0 ∨ o = 1) (h0 : ¬ o = 0) : (o = -r) ↔ ¬ o = r := by
  rcases hr with rfl | rfl <;> rcases ho with rfl | rfl | rfl <;> first | decide | exact absurd rfl h0
theorem orient_go (hn : n ≤ 10) (ho : ors ≤ 20) (h : TOLD n lns brs ors fl ba ori lm bm om os) {a b c : Int32} (ht : ¬ X7_isTriple_v n a b c = 0) {s : Int32} (hs : s = 1 ∨ s = -1) :
    let sp := spN a.toNatClampNeg b.toNatClampNeg c.toNatClampNeg
    let r := s * X5_turnOf_v (nI a.toNatClampNeg) (nI b.toNatClampNeg) (nI c.toNatClampNeg)
    let r' := s * X7_turnOf_v a b c
    let M := X7_maskOf_v a b c
    let F := X7_isFlat_v lns lm M
    let O := X7_orientAt_v ors om M
    r = r' ∧ (fl sp = 0 ↔ F = 0) ∧ (O = -4 → ¬ ori sp = -r ∧ ori sp = 0) ∧ (¬ O = -4 → ¬ ori sp = 0 ∧ (ori sp = -r ↔ ¬ os O.toNatClampNeg = r')) ∧
    (F = 0 → O = -4 → ¬ ors = 20 → TOLD n lns brs (ors + 1) fl ba (upd ori sp r) lm bm (upd om ors M) (upd os ors r')) := by
  intro sp r r' M F O
  obtain ⟨⟨va, vb, vc⟩, d1, d2, d3⟩ := tri_in hn ht
  have ea := zvin va
  have eb := zvin vb
  have ec := zvin vc
  have la := zvlt va
  have lb := zvlt vb
  have lc := zvlt vc
  obtain ⟨⟨k1, k2, k3⟩, k4, -, k5, k6, -⟩ := srt hn la lb lc d1 d2 d3
  have er : r = r' := by
    show s * X5_turnOf_v _ _ _ = s * X7_turnOf_v a b c
    rw [k5, ← ea, ← eb, ← ec]
  have hr : r = 1 ∨ r = -1 := by
    have k7 : X5_turnOf_v (nI a.toNatClampNeg) (nI b.toNatClampNeg) (nI c.toNatClampNeg) = 1 ∨ X5_turnOf_v (nI a.toNatClampNeg) (nI b.toNatClampNeg) (nI c.toNatClampNeg) = -1 := by rw [k5]; exact k6
    show s * X5_turnOf_v _ _ _ = 1 ∨ s * X5_turnOf_v _ _ _ = -1
    rcases hs with rfl | rfl <;> rcases k7 with k7 | k7 <;> rw [k7] <;> decide
  have eM : M = X7_maskOf_v (nI (s0 a.toNatClampNeg b.toNatClampNeg c.toNatClampNeg)) (nI (s1 a.toNatClampNeg b.toNatClampNeg c.toNatClampNeg)) (nI (s2 a.toNatClampNeg b.toNatClampNeg c.toNatClampNeg)) := by
    show X7_maskOf_v a b c = _
    rw [← mk_srt (by omega) (by omega) (by omega) d1 d2 d3, ← ea, ← eb, ← ec]
  have eS : sp = spN (s0 a.toNatClampNeg b.toNatClampNeg c.toNatClampNeg) (s1 a.toNatClampNeg b.toNatClampNeg c.toNatClampNeg) (s2 a.toNatClampNeg b.toNatClampNeg c.toNatClampNeg) := k4
  have eF : F = X7_isFlat_v lns lm M := rfl
  have eO : O = X7_orientAt_v ors om M := rfl
  clear_value sp r r' M F O
  subst er
  generalize s0 a.toNatClampNeg b.toNatClampNeg c.toNatClampNeg = x at *
  generalize s1 a.toNatClampNeg b.toNatClampNeg c.toNatClampNeg = y at *
  generalize s2 a.toNatClampNeg b.toNatClampNeg c.toNatClampNeg = z at *
  subst eM
  subst eS
  subst eF
  subst eO
  obtain ⟨q1, q2, q3⟩ := h.2.2 x y z k1 k2 k3
  refine ⟨rfl, q1, fun u => ⟨fun v => ?_, q2 u⟩, fun u => ⟨(q3 u).2.2, ?_⟩, fun f u nz => ⟨fun k => ?_, h.2.1, ?_⟩⟩
  · rw [q2 u] at v
    rcases hr with hr | hr <;> (rw [hr] at v; exact absurd v (by decide))
  · rw [pm_eq hr (h.1 _) (q3 u).2.2, (q3 u).2.1]
  · unfold upd
    by_cases e : k = spN x y z
    · rw [if_pos e]
      rcases hr with hr | hr
      · exact Or.inr (Or.inr hr)
      · exact Or.inl hr
    · rw [if_neg e]
      exact h.1 k
  · intro u1 v1 w1 h1 h2 h3
    obtain ⟨p1, p2, p3⟩ := h.2.2 u1 v1 w1 h1 h2 h3
    rw [or_at, at_add]
    by_cases e : x = u1 ∧ y = v1 ∧ z = w1
    · obtain ⟨rfl, rfl, rfl⟩ := e
      rw [if_pos rfl, nI_clamp (by omega)]
      refine ⟨p1, fun q => absurd q (nI_n4 (by omega)), fun _ => ⟨f, ?_, ?_⟩⟩
      · unfold upd
        rw [if_pos rfl, if_pos rfl]
      · unfold upd
        rw [if_pos rfl]
        rcases hr with hr | hr <;> (rw [hr]; decide)
    · rw [if_neg (fun q => e (mk_inj k1 k2 (by omega) h1 h2 (by omega) q))]
      have e1 : upd ori (spN x y z) r (spN u1 v1 w1) = ori (spN u1 v1 w1) := by
        unfold upd
        rw [if_neg (fun q => e ((fun ⟨p1, p2, p3⟩ => ⟨p1.symm, p2.symm, p3.symm⟩) (sp_inj h1 h2 (by omega) k1 k2 (by omega) q)))]
      rw [e1]
      refine ⟨p1, p2, fun q => ⟨(p3 q).1, ?_, (p3 q).2.2⟩⟩
      have e2 := (p3 q).2.1
      rw [or_at] at e2
      rcases at_lt (bm := om) (mk := X7_maskOf_v (nI u1) (nI v1) (nI w1)) ors with g | ⟨k, hk, g, -⟩
      · exact absurd g q
      · rw [g, nI_clamp (by omega)] at e2 ⊢
        unfold upd
        rw [if_neg (by omega)]
        exact e2
theorem orient_same (hn : n ≤ 10) (ho : ors ≤ 20) (h : TOLD n lns brs ors fl ba ori lm bm om os) (a b c s : Int32) :
    X6_orient_v n (nI ors) fl ori a b c s = X7_orient_v n lns ors lm om os a b c s ∧ X6_orient_p36_1 n (nI ors) fl ori a b c s = nI (X7_orient_p76_6 n lns ors lm om os a b c s) ∧ X7_orient_p76_0 n lns ors lm om os a b c s = 0 ∧ X7_orient_p76_6 n lns ors lm om os a b c s ≤ 20 ∧
    TOLD n lns brs (X7_orient_p76_6 n lns ors lm om os a b c s) fl ba (X6_orient_c39 n (nI ors) fl ori a b c s) lm bm (X7_orient_c87 n lns ors lm om os a b c s) (X7_orient_c88 n lns ors lm om os a b c s) := by
  unfold X6_orient_v X6_orient_p36_1 X6_orient_c39 X7_orient_v X7_orient_p76_0 X7_orient_p76_6 X7_orient_c87 X7_orient_c88
  by_cases ht : X7_isTriple_v n a b c = 0
  · have ht' := (tri_iff (n := n) (a := a) (b := b) (c := c) (by omega)).mpr ht
    simp only [if_pos ht, if_pos ht']
    exact ⟨trivial, trivial, trivial, ho, h⟩
  · have ht' : ¬ X4_isTriple_v n a b c = 0 := fun q => ht ((tri_iff (by omega)).mp q)
    simp only [if_neg ht, if_neg ht']
    have key : ∀ s : Int32, s = 1 ∨ s = -1 →
      (if fl (spN a.toNatClampNeg b.toNatClampNeg c.toNatClampNeg) = 0 then (if ori (spN a.toNatClampNeg b.toNatClampNeg c.toNatClampNeg) = -(s * X5_turnOf_v (nI a.toNatClampNeg) (nI b.toNatClampNeg) (nI c.toNatClampNeg)) then -2 else X5_addOriented_v (nI ors) ori (spN a.toNatClampNeg b.toNatClampNeg c.toNatClampNeg)) else -2) = (if X7_isFlat_v lns lm (X7_maskOf_v a b c) = 0 then (if X7_orientAt_v ors om (X7_maskOf_v a b c) = -4 then (if nI ors = nI 20 then -3 else nI (ors + 1)) else (if os (X7_orientAt_v ors om (X7_maskOf_v a b c)).toNatClampNeg = s * X7_turnOf_v a b c then nI ors else -2)) else (-2 : Int32)) ∧
      (if fl (spN a.toNatClampNeg b.toNatClampNeg c.toNatClampNeg) = 0 then (if ori (spN a.toNatClampNeg b.toNatClampNeg c.toNatClampNeg) = -(s * X5_turnOf_v (nI a.toNatClampNeg) (nI b.toNatClampNeg) (nI c.toNatClampNeg)) then nI ors else X5_addOriented_p36_1 (nI ors) ori (spN a.toNatClampNeg b.toNatClampNeg c.toNatClampNeg)) else nI ors) = nI (if X7_isFlat_v lns lm (X7_maskOf_v a b c) = 0 then (if X7_orientAt_v ors om (X7_maskOf_v a b c) = -4 then (if nI ors = nI 20 then ors else ors + 1) else (if os (X7_orientAt_v ors om (X7_maskOf_v a b c)).toNatClampNeg = s * X7_turnOf_v a b c then ors else ors)) else ors) ∧
      (if X7_isFlat_v lns lm (X7_maskOf_v a b c) = 0 then (if X7_orientAt_v ors om (X7_maskOf_v a b c) = -4 then (if nI ors = nI 20 then 0 else 0) else (if os (X7_orientAt_v ors om (X7_maskOf_v a b c)).toNatClampNeg = s * X7_turnOf_v a b c then 0 else 0)) else 0) = 0 ∧
      (if X7_isFlat_v lns lm (X7_maskOf_v a b c) = 0 then (if X7_orientAt_v ors om (X7_maskOf_v a b c) = -4 then (if nI ors = nI 20 then ors else ors + 1) else (if os (X7_orientAt_v ors om (X7_maskOf_v a b c)).toNatClampNeg = s * X7_turnOf_v a b c then ors else ors)) else ors) ≤ 20 ∧
      TOLD n lns brs (if X7_isFlat_v lns lm (X7_maskOf_v a b c) = 0 then (if X7_orientAt_v ors om (X7_maskOf_v a b c) = -4 then (if nI ors = nI 20 then ors else ors + 1) else (if os (X7_orientAt_v ors om (X7_maskOf_v a b c)).toNatClampNeg = s * X7_turnOf_v a b c then ors else ors)) else ors) fl ba
        (if fl (spN a.toNatClampNeg b.toNatClampNeg c.toNatClampNeg) = 0 then (if ori (spN a.toNatClampNeg b.toNatClampNeg c.toNatClampNeg) = -(s * X5_turnOf_v (nI a.toNatClampNeg) (nI b.toNatClampNeg) (nI c.toNatClampNeg)) then ori else X5_addOriented_c39 (nI ors) ori (spN a.toNatClampNeg b.toNatClampNeg c.toNatClampNeg) (s * X5_turnOf_v (nI a.toNatClampNeg) (nI b.toNatClampNeg) (nI c.toNatClampNeg))) else ori)
        lm bm
        (if X7_isFlat_v lns lm (X7_maskOf_v a b c) = 0 then (if X7_orientAt_v ors om (X7_maskOf_v a b c) = -4 then (if nI ors = nI 20 then om else upd om ors (X7_maskOf_v a b c)) else (if os (X7_orientAt_v ors om (X7_maskOf_v a b c)).toNatClampNeg = s * X7_turnOf_v a b c then om else om)) else om)
        (if X7_isFlat_v lns lm (X7_maskOf_v a b c) = 0 then (if X7_orientAt_v ors om (X7_maskOf_v a b c) = -4 then (if nI ors = nI 20 then os else upd os ors (s * X7_turnOf_v a b c)) else (if os (X7_orientAt_v ors om (X7_maskOf_v a b c)).toNatClampNeg = s * X7_turnOf_v a b c then os else os)) else os) := by
      intro s hs
      obtain ⟨w1, w2, w3, w4, w5⟩ := orient_go hn ho h ht hs
      unfold X5_addOriented_v X5_addOriented_p36_1 X5_addOriented_c39
      by_cases c1 : X7_isFlat_v lns lm (X7_maskOf_v a b c) = 0
      · simp only [if_pos c1, if_pos (w2.mpr c1)]
        by_cases c2 : X7_orientAt_v ors om (X7_maskOf_v a b c) = -4
        · simp only [if_pos c2, if_neg (w3 c2).1, if_pos (w3 c2).2]
          by_cases c3 : ors = 20
          · have e1 : nI ors = nI 20 := by rw [c3]
            have e2 : ¬ nI ors < nI 20 := by rw [c3]; decide
            simp only [if_pos e1, if_neg e2]
            exact ⟨trivial, trivial, trivial, ho, h⟩
          · have e1 : ¬ nI ors = nI 20 := fun q => c3 ((nI_eq (by omega) (by omega)).mp q)
            have e2 : nI ors < nI 20 := nI_lt (by omega) (by omega)
            simp only [if_neg e1, if_pos e2]
            exact ⟨nI_add ors 1, nI_add ors 1, trivial, by omega, w5 c1 c2 c3⟩
        · simp only [if_neg c2, ite_self]
          by_cases c3 : os (X7_orientAt_v ors om (X7_maskOf_v a b c)).toNatClampNeg = s * X7_turnOf_v a b c
          · have e1 : ¬ ori (spN a.toNatClampNeg b.toNatClampNeg c.toNatClampNeg) = -(s * X5_turnOf_v (nI a.toNatClampNeg) (nI b.toNatClampNeg) (nI c.toNatClampNeg)) := fun q => (w4 c2).2.mp q c3
            simp only [if_pos c3, if_neg e1, if_neg (w4 c2).1]
            exact ⟨trivial, trivial, trivial, ho, h⟩
          · have e1 := (w4 c2).2.mpr c3
            simp only [if_neg c3, if_pos e1]
            exact ⟨trivial, trivial, trivial, ho, h⟩
      · simp only [if_neg c1, if_neg (fun q => c1 (w2.mp q))]
        exact ⟨trivial, trivial, trivial, ho, h⟩
    by_cases e1 : s = nI 1
    · simp only [if_pos e1]
      exact key s (Or.inl e1)
    · simp only [if_neg e1]
      by_cases e2 : s = -1
      · simp only [if_pos e2]
        exact key s (Or.inr e2)
      · simp only [if_neg e2]
        exact ⟨trivial, trivial, trivial, ho, h⟩
end PT
