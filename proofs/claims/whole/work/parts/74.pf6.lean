/-! ===== deduce, alike in both ===== -/
section PF6
variable {n m brs : Nat} {now sg ba bm kd sgn rel tri rk rs rf rt : Nat → Int32}
theorem zpick_1 {α β γ : Type} {r : Option β × α} {b : β} {f : β → γ} {k : α → γ} (h : r.1 = some b) : zpick r f k = f b := by
  obtain ⟨o, a⟩ := r
  cases h
  rfl
theorem zpick_0 {α β γ : Type} {r : Option β × α} {f : β → γ} {k : α → γ} (h : r.1 = none) : zpick r f k = k r.2 := by
  obtain ⟨o, a⟩ := r
  cases h
  rfl
theorem zfoldX_hit {α : Type} {B : Nat → α → Option α} {F : Nat → α → α} {d k : Nat} {a b : α} (h : B k a = some b) : zfoldX B F (d + 1) k a = (k, b) := by
  rw [zfoldX, h]
theorem fstep (hn : n ≤ 10) (hN : NS3 n now (SGE sg)) (hS : SGI n sg) (hB : BAR n brs ba bm) (hR : RWS n kd sgn rel tri rk rs rf rt m) (rows outc ts : Int32) (rl tt : Nat → Int32) (cms : Int32) (cmT : Nat) (cmS : Int32) (sx : Nat → Int32) :
    (X0_firstKind_v rows outc ts now rl tt ba n = -4 ∧ X7_follows_v n brs m cms cmT cmS bm sg rk rt rs rf sx = 0 ∧ X7_follows_p76_12 n brs m cms cmT cmS bm sg rk rt rs rf sx = m ∧ X7_follows_c97 n brs m cms cmT cmS bm sg rk rt rs rf sx = rk ∧ X7_follows_c98 n brs m cms cmT cmS bm sg rk rt rs rf sx = rf ∧ X7_follows_c99 n brs m cms cmT cmS bm sg rk rt rs rf sx = rt ∧ X7_follows_c100 n brs m cms cmT cmS bm sg rk rt rs rf sx = rs) ∨
    (¬ X0_firstKind_v rows outc ts now rl tt ba n = -4 ∧ ¬ X7_follows_v n brs m cms cmT cmS bm sg rk rt rs rf sx = 0 ∧ (X0_firstKind_v rows outc ts now rl tt ba n = nI 0 ∨ X0_firstKind_v rows outc ts now rl tt ba n = nI 1 ∨ X0_firstKind_v rows outc ts now rl tt ba n = nI 2) ∧ X7_follows_p76_12 n brs m cms cmT cmS bm sg rk rt rs rf sx = m + 1 ∧
      RWS n (X0_addRow_c60 m kd (X0_firstKind_v rows outc ts now rl tt ba n)) (X0_addRow_c61 m (X0_firstKind_p59_2 rows outc ts now rl tt ba n) sgn (X0_firstKind_v rows outc ts now rl tt ba n)) (X0_addRow_c62 m rel (X0_firstKind_c65 rows outc ts now rl tt ba n) (X0_firstKind_v rows outc ts now rl tt ba n)) (X0_addRow_c63 m tri (X0_firstKind_c66 rows outc ts now rl tt ba n) (X0_firstKind_v rows outc ts now rl tt ba n))
        (X7_follows_c97 n brs m cms cmT cmS bm sg rk rt rs rf sx) (X7_follows_c100 n brs m cms cmT cmS bm sg rk rt rs rf sx) (X7_follows_c98 n brs m cms cmT cmS bm sg rk rt rs rf sx) (X7_follows_c99 n brs m cms cmT cmS bm sg rk rt rs rf sx) (m + 1) ∧
      X7_follows_c97 n brs m cms cmT cmS bm sg rk rt rs rf sx m = X0_firstKind_v rows outc ts now rl tt ba n ∧ X7_follows_c96 n brs m cms cmT cmS bm sg rk rt rs rf sx = X7_layRow_c96 sg (X7_follows_c97 n brs m cms cmT cmS bm sg rk rt rs rf sx) (X7_follows_c99 n brs m cms cmT cmS bm sg rk rt rs rf sx) (X7_follows_c100 n brs m cms cmT cmS bm sg rk rt rs rf sx) m) := by
  obtain ⟨p1, p2⟩ := first_class (rows := rows) (outc := outc) (ba := ba) hn hN hS (rl, ts, tt)
  obtain ⟨q1, q2⟩ := first_ref (brs := brs) (rws := m) (bm := bm) (sg := sg) (rk := rk) (rt := rt) (rs := rs) (rf := rf) hn (sx, cms, cmT, cmS)
  unfold X0_firstKind_v X0_firstKind_p59_2 X0_firstKind_c65 X0_firstKind_c66 X7_follows_v X7_follows_p76_12 X7_follows_c96 X7_follows_c97 X7_follows_c98 X7_follows_c99 X7_follows_c100
  cases e1 : (zfoldB (X0_firstKind_L6_B rows outc now ba n) (X0_firstKind_L6_F rows outc now ba n) n 0 (rl, ts, tt)).1 with
  | none =>
    cases e2 : (zfoldB (X7_follows_L2_B n brs m bm sg rk rt rs rf) (X7_follows_L2_F n brs m bm sg rk rt rs rf) n 0 (sx, cms, cmT, cmS)).1 with
    | none =>
      refine Or.inl ?_
      simp only [zpick_0 e1, zpick_0 e2]
      exact ⟨trivial, rfl, trivial, trivial, trivial, trivial, trivial⟩
    | some r' =>
      obtain ⟨a, b, c, d, e, hF, -⟩ := q1 r' e2
      exact absurd hF.2.1 (p2 e1 a b c d e hF.1)
  | some r =>
    obtain ⟨a, b, c, d, e, hF, hX⟩ := p1 r e1
    cases e2 : (zfoldB (X7_follows_L2_B n brs m bm sg rk rt rs rf) (X7_follows_L2_F n brs m bm sg rk rt rs rf) n 0 (sx, cms, cmT, cmS)).1 with
    | none => exact absurd hF.2.1 (q2 e2 a b c d e hF.1)
    | some r' =>
      obtain ⟨a', b', c', d', e', hF', hX'⟩ := q1 r' e2
      obtain ⟨rfl, rfl, rfl, rfl, rfl⟩ := FST_one hF hF'
      obtain ⟨g1, g2, g3, g4, g5, g6⟩ := row_new hn hN hS hB hR hF hX hX'
      refine Or.inr ?_
      simp only [zpick_1 e1, zpick_1 e2]
      refine ⟨?_, by rw [g5]; decide, g2, g6, g1, g3, g4⟩
      rcases g2 with u | u | u <;> (rw [u]; decide)
theorem sim (hn : n ≤ 10) (hB : BAR n brs ba bm) : ∀ (d k : Nat) (ts : Int32) (kd sgn rel tri now rl tt sx : Nat → Int32) (cms : Int32) (cmT : Nat) (cmS told : Int32) (sg rk rf rt rs : Nat → Int32), k + d = 60 → (k < 60 → told = nI 3 ∧ NS3 n now (SGE sg) ∧ SGI n sg) → (k = 60 → told = nI 2) → cmT < 1000 → RWS n kd sgn rel tri rk rs rf rt k →
    ∃ b, (zfoldB (X7_deduce_L30_B n brs bm) (X7_deduce_L30_F n brs bm) (d + 1) k (sx, cms, cmT, cmS, told, k, sg, rk, rf, rt, rs)).1 = some b ∧
      b.1 = (zfoldX (X0_follow_L16_B ba n) (X0_follow_L16_F ba n) d k (k, nI 2, ts, kd, sgn, rel, tri, now, rl, tt)).2.2.1 ∧ b.2.2.1 = b.1 ∧ b.2.2.2.1 = (zfoldX (X0_follow_L16_B ba n) (X0_follow_L16_F ba n) d k (k, nI 2, ts, kd, sgn, rel, tri, now, rl, tt)).2.1 ∧ b.2.2.2.1 ≤ 60 ∧ b.2.2.2.2.2.1 < 1000 ∧
      RWS n (zfoldX (X0_follow_L16_B ba n) (X0_follow_L16_F ba n) d k (k, nI 2, ts, kd, sgn, rel, tri, now, rl, tt)).2.2.2.2.1 (zfoldX (X0_follow_L16_B ba n) (X0_follow_L16_F ba n) d k (k, nI 2, ts, kd, sgn, rel, tri, now, rl, tt)).2.2.2.2.2.1 (zfoldX (X0_follow_L16_B ba n) (X0_follow_L16_F ba n) d k (k, nI 2, ts, kd, sgn, rel, tri, now, rl, tt)).2.2.2.2.2.2.1 (zfoldX (X0_follow_L16_B ba n) (X0_follow_L16_F ba n) d k (k, nI 2, ts, kd, sgn, rel, tri, now, rl, tt)).2.2.2.2.2.2.2.1
        b.2.2.2.2.2.2.2.2.1 b.2.2.2.2.2.2.2.2.2.2.2.1 b.2.2.2.2.2.2.2.2.2.1 b.2.2.2.2.2.2.2.2.2.2.1 b.2.2.2.1 := by
  intro d
  induction d with
  | zero =>
    intro k ts kd sgn rel tri now rl tt sx cms cmT cmS told sg rk rf rt rs hk h3 h2 hcm hR
    have hk60 : k = 60 := by omega
    have ht := h2 hk60
    have hB9 : X7_deduce_L30_B n brs bm k (sx, cms, cmT, cmS, told, k, sg, rk, rf, rt, rs) = some (told, 0, told, k, cms, cmT, cmS, sg, rk, rf, rt, rs, sx) := by
      unfold X7_deduce_L30_B
      exact if_neg (by show ¬ told = nI 3; rw [ht]; decide)
    refine ⟨(told, 0, told, k, cms, cmT, cmS, sg, rk, rf, rt, rs, sx), by simp only [zfoldB]; rw [hB9], ht, rfl, rfl, by show k ≤ 60; omega, hcm, hR⟩
  | succ d ih =>
    intro k ts kd sgn rel tri now rl tt sx cms cmT cmS told sg rk rf rt rs hk h3 h2 hcm hR
    obtain ⟨ht, hN, hS⟩ := h3 (by omega)
    subst ht
    have hcm2 : X7_follows_p76_14 n brs k cms cmT cmS bm sg rk rt rs rf sx < 1000 := follows_lt hn hcm
    have stop : ∀ (t9 : Int32) (w : (Nat → Int32) × (Int32) × (Nat) × (Int32) × (Int32) × (Nat) × (Nat → Int32) × (Nat → Int32) × (Nat → Int32) × (Nat → Int32) × (Nat → Int32)), ¬ t9 = nI 3 → w.2.2.2.2.1 = t9 → X7_deduce_L30_F n brs bm k (sx, cms, cmT, cmS, nI 3, k, sg, rk, rf, rt, rs) = w → X7_deduce_L30_B n brs bm k (sx, cms, cmT, cmS, nI 3, k, sg, rk, rf, rt, rs) = none →
        (zfoldB (X7_deduce_L30_B n brs bm) (X7_deduce_L30_F n brs bm) (d + 1 + 1) k (sx, cms, cmT, cmS, nI 3, k, sg, rk, rf, rt, rs)).1 = some (t9, 0, t9, w.2.2.2.2.2.1, w.2.1, w.2.2.1, w.2.2.2.1, w.2.2.2.2.2.2.1, w.2.2.2.2.2.2.2.1, w.2.2.2.2.2.2.2.2.1, w.2.2.2.2.2.2.2.2.2.1, w.2.2.2.2.2.2.2.2.2.2, w.1) := by
      intro t9 w hne hw hF hBn
      have hB2 : X7_deduce_L30_B n brs bm (k + 1) w = some (t9, 0, t9, w.2.2.2.2.2.1, w.2.1, w.2.2.1, w.2.2.2.1, w.2.2.2.2.2.2.1, w.2.2.2.2.2.2.2.1, w.2.2.2.2.2.2.2.2.1, w.2.2.2.2.2.2.2.2.2.1, w.2.2.2.2.2.2.2.2.2.2, w.1) := by
        unfold X7_deduce_L30_B
        rw [if_neg (by rw [hw]; exact hne), hw]
      rw [zfoldB, hBn, hF, zfoldB, hB2]
    rcases fstep hn hN hS hB hR (nI k) (nI 2) ts rl tt cms cmT cmS sx with q | q
    · obtain ⟨q1, q2, q3, q4, q5, q6, q7⟩ := q
      have hX : X0_follow_L16_B ba n k (k, nI 2, ts, kd, sgn, rel, tri, now, rl, tt) = some (k, nI 1, X0_firstKind_p59_2 (nI k) (nI 2) ts now rl tt ba n, kd, sgn, rel, tri, now, X0_firstKind_c65 (nI k) (nI 2) ts now rl tt ba n, X0_firstKind_c66 (nI k) (nI 2) ts now rl tt ba n) := by
        unfold X0_follow_L16_B
        exact if_pos q1
      have hF : X7_deduce_L30_F n brs bm k (sx, cms, cmT, cmS, nI 3, k, sg, rk, rf, rt, rs) = (X7_follows_c101 n brs k cms cmT cmS bm sg rk rt rs rf sx, X7_follows_p76_13 n brs k cms cmT cmS bm sg rk rt rs rf sx, X7_follows_p76_14 n brs k cms cmT cmS bm sg rk rt rs rf sx, X7_follows_p76_15 n brs k cms cmT cmS bm sg rk rt rs rf sx, nI 1, X7_follows_p76_12 n brs k cms cmT cmS bm sg rk rt rs rf sx, X7_follows_c96 n brs k cms cmT cmS bm sg rk rt rs rf sx, X7_follows_c97 n brs k cms cmT cmS bm sg rk rt rs rf sx, X7_follows_c98 n brs k cms cmT cmS bm sg rk rt rs rf sx, X7_follows_c99 n brs k cms cmT cmS bm sg rk rt rs rf sx, X7_follows_c100 n brs k cms cmT cmS bm sg rk rt rs rf sx) := by
        unfold X7_deduce_L30_F
        rw [if_pos rfl, if_pos q2]
      have hBn : X7_deduce_L30_B n brs bm k (sx, cms, cmT, cmS, nI 3, k, sg, rk, rf, rt, rs) = none := by
        unfold X7_deduce_L30_B
        rw [if_pos rfl, if_pos q2]
      have hz := stop (nI 1) _ (by decide) rfl hF hBn
      rw [q3, q4, q5, q6, q7] at hz
      have hx : zfoldX (X0_follow_L16_B ba n) (X0_follow_L16_F ba n) (d + 1) k (k, nI 2, ts, kd, sgn, rel, tri, now, rl, tt) = (k, (k, nI 1, X0_firstKind_p59_2 (nI k) (nI 2) ts now rl tt ba n, kd, sgn, rel, tri, now, X0_firstKind_c65 (nI k) (nI 2) ts now rl tt ba n, X0_firstKind_c66 (nI k) (nI 2) ts now rl tt ba n)) := by
        rw [zfoldX, hX]
      refine ⟨_, hz, ?_⟩
      rw [hx]
      exact ⟨rfl, rfl, rfl, by show k ≤ 60; omega, hcm2, hR⟩
    · obtain ⟨q1, q2, q3, q4, q5, q6, q7⟩ := q
      have q6' : X7_follows_c97 n brs k cms cmT cmS bm sg rk rt rs rf sx (X7_follows_p76_12 n brs k cms cmT cmS bm sg rk rt rs rf sx - 1) = X0_firstKind_v (nI k) (nI 2) ts now rl tt ba n := by
        rw [q4, Nat.add_sub_cancel]
        exact q6
      have h59 : X0_addRow_p59_0 k (X0_firstKind_v (nI k) (nI 2) ts now rl tt ba n) = k + 1 := ite_same _
      by_cases c0 : X0_firstKind_v (nI k) (nI 2) ts now rl tt ba n = 0
      · -- an ordinary row
        have hBX : X0_follow_L16_B ba n k (k, nI 2, ts, kd, sgn, rel, tri, now, rl, tt) = none := by
          unfold X0_follow_L16_B
          rw [if_neg q1, if_pos c0]
        have hFX : X0_follow_L16_F ba n k (k, nI 2, ts, kd, sgn, rel, tri, now, rl, tt) = (k + 1, nI 2, X0_firstKind_p59_2 (nI k) (nI 2) ts now rl tt ba n, X0_addRow_c60 k kd (X0_firstKind_v (nI k) (nI 2) ts now rl tt ba n), X0_addRow_c61 k (X0_firstKind_p59_2 (nI k) (nI 2) ts now rl tt ba n) sgn (X0_firstKind_v (nI k) (nI 2) ts now rl tt ba n), X0_addRow_c62 k rel (X0_firstKind_c65 (nI k) (nI 2) ts now rl tt ba n) (X0_firstKind_v (nI k) (nI 2) ts now rl tt ba n), X0_addRow_c63 k tri (X0_firstKind_c66 (nI k) (nI 2) ts now rl tt ba n) (X0_firstKind_v (nI k) (nI 2) ts now rl tt ba n), X0_learn_c64 now (X0_addRow_c60 k kd (X0_firstKind_v (nI k) (nI 2) ts now rl tt ba n)) (X0_addRow_c61 k (X0_firstKind_p59_2 (nI k) (nI 2) ts now rl tt ba n) sgn (X0_firstKind_v (nI k) (nI 2) ts now rl tt ba n)) (X0_addRow_c63 k tri (X0_firstKind_c66 (nI k) (nI 2) ts now rl tt ba n) (X0_firstKind_v (nI k) (nI 2) ts now rl tt ba n)) k, X0_firstKind_c65 (nI k) (nI 2) ts now rl tt ba n, X0_firstKind_c66 (nI k) (nI 2) ts now rl tt ba n) := by
          unfold X0_follow_L16_F
          rw [if_neg q1, if_pos c0, h59]
        have hl := learn_step hn (q5 k (by omega)) hN hS
        have hBn : X7_deduce_L30_B n brs bm k (sx, cms, cmT, cmS, nI 3, k, sg, rk, rf, rt, rs) = none := by
          unfold X7_deduce_L30_B
          rw [if_pos rfl, if_neg q2, if_pos (q6'.trans c0)]
          exact ite_same _
        have hF : X7_deduce_L30_F n brs bm k (sx, cms, cmT, cmS, nI 3, k, sg, rk, rf, rt, rs) = (X7_follows_c101 n brs k cms cmT cmS bm sg rk rt rs rf sx, X7_follows_p76_13 n brs k cms cmT cmS bm sg rk rt rs rf sx, X7_follows_p76_14 n brs k cms cmT cmS bm sg rk rt rs rf sx, X7_follows_p76_15 n brs k cms cmT cmS bm sg rk rt rs rf sx, (if k + 1 = 60 then nI 2 else nI 3), k + 1, X7_follows_c96 n brs k cms cmT cmS bm sg rk rt rs rf sx, X7_follows_c97 n brs k cms cmT cmS bm sg rk rt rs rf sx, X7_follows_c98 n brs k cms cmT cmS bm sg rk rt rs rf sx, X7_follows_c99 n brs k cms cmT cmS bm sg rk rt rs rf sx, X7_follows_c100 n brs k cms cmT cmS bm sg rk rt rs rf sx) := by
          unfold X7_deduce_L30_F
          rw [if_pos rfl, if_neg q2, if_pos (q6'.trans c0)]
          show (if nI (X7_follows_p76_12 n brs k cms cmT cmS bm sg rk rt rs rf sx) = nI 60 then _ else _) = _
          rw [q4]
          by_cases c60 : k + 1 = 60
          · rw [if_pos (by rw [c60]), if_pos c60]
          · rw [if_neg (fun u => c60 ((nI_eq (by omega) (by decide)).mp u)), if_neg c60]
        have step := ih (k + 1) (X0_firstKind_p59_2 (nI k) (nI 2) ts now rl tt ba n) _ _ _ _ (X0_learn_c64 now (X0_addRow_c60 k kd (X0_firstKind_v (nI k) (nI 2) ts now rl tt ba n)) (X0_addRow_c61 k (X0_firstKind_p59_2 (nI k) (nI 2) ts now rl tt ba n) sgn (X0_firstKind_v (nI k) (nI 2) ts now rl tt ba n)) (X0_addRow_c63 k tri (X0_firstKind_c66 (nI k) (nI 2) ts now rl tt ba n) (X0_firstKind_v (nI k) (nI 2) ts now rl tt ba n)) k) (X0_firstKind_c65 (nI k) (nI 2) ts now rl tt ba n) (X0_firstKind_c66 (nI k) (nI 2) ts now rl tt ba n) (X7_follows_c101 n brs k cms cmT cmS bm sg rk rt rs rf sx) (X7_follows_p76_13 n brs k cms cmT cmS bm sg rk rt rs rf sx) (X7_follows_p76_14 n brs k cms cmT cmS bm sg rk rt rs rf sx) (X7_follows_p76_15 n brs k cms cmT cmS bm sg rk rt rs rf sx) (if k + 1 = 60 then nI 2 else nI 3) (X7_follows_c96 n brs k cms cmT cmS bm sg rk rt rs rf sx) _ _ _ _ (by omega) (fun h => ⟨if_neg (by omega), by rw [q7]; exact hl.1, by rw [q7]; exact hl.2⟩) (fun h => if_pos h) hcm2 q5
        have e1 : zfoldB (X7_deduce_L30_B n brs bm) (X7_deduce_L30_F n brs bm) (d + 1 + 1) k (sx, cms, cmT, cmS, nI 3, k, sg, rk, rf, rt, rs) = zfoldB (X7_deduce_L30_B n brs bm) (X7_deduce_L30_F n brs bm) (d + 1) (k + 1) (X7_deduce_L30_F n brs bm k (sx, cms, cmT, cmS, nI 3, k, sg, rk, rf, rt, rs)) := by
          rw [zfoldB, hBn]
        have e2 : zfoldX (X0_follow_L16_B ba n) (X0_follow_L16_F ba n) (d + 1) k (k, nI 2, ts, kd, sgn, rel, tri, now, rl, tt) = zfoldX (X0_follow_L16_B ba n) (X0_follow_L16_F ba n) d (k + 1) (X0_follow_L16_F ba n k (k, nI 2, ts, kd, sgn, rel, tri, now, rl, tt)) := by
          rw [zfoldX, hBX]
        rw [e1, e2, hF, hFX]
        exact step
      · have hX : X0_follow_L16_B ba n k (k, nI 2, ts, kd, sgn, rel, tri, now, rl, tt) = some (k + 1, nI 0, X0_firstKind_p59_2 (nI k) (nI 2) ts now rl tt ba n, X0_addRow_c60 k kd (X0_firstKind_v (nI k) (nI 2) ts now rl tt ba n), X0_addRow_c61 k (X0_firstKind_p59_2 (nI k) (nI 2) ts now rl tt ba n) sgn (X0_firstKind_v (nI k) (nI 2) ts now rl tt ba n), X0_addRow_c62 k rel (X0_firstKind_c65 (nI k) (nI 2) ts now rl tt ba n) (X0_firstKind_v (nI k) (nI 2) ts now rl tt ba n), X0_addRow_c63 k tri (X0_firstKind_c66 (nI k) (nI 2) ts now rl tt ba n) (X0_firstKind_v (nI k) (nI 2) ts now rl tt ba n), now, X0_firstKind_c65 (nI k) (nI 2) ts now rl tt ba n, X0_firstKind_c66 (nI k) (nI 2) ts now rl tt ba n) := by
          unfold X0_follow_L16_B
          rw [if_neg q1, if_neg c0, h59]
        have hF : X7_deduce_L30_F n brs bm k (sx, cms, cmT, cmS, nI 3, k, sg, rk, rf, rt, rs) = (X7_follows_c101 n brs k cms cmT cmS bm sg rk rt rs rf sx, X7_follows_p76_13 n brs k cms cmT cmS bm sg rk rt rs rf sx, X7_follows_p76_14 n brs k cms cmT cmS bm sg rk rt rs rf sx, X7_follows_p76_15 n brs k cms cmT cmS bm sg rk rt rs rf sx, nI 0, X7_follows_p76_12 n brs k cms cmT cmS bm sg rk rt rs rf sx, X7_follows_c96 n brs k cms cmT cmS bm sg rk rt rs rf sx, X7_follows_c97 n brs k cms cmT cmS bm sg rk rt rs rf sx, X7_follows_c98 n brs k cms cmT cmS bm sg rk rt rs rf sx, X7_follows_c99 n brs k cms cmT cmS bm sg rk rt rs rf sx, X7_follows_c100 n brs k cms cmT cmS bm sg rk rt rs rf sx) := by
          unfold X7_deduce_L30_F
          rw [if_pos rfl, if_neg q2, if_neg (fun u => c0 (q6'.symm.trans u))]
        have hBn : X7_deduce_L30_B n brs bm k (sx, cms, cmT, cmS, nI 3, k, sg, rk, rf, rt, rs) = none := by
          unfold X7_deduce_L30_B
          rw [if_pos rfl, if_neg q2, if_neg (fun u => c0 (q6'.symm.trans u))]
        have hz := stop (nI 0) _ (by decide) rfl hF hBn
        rw [q4] at hz
        have hx := zfoldX_hit (F := X0_follow_L16_F ba n) (d := d) hX
        refine ⟨_, hz, ?_⟩
        rw [hx]
        exact ⟨rfl, rfl, rfl, by show k + 1 ≤ 60; omega, hcm2, q5⟩
end PF6
