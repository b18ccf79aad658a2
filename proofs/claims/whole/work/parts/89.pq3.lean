/-! ===== deduce in both ===== -/
theorem deduce_same {n lns brs ors m : Nat} (hn : n ≤ 10) {fl ba ori lm bm om os now sg kd sgn rel tri rk rs rf rt rl tt sx : Nat → Int32} {outc told ts cms cmS : Int32} {cmT : Nat} (hB : BAR n brs ba bm) (hT : TLD n lns ors fl ori lm om os) (hR : RWS n kd sgn rel tri rk rs rf rt m) (hm : m ≤ 60) (hcm : cmT < 1000) (hout : outc = told) :
    X6_deduce_v n lns ts kd sgn rel tri fl ba ori now rl tt = X7_deduce_v n lns brs ors cms cmT cmS lm bm om os sg rk rt rs rf sx ∧
    X6_deduce_p59_0 n lns m ts kd sgn rel tri fl ba ori now rl tt = X7_deduce_p76_12 n lns brs ors m cms cmT cmS lm bm om os sg rk rt rs rf sx ∧
    X6_deduce_p59_1 n lns outc ts kd sgn rel tri fl ba ori now rl tt = X7_deduce_p76_11 n lns brs ors told cms cmT cmS lm bm om os sg rk rt rs rf sx ∧
    X7_deduce_p76_12 n lns brs ors m cms cmT cmS lm bm om os sg rk rt rs rf sx ≤ 60 ∧ X7_deduce_p76_14 n lns brs ors cms cmT cmS lm bm om os sg rk rt rs rf sx < 1000 ∧
    RWS n (X6_deduce_c60 n lns ts kd sgn rel tri fl ba ori now rl tt) (X6_deduce_c61 n lns ts kd sgn rel tri fl ba ori now rl tt) (X6_deduce_c62 n lns ts kd sgn rel tri fl ba ori now rl tt) (X6_deduce_c63 n lns ts kd sgn rel tri fl ba ori now rl tt)
      (X7_deduce_c97 n lns brs ors cms cmT cmS lm bm om os sg rk rt rs rf sx) (X7_deduce_c100 n lns brs ors cms cmT cmS lm bm om os sg rk rt rs rf sx) (X7_deduce_c98 n lns brs ors cms cmT cmS lm bm om os sg rk rt rs rf sx) (X7_deduce_c99 n lns brs ors cms cmT cmS lm bm om os sg rk rt rs rf sx) (X7_deduce_p76_12 n lns brs ors m cms cmT cmS lm bm om os sg rk rt rs rf sx) := by
  unfold X6_deduce_v X6_deduce_p59_0 X6_deduce_p59_1 X6_deduce_c60 X6_deduce_c61 X6_deduce_c62 X6_deduce_c63 X7_deduce_v X7_deduce_p76_12 X7_deduce_p76_11 X7_deduce_p76_14 X7_deduce_c97 X7_deduce_c100 X7_deduce_c98 X7_deduce_c99
  by_cases c : nI lns = 0
  · simp only [if_pos c]
    exact ⟨trivial, trivial, hout, hm, hcm, hR⟩
  · simp only [if_neg c]
    obtain ⟨t1, t2⟩ := tables (kd := kd) (sgn := sgn) (rel := rel) (tri := tri) (rk := rk) (rs := rs) (rf := rf) (rt := rt) (now := now) (sg := sg) hn hT 0 (fun i hi => absurd hi (Nat.not_lt_zero i))
    obtain ⟨b, e, w1, w2, w3, w4, w5, w6⟩ := sim hn hB 60 0 ts kd sgn rel tri _ rl tt sx cms cmT cmS (nI 3) _ rk rf rt rs (by omega) (fun _ => ⟨rfl, t1, t2⟩) (fun q => by omega) hcm (fun i hi => absurd hi (Nat.not_lt_zero i))
    have ez : ∃ z, zfoldB (X7_deduce_L30_B n brs bm) (X7_deduce_L30_F n brs bm) 61 0 (sx, cms, cmT, cmS, nI 3, 0, X7_layTable_c96 n lns ors lm om os sg rk rt rs 0, rk, rf, rt, rs) = (some b, z) := ⟨_, Prod.ext e rfl⟩
    obtain ⟨z, ez⟩ := ez
    rw [ez]
    unfold X0_follow_v X0_follow_p59_0 X0_follow_p59_1 X0_follow_c60 X0_follow_c61 X0_follow_c62 X0_follow_c63
    simp only [zlet]
    exact ⟨w1.symm, w3.symm, (w2.trans w1).symm, w4, w5, w6⟩
