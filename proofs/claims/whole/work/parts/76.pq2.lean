/-! ===== certificate and proof: alike in both ===== -/
section PQ2
variable {n m brs : Nat} {kd sgn rel tri rk rs rf rt ba bm : Nat → Int32}
theorem recall_rel (hn : n ≤ 10) {rl : Nat → Int32} {k : Nat} (h : RW1 n kd sgn rel tri rk rs rf rt k) : ∃ f, REL n (X0_recall_c65 rel rl k) f ∧ ∀ j, j < 5 → (rf (5 * k + j)).toNatClampNeg = f j := by
  obtain ⟨r1, r2, r3, ⟨f, r4, r5⟩, r6, r7⟩ := h
  refine ⟨f, ⟨fun j hj => ⟨(r4 j hj).1, ?_⟩, r5⟩, fun j hj => ?_⟩
  · unfold X0_recall_c65
    rw [pk_cpy_in (by omega) (by omega), show 5 * k + (j - 0) = 5 * k + j by omega]
    exact (r4 j hj).2.1
  · rw [(r4 j hj).2.2]
    exact pk_cl _ rfl (by have := (r4 j hj).1; omega)
theorem term_same {x y : Int32} (hx : sgIn x) (hy : sgIn y) {t : Nat} (ht : t < 3) (L : Nat → Int32) (h1 : L (2 * t) = x) (h2 : L (2 * t + 1) = y) : (if cvJ x = -4 then (-4 : Int32) else if cvJ y = -4 then -4 else (ttI t * cvJ x) * cvJ y) = if x = nI 9 then -4 else if y = nI 9 then -4 else X7_term_v L t := by
  have e : X7_term_v L t = if t = 1 then (-x) * y else x * y := by
    unfold X7_term_v
    rcases (show t = 0 ∨ t = 1 ∨ t = 2 by omega) with rfl | rfl | rfl
    · rw [if_neg (by decide), if_neg (by decide), h1, h2]
    · rw [if_pos rfl, if_pos rfl, show (2 : Nat) = 2 * 1 from rfl, h1, show (3 : Nat) = 2 * 1 + 1 from rfl, h2]
    · rw [if_neg (by decide), if_neg (by decide), h1, h2]
  rw [e]
  unfold ttI
  rcases (show t = 0 ∨ t = 1 ∨ t = 2 by omega) with rfl | rfl | rfl <;> rcases hx with h | h | h | h <;> rcases hy with g | g | g | g <;> (subst h; subst g; decide)
theorem cert_same (hn : n ≤ 10) (hm : m ≤ 60) {lns ors : Nat} {fl ori lm om os now sg rl sx : Nat → Int32} (hT : TLD n lns ors fl ori lm om os) (hR : RWS n kd sgn rel tri rk rs rf rt m) (i w : Int32) : X6_certificate_v m kd sgn rel tri fl ori now rl i w = X7_certificate_v n lns ors m lm om os sg rk rt rs rf sx i w := by
  unfold X6_certificate_v X7_certificate_v
  by_cases c1 : i < 0
  · rw [if_pos c1, if_pos (show X7_isIn_v i (nI 0) (nI 2) = 0 from isIn_b.mpr (Or.inl c1))]
  · by_cases c2 : nI 2 < i
    · rw [if_neg c1, if_pos c2, if_pos (show X7_isIn_v i (nI 0) (nI 2) = 0 from isIn_b.mpr (Or.inr c2))]
    · have hi0 : ¬ X7_isIn_v i (nI 0) (nI 2) = 0 := fun q => by
        rcases isIn_b.mp q with q | q
        · exact c1 q
        · exact c2 q
      rw [if_neg c1, if_neg c2, if_neg hi0]
      by_cases c3 : w < 0
      · rw [if_pos c3, if_pos (show X7_isIn_v w (nI 0) (nI 2) = 0 from isIn_b.mpr (Or.inl c3))]
      · by_cases c4 : w ≤ nI 2
        · have hw0 : ¬ X7_isIn_v w (nI 0) (nI 2) = 0 := fun q => by
            rcases isIn_b.mp q with q | q
            · exact c3 q
            · exact absurd c4 (Int32.not_le.mpr q)
          rw [if_neg c3, if_pos c4, if_neg hw0]
          by_cases c5 : m = 0
          · rw [if_pos (show nI m = 0 by rw [c5]; rfl), if_pos (show nI m = 0 by rw [c5]; rfl)]
          · have hm0 : ¬ nI m = 0 := fun q => c5 ((nI_eq (b := 0) (by omega) (by decide)).mp q)
            rw [if_neg hm0, if_neg hm0]
            have li := zvlt (isIn_k (n := 2) hi0 (by decide))
            have lw := zvlt (isIn_k (n := 2) hw0 (by decide))
            generalize i.toNatClampNeg = t at li ⊢
            generalize w.toNatClampNeg = s at lw ⊢
            obtain ⟨t1, t2⟩ := tables (now := now) (sg := sg) hn hT m hR
            obtain ⟨f, hf, hj⟩ := recall_rel (rl := rl) hn (hR (m - 1) (by omega))
            have j0 := hj 0 (by decide)
            have j1 := hj 1 (by decide)
            have j2 := hj 2 (by decide)
            have j3 := hj 3 (by decide)
            have j4 := hj 4 (by decide)
            rw [Nat.add_zero] at j0
            rw [j0, j1, j2, j3, j4]
            obtain ⟨s1, s2⟩ := six_same (sx := sx) hn t1 t2 hf
            unfold X0_lastTerm_v
            rw [s2 t 0 li (by decide), s2 t 1 li (by decide), Nat.add_zero]
            by_cases c6 : s = 2
            · subst c6
              rw [if_pos (show nI 2 ≤ nI 2 by decide), if_pos (show nI 2 ≤ nI 2 by decide)]
              exact term_same (s1 _ (by omega)) (s1 _ (by omega)) li _ rfl rfl
            · rw [if_neg (show ¬ nI 2 ≤ nI s from nI_ge (by omega) (by decide)), if_neg (show ¬ nI 2 ≤ nI s from nI_ge (by omega) (by decide)), s2 t s li (by omega)]
              rfl
        · rw [if_neg c3, if_neg c4, if_pos (show X7_isIn_v w (nI 0) (nI 2) = 0 from isIn_b.mpr (Or.inr (Int32.not_le.mp c4)))]
theorem tells_iff {ts : Int32} {tt : Nat → Int32} {k : Nat} : ¬ X0_tellsSame_v ts sgn tri tt k = 0 ↔ (tri (3 * k) = tt 0 ∧ tri (3 * k + 1) = tt 1 ∧ tri (3 * k + 2) = tt 2) ∧ sgn k = ts := by
  unfold X0_tellsSame_v
  simp only [zfoldB, X0_tellsSame_L2_B, X0_tellsSame_L2_F, Nat.add_zero]
  by_cases c0 : tri (3 * k) = tt 0
  · by_cases c1 : tri (3 * k + 1) = tt 1
    · by_cases c2 : tri (3 * k + 2) = tt 2
      · by_cases c3 : sgn k = ts
        · simp [c0, c1, c2, c3, zpick, show ¬ nI 1 = 0 from by decide]
        · simp [c0, c1, c2, c3, zpick, show nI 0 = 0 from rfl]
      · simp [c0, c1, c2, zpick, show nI 0 = 0 from rfl]
    · simp [c0, c1, zpick, show nI 0 = 0 from rfl]
  · simp [c0, zpick, show nI 0 = 0 from rfl]
/-- what a row must be, by the class and by the reference -/
theorem pstep (hn : n ≤ 10) {now sg sx rl tt : Nat → Int32} {rows outc ts cms cmS : Int32} {cmT k : Nat} (hB : BAR n brs ba bm) (hN : NS3 n now (SGE sg)) (hS : SGI n sg) (h : RW1 n kd sgn rel tri rk rs rf rt k) (hcm : cmT < 1000) :
    ((X0_judge_v rows outc ts now (X0_recall_c65 rel rl k) tt ba = kd k ∧ (kd k = nI 1 ∨ ¬ X0_tellsSame_v (X0_judge_p59_2 rows outc ts now (X0_recall_c65 rel rl k) tt ba) sgn tri (X0_judge_c66 rows outc ts now (X0_recall_c65 rel rl k) tt ba) k = 0)) ↔ (X7_proof_L14_F brs bm rk rt rs rf k (nI 1, sx, cms, cmT, cmS, sg)).1 = nI 1) ∧
    ((X7_proof_L14_F brs bm rk rt rs rf k (nI 1, sx, cms, cmT, cmS, sg)).1 = nI 0 ∨ (X7_proof_L14_F brs bm rk rt rs rf k (nI 1, sx, cms, cmT, cmS, sg)).1 = nI 1) ∧ X7_proof_L14_B brs bm rk rt rs rf k (nI 1, sx, cms, cmT, cmS, sg) = none ∧ (X7_proof_L14_F brs bm rk rt rs rf k (nI 1, sx, cms, cmT, cmS, sg)).2.2.2.2.2 = X7_layRow_c96 sg rk rt rs k ∧ (X7_proof_L14_F brs bm rk rt rs rf k (nI 1, sx, cms, cmT, cmS, sg)).2.2.2.1 < 1000 := by
  obtain ⟨f, hf, hj⟩ := recall_rel (rl := rl) hn h
  have j0 := hj 0 (by decide)
  have j1 := hj 1 (by decide)
  have j2 := hj 2 (by decide)
  have j3 := hj 3 (by decide)
  have j4 := hj 4 (by decide)
  rw [Nat.add_zero] at j0
  have q := judge_work (sx := sx) (tt := tt) (ba := ba) (rows := rows) (outc := outc) (ts := ts) (cmS := cmS) (cmT := cmT) hn hN hS hf
  have b0 := (hf.1 0 (by decide)).1
  have b1 := (hf.1 1 (by decide)).1
  have b2 := (hf.1 2 (by decide)).1
  have b3 := (hf.1 3 (by decide)).1
  have b4 := (hf.1 4 (by decide)).1
  have hlt : X7_work_p76_14 cmT sg sx (f 0) (f 1) (f 2) (f 3) (f 4) < 1000 := work_lt hcm (by omega) (by omega) (by omega) (by omega) (by omega)
  obtain ⟨r1, r2, r3, -, r6, r7⟩ := h
  have n1 : ¬ (nI 1 : Int32) = 0 := by decide
  unfold X7_proof_L14_F X7_proof_L14_B
  simp only [if_neg n1, j0, j1, j2, j3, j4]
  generalize X7_work_p76_14 cmT sg sx (f 0) (f 1) (f 2) (f 3) (f 4) = T at q hlt ⊢
  generalize X7_work_p76_15 cmS sg sx (f 0) (f 1) (f 2) (f 3) (f 4) = Sg at q ⊢
  generalize X7_work_p76_13 sg sx (f 0) (f 1) (f 2) (f 3) (f 4) = w at q ⊢
  generalize X0_judge_v rows outc ts now (X0_recall_c65 rel rl k) tt ba = J at q ⊢
  generalize X0_judge_p59_2 rows outc ts now (X0_recall_c65 rel rl k) tt ba = P at q ⊢
  generalize X0_judge_c66 rows outc ts now (X0_recall_c65 rel rl k) tt ba = U at q ⊢
  generalize X7_work_c101 sg sx (f 0) (f 1) (f 2) (f 3) (f 4) = V
  have n01 : ¬ (nI 0 : Int32) = nI 1 := by decide
  rcases q with q | q | q
  · obtain ⟨rfl, rfl, -, -⟩ := q
    rw [if_pos (show nI 0 = 0 from rfl), if_pos (show nI 0 = 0 from rfl)]
    refine ⟨⟨fun z => ?_, fun z => absurd z n01⟩, Or.inl rfl, rfl, rfl, hlt⟩
    have e := z.1
    rcases r3.2 with u | u | u <;> (rw [u] at e; exact absurd e (by decide))
  · obtain ⟨rfl, rfl, -, -⟩ := q
    have hk : X7_kindThen_n brs (nI 1) T Sg bm = 1 := if_pos rfl
    rw [if_neg n1, if_neg n1, hk, ← r1]
    by_cases c : nI 1 = kd k
    · rw [if_pos c, if_pos c, if_pos rfl, if_pos rfl]
      exact ⟨⟨fun _ => rfl, fun _ => ⟨c, Or.inl c.symm⟩⟩, Or.inr rfl, rfl, rfl, hlt⟩
    · rw [if_neg c, if_neg c]
      exact ⟨⟨fun z => absurd z.1 c, fun z => absurd z n01⟩, Or.inl rfl, rfl, rfl, hlt⟩
  · obtain ⟨rfl, x, y, z, v, o1, o2, o3, o4, o5, o6, o7, o8, o9, o10, o11, o12⟩ := q
    have n2 : ¬ nI 2 = 0 := by decide
    have n21 : ¬ (nI 2 : Int32) = nI 1 := by decide
    subst o6
    subst o5
    have hk : nI (X7_kindThen_n brs (nI 2) (100 * x + 10 * y + z) Sg bm) = J := by
      unfold X7_kindThen_n
      rw [if_neg n21, o11, o12]
      by_cases cv : Sg = 0
      · rw [if_pos cv, if_pos cv]
        by_cases cb : ba (spN x y z) = 0
        · rw [if_pos cb, if_pos ((hB x y z o1 o2 o3).mp cb)]
        · rw [if_neg cb, if_neg (fun u => cb ((hB x y z o1 o2 o3).mpr u))]
      · rw [if_neg cv, if_neg cv]
    have nJ : ¬ J = nI 1 := by
      rw [o12]
      repeat' split
      all_goals decide
    rw [if_neg n2, if_neg n2, hk, if_neg n21, if_neg n21, ← r1, ← r2]
    by_cases c : J = kd k
    · rw [if_pos c, if_pos c]
      have nk : ¬ kd k = nI 1 := by rw [← c]; exact nJ
      obtain ⟨x', y', z', g1, g2, g3, g4, g5, g6, g7⟩ := r7 nk
      have tl := tells_iff (sgn := sgn) (tri := tri) (ts := P) (tt := U) (k := k)
      rw [g4, g5, g6, o8, o9, o10] at tl
      by_cases d1 : nI (100 * x + 10 * y + z) = rt k
      · rw [if_pos d1, if_pos d1]
        have d2 : 100 * x + 10 * y + z = 100 * x' + 10 * y' + z' := (nI_eq (by omega) (by omega)).mp (d1.trans g7)
        have dx : x = x' := by omega
        subst dx
        have dy : y = y' := by omega
        subst dy
        have dz : z = z' := by omega
        subst dz
        by_cases d3 : Sg = sgn k
        · rw [if_pos d3, if_pos d3]
          exact ⟨⟨fun _ => rfl, fun _ => ⟨c, Or.inr (tl.mpr ⟨⟨rfl, rfl, rfl⟩, d3.symm.trans o7.symm⟩)⟩⟩, Or.inr rfl, rfl, rfl, hlt⟩
        · rw [if_neg d3, if_neg d3]
          refine ⟨⟨fun w => ?_, fun w => absurd w n01⟩, Or.inl rfl, rfl, rfl, hlt⟩
          rcases w.2 with u | u
          · exact absurd u nk
          · exact absurd (o7.symm.trans (tl.mp u).2.symm) d3
      · rw [if_neg d1, if_neg d1]
        refine ⟨⟨fun w => ?_, fun w => absurd w n01⟩, Or.inl rfl, rfl, rfl, hlt⟩
        rcases w.2 with u | u
        · exact absurd u nk
        · obtain ⟨⟨u1, u2, u3⟩, -⟩ := tl.mp u
          have e1 : x' = x := (nI_eq (by omega) (by omega)).mp u1
          have e2 : y' = y := (nI_eq (by omega) (by omega)).mp u2
          have e3 : z' = z := (nI_eq (by omega) (by omega)).mp u3
          exact absurd (by rw [g7, e1, e2, e3]) d1
    · rw [if_neg c, if_neg c]
      exact ⟨⟨fun w => absurd w.1 c, fun w => absurd w n01⟩, Or.inl rfl, rfl, rfl, hlt⟩
theorem psim (hn : n ≤ 10) (hB : BAR n brs ba bm) (hR : RWS n kd sgn rel tri rk rs rf rt m) {outc : Int32} : ∀ (d k : Nat) (now rl tt sx sg : Nat → Int32) (ts cms cmS : Int32) (cmT : Nat), k + d = m → NS3 n now (SGE sg) → SGI n sg → cmT < 1000 →
    zpick (zfoldB (X0_allFollow_L7_B m outc kd sgn rel tri ba) (X0_allFollow_L7_F m outc kd sgn rel tri ba) d k (now, rl, ts, tt)) (fun b => b.1) (fun _ => nI 1) = (zfoldX (X7_proof_L14_B brs bm rk rt rs rf) (X7_proof_L14_F brs bm rk rt rs rf) d k (nI 1, sx, cms, cmT, cmS, sg)).2.1 ∧
    (zfoldX (X7_proof_L14_B brs bm rk rt rs rf) (X7_proof_L14_F brs bm rk rt rs rf) d k (nI 1, sx, cms, cmT, cmS, sg)).2.2.2.2.1 < 1000 := by
  intro d
  induction d with
  | zero =>
    intro k now rl tt sx sg ts cms cmS cmT hk hN hS hcm
    exact ⟨rfl, hcm⟩
  | succ d ih =>
    intro k now rl tt sx sg ts cms cmS cmT hk hN hS hcm
    obtain ⟨p1, p2, p3, p4, p5⟩ := pstep (brs := brs) (bm := bm) (ba := ba) (rows := nI m) (outc := outc) (ts := ts) (rl := rl) (tt := tt) (sx := sx) (cms := cms) (cmS := cmS) hn hB hN hS (hR k (by omega)) hcm
    have e2 : zfoldX (X7_proof_L14_B brs bm rk rt rs rf) (X7_proof_L14_F brs bm rk rt rs rf) (d + 1) k (nI 1, sx, cms, cmT, cmS, sg) = zfoldX (X7_proof_L14_B brs bm rk rt rs rf) (X7_proof_L14_F brs bm rk rt rs rf) d (k + 1) (X7_proof_L14_F brs bm rk rt rs rf k (nI 1, sx, cms, cmT, cmS, sg)) := by
      rw [zfoldX, p3]
    rw [e2]
    rcases p2 with z0 | z1
    · -- no
      have hno : ¬ (X0_judge_v (nI m) outc ts now (X0_recall_c65 rel rl k) tt ba = kd k ∧ (kd k = nI 1 ∨ ¬ X0_tellsSame_v (X0_judge_p59_2 (nI m) outc ts now (X0_recall_c65 rel rl k) tt ba) sgn tri (X0_judge_c66 (nI m) outc ts now (X0_recall_c65 rel rl k) tt ba) k = 0)) := fun q => by
        have := p1.mp q
        rw [z0] at this
        exact absurd this (by decide)
      have hb1 : X0_allFollow_L7_B m outc kd sgn rel tri ba k (now, rl, ts, tt) = some (nI 0, X0_judge_p59_2 (nI m) outc ts now (X0_recall_c65 rel rl k) tt ba, now, X0_recall_c65 rel rl k, X0_judge_c66 (nI m) outc ts now (X0_recall_c65 rel rl k) tt ba) := by
        unfold X0_allFollow_L7_B
        by_cases c1 : X0_judge_v (nI m) outc ts now (X0_recall_c65 rel rl k) tt ba = kd k
        · have c2 : ¬ kd k = nI 1 := fun q => hno ⟨c1, Or.inl q⟩
          have c3 : X0_tellsSame_v (X0_judge_p59_2 (nI m) outc ts now (X0_recall_c65 rel rl k) tt ba) sgn tri (X0_judge_c66 (nI m) outc ts now (X0_recall_c65 rel rl k) tt ba) k = 0 := Classical.byContradiction (fun q => hno ⟨c1, Or.inr q⟩)
          rw [if_pos c1, if_neg c2, if_pos c3]
        · rw [if_neg c1]
      have e1 : zpick (zfoldB (X0_allFollow_L7_B m outc kd sgn rel tri ba) (X0_allFollow_L7_F m outc kd sgn rel tri ba) (d + 1) k (now, rl, ts, tt)) (fun b => b.1) (fun _ => nI 1) = nI 0 := by
        rw [zfoldB, hb1]
        rfl
      rw [e1]
      generalize X7_proof_L14_F brs bm rk rt rs rf k (nI 1, sx, cms, cmT, cmS, sg) = w at z0 p5 ⊢
      cases d with
      | zero => exact ⟨z0.symm, p5⟩
      | succ d =>
        have hB9 : X7_proof_L14_B brs bm rk rt rs rf (k + 1) w = some w := by
          unfold X7_proof_L14_B
          rw [if_pos (show w.1 = 0 from z0)]
        rw [zfoldX_hit hB9]
        exact ⟨z0.symm, p5⟩
    · have hyes := p1.mpr z1
      have hBn : X0_allFollow_L7_B m outc kd sgn rel tri ba k (now, rl, ts, tt) = none := by
        unfold X0_allFollow_L7_B
        rw [if_pos hyes.1]
        rcases hyes.2 with c | c
        · rw [if_pos c]
        · by_cases c9 : kd k = nI 1
          · rw [if_pos c9]
          · rw [if_neg c9, if_neg c]
      have hFn : X0_allFollow_L7_F m outc kd sgn rel tri ba k (now, rl, ts, tt) = (X0_learn_c64 now kd sgn tri k, X0_recall_c65 rel rl k, X0_judge_p59_2 (nI m) outc ts now (X0_recall_c65 rel rl k) tt ba, X0_judge_c66 (nI m) outc ts now (X0_recall_c65 rel rl k) tt ba) := by
        unfold X0_allFollow_L7_F
        rw [if_pos hyes.1]
        rcases hyes.2 with c | c
        · rw [if_pos c]
        · by_cases c9 : kd k = nI 1
          · rw [if_pos c9]
          · rw [if_neg c9, if_neg c]
      have hl := learn_step hn (hR k (by omega)) hN hS
      have e1 : zfoldB (X0_allFollow_L7_B m outc kd sgn rel tri ba) (X0_allFollow_L7_F m outc kd sgn rel tri ba) (d + 1) k (now, rl, ts, tt) = zfoldB (X0_allFollow_L7_B m outc kd sgn rel tri ba) (X0_allFollow_L7_F m outc kd sgn rel tri ba) d (k + 1) (X0_allFollow_L7_F m outc kd sgn rel tri ba k (now, rl, ts, tt)) := by
        rw [zfoldB, hBn]
      rw [e1, hFn]
      generalize hw : X7_proof_L14_F brs bm rk rt rs rf k (nI 1, sx, cms, cmT, cmS, sg) = w at z1 p4 p5 ⊢
      obtain ⟨w1, w2, w3, w4, w5, w6⟩ := w
      have z1' : w1 = nI 1 := z1
      have p4' : w6 = X7_layRow_c96 sg rk rt rs k := p4
      subst z1'
      subst p4'
      exact ih (k + 1) _ _ _ _ _ _ _ _ _ (by omega) hl.1 hl.2 p5
theorem proof_same (hn : n ≤ 10) (hB : BAR n brs ba bm) {lns ors : Nat} {fl ori lm om os now sg rl tt sx : Nat → Int32} {outc ts cms cmS : Int32} {cmT : Nat} (hT : TLD n lns ors fl ori lm om os) (hR : RWS n kd sgn rel tri rk rs rf rt m) (hcm : cmT < 1000) : X6_proof_n m outc ts kd sgn rel tri fl ba ori now rl tt = X7_proof_n n lns brs ors m cms cmT cmS lm bm om os sg rk rt rs rf sx := by
  obtain ⟨t1, t2⟩ := tables (kd := kd) (sgn := sgn) (rel := rel) (tri := tri) (rk := rk) (rs := rs) (rf := rf) (rt := rt) (now := now) (sg := sg) hn hT 0 (fun i hi => absurd hi (Nat.not_lt_zero i))
  have q := (psim (outc := outc) hn hB hR m 0 _ rl tt sx _ ts cms cmS cmT (by omega) t1 t2 hcm).1
  unfold X6_proof_n X7_proof_n X0_allFollow_v
  rw [q]
end PQ2
