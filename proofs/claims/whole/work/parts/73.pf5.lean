/-! ===== the new row, alike in both ===== -/
theorem RW1_ext {n i : Nat} {kd sgn rel tri rk rs rf rt kd' sgn' rel' tri' rk' rs' rf' rt' : Nat → Int32} (h : RW1 n kd sgn rel tri rk rs rf rt i) (h1 : kd' i = kd i) (h2 : sgn' i = sgn i) (h3 : ∀ j, j < 5 → rel' (5 * i + j) = rel (5 * i + j)) (h4 : ∀ j, j < 3 → tri' (3 * i + j) = tri (3 * i + j)) (k1 : rk' i = rk i) (k2 : rs' i = rs i) (k3 : ∀ j, j < 5 → rf' (5 * i + j) = rf (5 * i + j)) (k4 : rt' i = rt i) : RW1 n kd' sgn' rel' tri' rk' rs' rf' rt' i := by
  obtain ⟨r1, r2, r3, ⟨f, r4, r5⟩, r6, r7⟩ := h
  refine ⟨by rw [h1, k1]; exact r1, by rw [h2, k2]; exact r2, ⟨by rw [h2]; exact r3.1, by rw [h1]; exact r3.2⟩, ⟨f, fun j hj => ⟨(r4 j hj).1, by rw [h3 j hj]; exact (r4 j hj).2.1, by rw [k3 j hj]; exact (r4 j hj).2.2⟩, r5⟩, fun c j hj => ?_, fun c => ?_⟩
  · rw [h4 j hj]
    exact r6 (by rw [← h1]; exact c) j hj
  · obtain ⟨x, y, z, g1, g2, g3, g4, g5, g6, g7⟩ := r7 (by rw [← h1]; exact c)
    exact ⟨x, y, z, g1, g2, g3, by have := h4 0 (by decide); rw [Nat.add_zero] at this; rw [this]; exact g4, by rw [h4 1 (by decide)]; exact g5, by rw [h4 2 (by decide)]; exact g6, by rw [k4]; exact g7⟩
/-- a triple is barred in both, or in none -/
def BAR (n brs : Nat) (ba bm : Nat → Int32) : Prop := ∀ x y z, x < y → y < z → z < n → (ba (spN x y z) = 0 ↔ X7_barAt_v brs bm (X7_maskOf_v (nI x) (nI y) (nI z)) = -4)
theorem add63 {m : Nat} {tt tri : Nat → Int32} (i : Nat) : zfold (X0_addRow_L63_F m tt) 3 0 tri i = if i = 3 * m then tt 0 else if i = 3 * m + 1 then tt 1 else if i = 3 * m + 2 then tt 2 else tri i := by
  show upd (upd (upd tri (3 * m + 0) (tt 0)) (3 * m + 1) (tt 1)) (3 * m + 2) (tt 2) i = _
  simp only [upd]
  by_cases c1 : i = 3 * m
  · rw [if_neg (by omega), if_neg (by omega), if_pos (by omega), if_pos c1]
  · by_cases c2 : i = 3 * m + 1
    · rw [if_neg (by omega), if_pos c2, if_neg c1, if_pos c2]
    · by_cases c3 : i = 3 * m + 2
      · rw [if_pos c3, if_neg c1, if_neg c2, if_pos c3]
      · rw [if_neg c3, if_neg c2, if_neg (by omega), if_neg c1, if_neg c2, if_neg c3]
theorem add63v {m : Nat} {tri : Nat → Int32} (i : Nat) : zfold (X0_addRow_L63v2_F m) 3 0 tri i = if i = 3 * m then -4 else if i = 3 * m + 1 then -4 else if i = 3 * m + 2 then -4 else tri i := by
  show upd (upd (upd tri (3 * m + 0) (-4)) (3 * m + 1) (-4)) (3 * m + 2) (-4) i = _
  simp only [upd]
  by_cases c1 : i = 3 * m
  · rw [if_neg (by omega), if_neg (by omega), if_pos (by omega), if_pos c1]
  · by_cases c2 : i = 3 * m + 1
    · rw [if_neg (by omega), if_pos c2, if_neg c1, if_pos c2]
    · by_cases c3 : i = 3 * m + 2
      · rw [if_pos c3, if_neg c1, if_neg c2, if_pos c3]
      · rw [if_neg c3, if_neg c2, if_neg (by omega), if_neg c1, if_neg c2, if_neg c3]
theorem mk98 {m a b c d e : Nat} {rf : Nat → Int32} {cms : Int32} (i : Nat) : X7_makeRow_c98 m cms rf a b c d e i = if 5 * m ≤ i ∧ i < 5 * m + 5 then nI (rlF a b c d e (i - 5 * m)) else rf i := by
  have key : (upd (upd (upd (upd (upd rf (5 * m) (nI a)) ((5 * m) + 1) (nI b)) ((5 * m) + 2) (nI c)) ((5 * m) + 3) (nI d)) ((5 * m) + 4) (nI e)) i = if 5 * m ≤ i ∧ i < 5 * m + 5 then nI (rlF a b c d e (i - 5 * m)) else rf i := by
    simp only [upd]
    by_cases c0 : i = 5 * m
    · subst c0
      rw [if_neg (by omega), if_neg (by omega), if_neg (by omega), if_neg (by omega), if_pos rfl, if_pos (by omega), Nat.sub_self]
      rfl
    · by_cases c1 : i = 5 * m + 1
      · rw [if_neg (by omega), if_neg (by omega), if_neg (by omega), if_pos c1, if_pos (by omega), show i - 5 * m = 1 by omega]
        rfl
      · by_cases c2 : i = 5 * m + 2
        · rw [if_neg (by omega), if_neg (by omega), if_pos c2, if_pos (by omega), show i - 5 * m = 2 by omega]
          rfl
        · by_cases c3 : i = 5 * m + 3
          · rw [if_neg (by omega), if_pos c3, if_pos (by omega), show i - 5 * m = 3 by omega]
            rfl
          · by_cases c4 : i = 5 * m + 4
            · rw [if_pos c4, if_pos (by omega), show i - 5 * m = 4 by omega]
              rfl
            · rw [if_neg c4, if_neg c3, if_neg c2, if_neg c1, if_neg c0, if_neg (by omega)]
  unfold X7_makeRow_c98
  split
  · exact key
  · exact key
theorem ite_same {α : Type} {p : Prop} [Decidable p] (x : α) : (if p then x else x) = x := by
  split <;> rfl
section PF5
variable {n m brs : Nat} {now sg ba bm kd sgn rel tri rk rs rf rt : Nat → Int32} {rows outc : Int32}
theorem row_new (hn : n ≤ 10) (hN : NS3 n now (SGE sg)) (hS : SGI n sg) (hB : BAR n brs ba bm) (hR : RWS n kd sgn rel tri rk rs rf rt m) {a b c d e : Nat} (hF : FST n sg a b c d e) {r : RC} {r' : RR} (h1 : FC n rows outc now ba a b c d e r) (h2 : FR brs m bm sg rk rt rs rf a b c d e r') :
    RWS n (X0_addRow_c60 m kd r.1) (X0_addRow_c61 m r.2.1 sgn r.1) (X0_addRow_c62 m rel r.2.2.1 r.1) (X0_addRow_c63 m tri r.2.2.2 r.1) r'.2.2.2.2.2.2.1 r'.2.2.2.2.2.2.2.2.2.1 r'.2.2.2.2.2.2.2.1 r'.2.2.2.2.2.2.2.2.1 (m + 1) ∧
    (r.1 = nI 0 ∨ r.1 = nI 1 ∨ r.1 = nI 2) ∧ r'.2.2.2.2.2.2.1 m = r.1 ∧ r'.2.2.2.2.2.1 = X7_layRow_c96 sg r'.2.2.2.2.2.2.1 r'.2.2.2.2.2.2.2.2.1 r'.2.2.2.2.2.2.2.2.2.1 m ∧ r'.1 = nI 1 ∧ r'.2.1 = m + 1 := by
  obtain ⟨hV, hP, -⟩ := hF
  obtain ⟨rl, ts, tt, rfl, hrl⟩ := h1
  obtain ⟨z, hz⟩ := h2
  have hr' : r' = (nI 1, X7_makeRow_p76_12 m (nI (X7_work_p76_13 sg z.1 a b c d e)), nI (X7_work_p76_13 sg z.1 a b c d e), X7_work_p76_14 z.2.2.1 sg z.1 a b c d e, X7_work_p76_15 z.2.2.2 sg z.1 a b c d e, X7_makeRow_c96 brs m (nI (X7_work_p76_13 sg z.1 a b c d e)) (X7_work_p76_14 z.2.2.1 sg z.1 a b c d e) (X7_work_p76_15 z.2.2.2 sg z.1 a b c d e) bm sg rk rt rs, X7_makeRow_c97 brs m (nI (X7_work_p76_13 sg z.1 a b c d e)) (X7_work_p76_14 z.2.2.1 sg z.1 a b c d e) (X7_work_p76_15 z.2.2.2 sg z.1 a b c d e) bm rk, X7_makeRow_c98 m (nI (X7_work_p76_13 sg z.1 a b c d e)) rf a b c d e, X7_makeRow_c99 m (nI (X7_work_p76_13 sg z.1 a b c d e)) (X7_work_p76_14 z.2.2.1 sg z.1 a b c d e) rt, X7_makeRow_c100 m (nI (X7_work_p76_13 sg z.1 a b c d e)) (X7_work_p76_15 z.2.2.2 sg z.1 a b c d e) rs, X7_work_c101 sg z.1 a b c d e) := by
    unfold X7_follows_L62_B at hz
    split at hz
    · cases hz
    · split at hz
      · cases hz
      · split at hz
        · cases hz
        · cases hz
          rfl
  have q := judge_work (sx := z.1) (tt := tt) (ba := ba) (rows := rows) (outc := outc) (ts := ts) (cmS := z.2.2.2) (cmT := z.2.2.1) hn hN hS (V5_rel hV hrl)
  rw [show rlF a b c d e 0 = a from rfl, show rlF a b c d e 1 = b from rfl, show rlF a b c d e 2 = c from rfl, show rlF a b c d e 3 = d from rfl, show rlF a b c d e 4 = e from rfl] at q
  have hw : X7_work_p76_13 sg z.1 a b c d e ≠ 0 := PD_iff.mpr hP
  have hREL := V5_rel hV hrl
  subst hr'
  have hold : ∀ i, i < m → ∀ (kd' sgn' rel' tri' rk' rs' rf' rt' : Nat → Int32), (∀ k, k ≠ m → kd' k = kd k) → (∀ k, k ≠ m → sgn' k = sgn k) → (∀ k, k < 5 * m → rel' k = rel k) → (∀ k, k < 3 * m → tri' k = tri k) → (∀ k, k ≠ m → rk' k = rk k) → (∀ k, k ≠ m → rs' k = rs k) → (∀ k, k < 5 * m → rf' k = rf k) → (∀ k, k ≠ m → rt' k = rt k) → RW1 n kd' sgn' rel' tri' rk' rs' rf' rt' i := fun i hi kd' sgn' rel' tri' rk' rs' rf' rt' g1 g2 g3 g4 g5 g6 g7 g8 =>
    RW1_ext (hR i hi) (g1 i (by omega)) (g2 i (by omega)) (fun j hj => g3 _ (by omega)) (fun j hj => g4 _ (by omega)) (g5 i (by omega)) (g6 i (by omega)) (fun j hj => g7 _ (by omega)) (g8 i (by omega))
  have five : ∃ f : Nat → Nat, (∀ j, j < 5 → f j < n ∧ X0_addRow_c62 m rel rl (X0_judge_v rows outc ts now rl tt ba) (5 * m + j) = nI (f j) ∧ X7_makeRow_c98 m (nI (X7_work_p76_13 sg z.1 a b c d e)) rf a b c d e (5 * m + j) = nI (f j)) ∧ ∀ j k, j < 5 → k < 5 → j ≠ k → f j ≠ f k := by
    refine ⟨rlF a b c d e, fun j hj => ⟨(hREL.1 j hj).1, ?_, ?_⟩, hREL.2⟩
    · unfold X0_addRow_c62
      rw [ite_same, pk_cpy_in (by omega) (by omega), show 0 + (5 * m + j - 5 * m) = j by omega]
      exact hrl j hj
    · rw [mk98, if_pos (by omega), show 5 * m + j - 5 * m = j by omega]
  have rel0 : ∀ k, k < 5 * m → X0_addRow_c62 m rel rl (X0_judge_v rows outc ts now rl tt ba) k = rel k := fun k hk => by
    unfold X0_addRow_c62
    rw [ite_same, pk_cpy_out (Or.inl hk)]
  have rf0 : ∀ k, k < 5 * m → X7_makeRow_c98 m (nI (X7_work_p76_13 sg z.1 a b c d e)) rf a b c d e k = rf k := fun k hk => by
    rw [mk98, if_neg (by omega)]
  have hkd : X0_addRow_c60 m kd (X0_judge_v rows outc ts now rl tt ba) = upd kd m (X0_judge_v rows outc ts now rl tt ba) := ite_same _
  have hrk : X7_makeRow_c97 brs m (nI (X7_work_p76_13 sg z.1 a b c d e)) (X7_work_p76_14 z.2.2.1 sg z.1 a b c d e) (X7_work_p76_15 z.2.2.2 sg z.1 a b c d e) bm rk = upd rk m (nI (X7_kindThen_n brs (nI (X7_work_p76_13 sg z.1 a b c d e)) (X7_work_p76_14 z.2.2.1 sg z.1 a b c d e) (X7_work_p76_15 z.2.2.2 sg z.1 a b c d e) bm)) := ite_same _
  have h96 : X7_makeRow_c96 brs m (nI (X7_work_p76_13 sg z.1 a b c d e)) (X7_work_p76_14 z.2.2.1 sg z.1 a b c d e) (X7_work_p76_15 z.2.2.2 sg z.1 a b c d e) bm sg rk rt rs = X7_layRow_c96 sg (X7_makeRow_c97 brs m (nI (X7_work_p76_13 sg z.1 a b c d e)) (X7_work_p76_14 z.2.2.1 sg z.1 a b c d e) (X7_work_p76_15 z.2.2.2 sg z.1 a b c d e) bm rk) (X7_makeRow_c99 m (nI (X7_work_p76_13 sg z.1 a b c d e)) (X7_work_p76_14 z.2.2.1 sg z.1 a b c d e) rt) (X7_makeRow_c100 m (nI (X7_work_p76_13 sg z.1 a b c d e)) (X7_work_p76_15 z.2.2.2 sg z.1 a b c d e) rs) m := by
    rw [hrk]
    unfold X7_makeRow_c96 X7_makeRow_c99 X7_makeRow_c100
    split <;> rfl
  rcases q with q | q | q
  · exact absurd q.1 hw
  · obtain ⟨w1, j1, j2, j3⟩ := q
    have hk : X7_kindThen_n brs (nI (X7_work_p76_13 sg z.1 a b c d e)) (X7_work_p76_14 z.2.2.1 sg z.1 a b c d e) (X7_work_p76_15 z.2.2.2 sg z.1 a b c d e) bm = 1 := by
      unfold X7_kindThen_n
      rw [w1, if_pos rfl]
    refine ⟨fun i hi => ?_, Or.inr (Or.inl j1), ?_, h96, rfl, makeRow_rw⟩
    · rcases Nat.lt_succ_iff_lt_or_eq.mp hi with u | u
      · refine hold i u _ _ _ _ _ _ _ _ ?_ ?_ rel0 ?_ ?_ ?_ rf0 ?_
        · intro k hk9; show X0_addRow_c60 _ _ _ _ = _; rw [hkd]; exact pk_un hk9
        · intro k hk9; show X0_addRow_c61 _ _ _ _ _ = _; unfold X0_addRow_c61; split <;> exact pk_un hk9
        · intro k hk9; show X0_addRow_c63 _ _ _ _ _ = _; unfold X0_addRow_c63; rw [if_pos j1, add63v, if_neg (by omega), if_neg (by omega), if_neg (by omega)]
        · intro k hk9; show X7_makeRow_c97 _ _ _ _ _ _ _ _ = _; rw [hrk]; exact pk_un hk9
        · intro k hk9; show X7_makeRow_c100 _ _ _ _ _ = _; unfold X7_makeRow_c100; split <;> exact pk_un hk9
        · intro k hk9; show X7_makeRow_c99 _ _ _ _ _ = _; unfold X7_makeRow_c99; split <;> exact pk_un hk9
      · subst u
        refine ⟨?_, ?_, ?_, five, ?_, ?_⟩
        · show X0_addRow_c60 _ _ _ _ = X7_makeRow_c97 _ _ _ _ _ _ _ _
          rw [hkd, hrk, pk_us, pk_us, hk, j1]
        · show X0_addRow_c61 _ _ _ _ _ = X7_makeRow_c100 _ _ _ _ _
          unfold X0_addRow_c61 X7_makeRow_c100
          rw [if_pos j1, if_pos (by rw [w1]), pk_us, pk_us]
        · refine ⟨?_, ?_⟩
          · show X0_addRow_c61 _ _ _ _ _ = -1 ∨ X0_addRow_c61 _ _ _ _ _ = 0 ∨ X0_addRow_c61 _ _ _ _ _ = 1
            unfold X0_addRow_c61
            rw [if_pos j1, pk_us]
            exact Or.inr (Or.inl rfl)
          · show X0_addRow_c60 _ _ _ _ = _ ∨ X0_addRow_c60 _ _ _ _ = _ ∨ X0_addRow_c60 _ _ _ _ = _
            rw [hkd, pk_us]
            exact Or.inr (Or.inl j1)
        · intro _ j hj
          show X0_addRow_c63 _ _ _ _ _ = _
          unfold X0_addRow_c63
          rw [if_pos j1, add63v]
          rcases (show j = 0 ∨ j = 1 ∨ j = 2 by omega) with rfl | rfl | rfl
          · rw [if_pos (by omega)]
          · rw [if_neg (by omega), if_pos rfl]
          · rw [if_neg (by omega), if_neg (by omega), if_pos rfl]
        · intro cz
          refine absurd ?_ cz
          show X0_addRow_c60 _ _ _ _ = _
          rw [hkd, pk_us, j1]
    · show X7_makeRow_c97 _ _ _ _ _ _ _ _ = X0_judge_v rows outc ts now rl tt ba
      rw [hrk, pk_us, hk, j1]
  · obtain ⟨w2, x, y, zz, v, o1, o2, o3, o4, o5, o6, j2, j3, j4, j5, o7, j1⟩ := q
    have nw : ¬ nI (X7_work_p76_13 sg z.1 a b c d e) = nI 1 := by rw [w2]; decide
    have hk : nI (X7_kindThen_n brs (nI (X7_work_p76_13 sg z.1 a b c d e)) (X7_work_p76_14 z.2.2.1 sg z.1 a b c d e) (X7_work_p76_15 z.2.2.2 sg z.1 a b c d e) bm) = X0_judge_v rows outc ts now rl tt ba := by
      unfold X7_kindThen_n
      rw [if_neg nw, o5, o6, o7, j1]
      by_cases cv : v = 0
      · rw [if_pos cv, if_pos cv]
        by_cases cb : ba (spN x y zz) = 0
        · rw [if_pos cb, if_pos ((hB x y zz o1 o2 o3).mp cb)]
        · rw [if_neg cb, if_neg (fun u => cb ((hB x y zz o1 o2 o3).mpr u))]
      · rw [if_neg cv, if_neg cv]
    have nj : ¬ X0_judge_v rows outc ts now rl tt ba = nI 1 := by
      rw [j1]
      repeat' split
      all_goals decide
    have j012 : X0_judge_v rows outc ts now rl tt ba = nI 0 ∨ X0_judge_v rows outc ts now rl tt ba = nI 1 ∨ X0_judge_v rows outc ts now rl tt ba = nI 2 := by
      rw [j1]
      repeat' split
      all_goals first | exact Or.inl rfl | exact Or.inr (Or.inr rfl)
    refine ⟨fun i hi => ?_, j012, ?_, h96, rfl, makeRow_rw⟩
    · rcases Nat.lt_succ_iff_lt_or_eq.mp hi with u | u
      · refine hold i u _ _ _ _ _ _ _ _ ?_ ?_ rel0 ?_ ?_ ?_ rf0 ?_
        · intro k hk9; show X0_addRow_c60 _ _ _ _ = _; rw [hkd]; exact pk_un hk9
        · intro k hk9; show X0_addRow_c61 _ _ _ _ _ = _; unfold X0_addRow_c61; split <;> exact pk_un hk9
        · intro k hk9; show X0_addRow_c63 _ _ _ _ _ = _; unfold X0_addRow_c63; rw [if_neg nj, add63, if_neg (by omega), if_neg (by omega), if_neg (by omega)]
        · intro k hk9; show X7_makeRow_c97 _ _ _ _ _ _ _ _ = _; rw [hrk]; exact pk_un hk9
        · intro k hk9; show X7_makeRow_c100 _ _ _ _ _ = _; unfold X7_makeRow_c100; split <;> exact pk_un hk9
        · intro k hk9; show X7_makeRow_c99 _ _ _ _ _ = _; unfold X7_makeRow_c99; split <;> exact pk_un hk9
      · subst u
        refine ⟨?_, ?_, ?_, five, ?_, ?_⟩
        · show X0_addRow_c60 _ _ _ _ = X7_makeRow_c97 _ _ _ _ _ _ _ _
          rw [hkd, hrk, pk_us, pk_us, hk]
        · show X0_addRow_c61 _ _ _ _ _ = X7_makeRow_c100 _ _ _ _ _
          unfold X0_addRow_c61 X7_makeRow_c100
          rw [if_neg nj, if_neg nw, pk_us, pk_us, o6, j2]
        · refine ⟨?_, ?_⟩
          · show X0_addRow_c61 _ _ _ _ _ = -1 ∨ X0_addRow_c61 _ _ _ _ _ = 0 ∨ X0_addRow_c61 _ _ _ _ _ = 1
            unfold X0_addRow_c61
            rw [if_neg nj, pk_us, j2]
            exact o4
          · show X0_addRow_c60 _ _ _ _ = _ ∨ X0_addRow_c60 _ _ _ _ = _ ∨ X0_addRow_c60 _ _ _ _ = _
            rw [hkd, pk_us]
            exact j012
        · intro cz
          refine absurd cz ?_
          show ¬ X0_addRow_c60 _ _ _ _ = _
          rw [hkd, pk_us]
          exact nj
        · intro _
          refine ⟨x, y, zz, o1, o2, o3, ?_, ?_, ?_, ?_⟩
          · show X0_addRow_c63 _ _ _ _ _ = _
            unfold X0_addRow_c63
            rw [if_neg nj, add63, if_pos rfl]
            exact j3
          · show X0_addRow_c63 _ _ _ _ _ = _
            unfold X0_addRow_c63
            rw [if_neg nj, add63, if_neg (by omega), if_pos rfl]
            exact j4
          · show X0_addRow_c63 _ _ _ _ _ = _
            unfold X0_addRow_c63
            rw [if_neg nj, add63, if_neg (by omega), if_neg (by omega), if_pos rfl]
            exact j5
          · show X7_makeRow_c99 _ _ _ _ _ = _
            unfold X7_makeRow_c99
            rw [if_neg nw, pk_us, o5]
    · show X7_makeRow_c97 _ _ _ _ _ _ _ _ = X0_judge_v rows outc ts now rl tt ba
      rw [hrk, pk_us, hk]
end PF5
