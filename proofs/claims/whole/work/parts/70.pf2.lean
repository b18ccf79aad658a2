section PF2
variable {n : Nat} {rows outc : Int32} {now sg ba : Nat → Int32}
/-- what the class has found, at last -/
def FC (n : Nat) (rows outc : Int32) (now ba : Nat → Int32) (a b c d e : Nat) (r : (Int32) × (Int32) × (Nat → Int32) × (Nat → Int32)) : Prop := ∃ rl ts tt, r = (X0_judge_v rows outc ts now rl tt ba, X0_judge_p59_2 rows outc ts now rl tt ba, rl, X0_judge_c66 rows outc ts now rl tt ba) ∧ ∀ j, j < 5 → rl j = nI (rlF a b c d e j)
theorem judge_PD (hn : n ≤ 10) (hN : NS3 n now (SGE sg)) (hS : SGI n sg) {ts : Int32} {rl tt : Nat → Int32} {a b c d e : Nat} (hv : V5 n a b c d e) (hr : ∀ j, j < 5 → rl j = nI (rlF a b c d e j)) : X0_judge_v rows outc ts now rl tt ba = -4 ↔ ¬ PD sg a b c d e := by
  have q := judge_work (sx := fun _ => 0) (tt := tt) (ba := ba) (rows := rows) (outc := outc) (ts := ts) (cmS := 0) (cmT := 0) hn hN hS (V5_rel hv hr)
  have e : ∀ z, X7_work_p76_13 sg (fun _ => 0) (rlF a b c d e 0) (rlF a b c d e 1) (rlF a b c d e 2) (rlF a b c d e 3) (rlF a b c d e 4) = z → (wkD (X7_laySix_c101 sg (fun _ => 0) a b c d e)).1 = z := fun z hz => by
    rw [← hz, work_13]
    rfl
  unfold PD
  rcases q with q | q | q
  · rw [e _ q.1]
    exact ⟨fun _ z => z rfl, fun _ => q.2.1⟩
  · rw [e _ q.1, q.2.1]
    exact ⟨fun z => absurd z (by decide), fun z => absurd (by decide) z⟩
  · obtain ⟨q1, x, y, z, v, -, -, -, -, -, -, -, -, -, -, -, q2⟩ := q
    rw [e _ q1, q2]
    refine ⟨fun w => ?_, fun w => absurd (by decide) w⟩
    split at w
    · split at w
      · exact absurd w (by decide)
      · exact absurd w (by decide)
    · exact absurd w (by decide)
/-- nothing comes of any relation that begins so -/
def N1 (n : Nat) (sg : Nat → Int32) (a b c d k : Nat) : Prop := ∀ e', e' = k → V5 n a b c d e' → ¬ PD sg a b c d e'
theorem fk50 (hn : n ≤ 10) (hN : NS3 n now (SGE sg)) (hS : SGI n sg) {a b c d : Nat} (ha : a < n) (hb : b < c) (hc : c < d) (hd : d < n - 1) (z : (Nat → Int32) × (Int32) × (Nat → Int32)) :
    (∀ r, (zfoldB (X0_firstKind_L50_B rows outc now ba a b c d) (X0_firstKind_L50_F rows outc now ba a b c d) ((n - 1) - (d + 1)) (d + 1) z).1 = some r → ∃ e, d < e ∧ e < n - 1 ∧ (PD sg a (sga a b) (sga a c) (sga a d) (sga a e) ∧ FC n rows outc now ba a (sga a b) (sga a c) (sga a d) (sga a e) r) ∧ ∀ e', d < e' → e' < e → ¬ PD sg a (sga a b) (sga a c) (sga a d) (sga a e')) ∧
    ((zfoldB (X0_firstKind_L50_B rows outc now ba a b c d) (X0_firstKind_L50_F rows outc now ba a b c d) ((n - 1) - (d + 1)) (d + 1) z).1 = none → ∀ e', d < e' → e' < n - 1 → ¬ PD sg a (sga a b) (sga a c) (sga a d) (sga a e')) := by
  have v5 : ∀ e, d < e → e < n - 1 → V5 n a (sga a b) (sga a c) (sga a d) (sga a e) := fun e h1 h2 => ⟨ha, sga_mono hb, sga_mono hc, sga_mono h1, sga_lt h2, sga_ne, sga_ne, sga_ne, sga_ne⟩
  have q := zfoldB_first (n := n - 1) (B := X0_firstKind_L50_B rows outc now ba a b c d) (F := X0_firstKind_L50_F rows outc now ba a b c d)
    (S := fun e r => d < e → (PD sg a (sga a b) (sga a c) (sga a d) (sga a e) ∧ FC n rows outc now ba a (sga a b) (sga a c) (sga a d) (sga a e) r)) (N := fun e => d < e → ¬ PD sg a (sga a b) (sga a c) (sga a d) (sga a e))
    (fun e y r he hB hde => ?_) (fun e y he hB hde => ?_) ((n - 1) - (d + 1)) (d + 1) z (by omega)
  · refine ⟨fun r hr => ?_, fun h0 e' h1 h2 => q.2 h0 e' h1 h2 h1⟩
    obtain ⟨e, g1, g2, g3, g4⟩ := q.1 r hr
    exact ⟨e, g1, g2, g3 g1, fun e' h1 h2 => g4 e' h1 h2 h1⟩
  · unfold X0_firstKind_L50_B at hB
    have hr := setRel_at (rl := y.1) (a := a) (b := b) (c := c) (d := d) (e := e) (by omega) (by omega) (by omega) (by omega) (by omega)
    split at hB
    · cases hB
    · rename_i cj
      cases hB
      refine ⟨?_, _, y.2.1, y.2.2, rfl, hr⟩
      rcases Classical.em (PD sg a (sga a b) (sga a c) (sga a d) (sga a e)) with w | w
      · exact w
      · exact absurd ((judge_PD hn hN hS (v5 e hde he) hr).mpr w) cj
  · unfold X0_firstKind_L50_B at hB
    have hr := setRel_at (rl := y.1) (a := a) (b := b) (c := c) (d := d) (e := e) (by omega) (by omega) (by omega) (by omega) (by omega)
    split at hB
    · rename_i cj
      exact (judge_PD hn hN hS (v5 e hde he) hr).mp cj
    · cases hB
end PF2
