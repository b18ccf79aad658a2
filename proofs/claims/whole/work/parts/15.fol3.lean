/-- the relation of a; b, c, d, e, told by numbers among the points without a -/
def srN (a b c d e j : Nat) : Nat := if j = 0 then a else if j = 1 then (if a ≤ b then b + 1 else b) else if j = 2 then (if a ≤ c then c + 1 else c) else if j = 3 then (if a ≤ d then d + 1 else d) else (if a ≤ e then e + 1 else e)
theorem sr_at {rl : Nat → Int32} {a b c d e j : Nat} (ha : a < 10) (hb : b < 10) (hc : c < 10) (hd : d < 10) (he : e < 10) (hj : j < 5) : X0_setRelation_c65 rl a b c d e j = nI (srN a b c d e j) := by
  have e1 : (nI a ≤ nI b) = (a ≤ b) := propext (nI_leI (by omega) (by omega))
  have e2 : (nI a ≤ nI c) = (a ≤ c) := propext (nI_leI (by omega) (by omega))
  have e3 : (nI a ≤ nI d) = (a ≤ d) := propext (nI_leI (by omega) (by omega))
  have e4 : (nI a ≤ nI e) = (a ≤ e) := propext (nI_leI (by omega) (by omega))
  unfold X0_setRelation_c65 srN
  simp only [e1, e2, e3, e4]
  rcases (show j = 0 ∨ j = 1 ∨ j = 2 ∨ j = 3 ∨ j = 4 by omega) with rfl | rfl | rfl | rfl | rfl <;> by_cases q1 : a ≤ b <;> by_cases q2 : a ≤ c <;> by_cases q3 : a ≤ d <;> by_cases q4 : a ≤ e <;> simp [q1, q2, q3, q4, upd]
theorem srN_lt {n a b c d e j : Nat} (ha : a < n) (hbc : b < c) (hcd : c < d) (hde : d < e) (he : e < n - 1) : srN a b c d e j < n := by
  unfold srN
  repeat' split
  all_goals omega
theorem srN_ne {n a b c d e i j : Nat} (ha : a < n) (hbc : b < c) (hcd : c < d) (hde : d < e) (he : e < n - 1) (hi : i < 5) (hj : j < 5) (hij : i ≠ j) : srN a b c d e i ≠ srN a b c d e j := by
  unfold srN
  rcases (show i = 0 ∨ i = 1 ∨ i = 2 ∨ i = 3 ∨ i = 4 by omega) with rfl | rfl | rfl | rfl | rfl <;> rcases (show j = 0 ∨ j = 1 ∨ j = 2 ∨ j = 3 ∨ j = 4 by omega) with rfl | rfl | rfl | rfl | rfl <;> simp at hij ⊢ <;> (repeat' split) <;> omega
theorem sr_in {rl : Nat → Int32} {n a b c d e : Nat} (hn : n ≤ 10) (ha : a < n) (hbc : b < c) (hcd : c < d) (hde : d < e) (he : e < n - 1) : ∀ j, j < 5 → vp_in (X0_setRelation_c65 rl a b c d e j) 10 := fun j hj => by
  rw [sr_at (by omega) (by omega) (by omega) (by omega) (by omega) hj]
  exact vp_in_nI (Nat.lt_of_lt_of_le (srN_lt ha hbc hcd hde he) hn) (by decide)
theorem sr_ne {rl : Nat → Int32} {n a b c d e : Nat} (hn : n ≤ 10) (ha : a < n) (hbc : b < c) (hcd : c < d) (hde : d < e) (he : e < n - 1) : ∀ i j, i < 5 → j < 5 → i ≠ j → (X0_setRelation_c65 rl a b c d e i).toNatClampNeg ≠ (X0_setRelation_c65 rl a b c d e j).toNatClampNeg := fun i j hi hj hij => by
  have q : ∀ k, srN a b c d e k < 2 ^ 31 := fun k => Nat.lt_trans (Nat.lt_of_lt_of_le (srN_lt ha hbc hcd hde he) hn) (by decide)
  rw [sr_at (by omega) (by omega) (by omega) (by omega) (by omega) hi, sr_at (by omega) (by omega) (by omega) (by omega) (by omega) hj, nI_clamp (q i), nI_clamp (q j)]
  exact srN_ne ha hbc hcd hde he hi hj hij
abbrev mX0_firstKind : zM := (cX0_firstKind, 9, (some .int), RX0, wsX0_firstKind, "firstKind")
theorem okk_X0_setRelation : zOk yX0_setRelation 5 := by unfold zOk; decide +kernel
theorem okk_X0_judge : zOk yX0_judge 0 := by unfold zOk; decide +kernel
def X0_firstKind_L50_F (rows : Int32) (outc : Int32) (now : Nat → Int32) (ba : Nat → Int32) (ra : Nat) (rb : Nat) (rc : Nat) (rd : Nat) (re : Nat) (a9 : (Nat → Int32) × (Int32) × (Nat → Int32)) : (Nat → Int32) × (Int32) × (Nat → Int32) := if (X0_judge_v rows outc a9.2.1 now (X0_setRelation_c65 a9.1 ra rb rc rd re) a9.2.2 ba) = (-4) then (X0_setRelation_c65 a9.1 ra rb rc rd re, X0_judge_p59_2 rows outc a9.2.1 now (X0_setRelation_c65 a9.1 ra rb rc rd re) a9.2.2 ba, X0_judge_c66 rows outc a9.2.1 now (X0_setRelation_c65 a9.1 ra rb rc rd re) a9.2.2 ba) else (a9.1, a9.2.1, a9.2.2)
def X0_firstKind_L50_B (rows : Int32) (outc : Int32) (now : Nat → Int32) (ba : Nat → Int32) (ra : Nat) (rb : Nat) (rc : Nat) (rd : Nat) (re : Nat) (a9 : (Nat → Int32) × (Int32) × (Nat → Int32)) : Option ((Int32) × (Int32) × (Nat → Int32) × (Nat → Int32)) := if (X0_judge_v rows outc a9.2.1 now (X0_setRelation_c65 a9.1 ra rb rc rd re) a9.2.2 ba) = (-4) then none else (some (X0_judge_v rows outc a9.2.1 now (X0_setRelation_c65 a9.1 ra rb rc rd re) a9.2.2 ba, X0_judge_p59_2 rows outc a9.2.1 now (X0_setRelation_c65 a9.1 ra rb rc rd re) a9.2.2 ba, X0_setRelation_c65 a9.1 ra rb rc rd re, X0_judge_c66 rows outc a9.2.1 now (X0_setRelation_c65 a9.1 ra rb rc rd re) a9.2.2 ba))
def X0_firstKind_L38_F (rows : Int32) (outc : Int32) (now : Nat → Int32) (ba : Nat → Int32) (pts : Nat) (ra : Nat) (rb : Nat) (rc : Nat) (rd : Nat) (a9 : (Nat → Int32) × (Int32) × (Nat → Int32)) : (Nat → Int32) × (Int32) × (Nat → Int32) := zpick (zfoldB (X0_firstKind_L50_B rows outc now ba ra rb rc rd) (X0_firstKind_L50_F rows outc now ba ra rb rc rd) ((pts - 1) - (rd + 1)) (rd + 1) (a9.1, a9.2.1, a9.2.2)) (fun b => (a9.1, a9.2.1, a9.2.2)) (fun am50 => (am50.1, am50.2.1, am50.2.2))
def X0_firstKind_L38_B (rows : Int32) (outc : Int32) (now : Nat → Int32) (ba : Nat → Int32) (pts : Nat) (ra : Nat) (rb : Nat) (rc : Nat) (rd : Nat) (a9 : (Nat → Int32) × (Int32) × (Nat → Int32)) : Option ((Int32) × (Int32) × (Nat → Int32) × (Nat → Int32)) := zpick (zfoldB (X0_firstKind_L50_B rows outc now ba ra rb rc rd) (X0_firstKind_L50_F rows outc now ba ra rb rc rd) ((pts - 1) - (rd + 1)) (rd + 1) (a9.1, a9.2.1, a9.2.2)) (fun b => some b) (fun am50 => none)
def X0_firstKind_L26_F (rows : Int32) (outc : Int32) (now : Nat → Int32) (ba : Nat → Int32) (pts : Nat) (ra : Nat) (rb : Nat) (rc : Nat) (a9 : (Nat → Int32) × (Int32) × (Nat → Int32)) : (Nat → Int32) × (Int32) × (Nat → Int32) := zpick (zfoldB (X0_firstKind_L38_B rows outc now ba pts ra rb rc) (X0_firstKind_L38_F rows outc now ba pts ra rb rc) ((pts - 1) - (rc + 1)) (rc + 1) (a9.1, a9.2.1, a9.2.2)) (fun b => (a9.1, a9.2.1, a9.2.2)) (fun am38 => (am38.1, am38.2.1, am38.2.2))
def X0_firstKind_L26_B (rows : Int32) (outc : Int32) (now : Nat → Int32) (ba : Nat → Int32) (pts : Nat) (ra : Nat) (rb : Nat) (rc : Nat) (a9 : (Nat → Int32) × (Int32) × (Nat → Int32)) : Option ((Int32) × (Int32) × (Nat → Int32) × (Nat → Int32)) := zpick (zfoldB (X0_firstKind_L38_B rows outc now ba pts ra rb rc) (X0_firstKind_L38_F rows outc now ba pts ra rb rc) ((pts - 1) - (rc + 1)) (rc + 1) (a9.1, a9.2.1, a9.2.2)) (fun b => some b) (fun am38 => none)
def X0_firstKind_L14_F (rows : Int32) (outc : Int32) (now : Nat → Int32) (ba : Nat → Int32) (pts : Nat) (ra : Nat) (rb : Nat) (a9 : (Nat → Int32) × (Int32) × (Nat → Int32)) : (Nat → Int32) × (Int32) × (Nat → Int32) := zpick (zfoldB (X0_firstKind_L26_B rows outc now ba pts ra rb) (X0_firstKind_L26_F rows outc now ba pts ra rb) ((pts - 1) - (rb + 1)) (rb + 1) (a9.1, a9.2.1, a9.2.2)) (fun b => (a9.1, a9.2.1, a9.2.2)) (fun am26 => (am26.1, am26.2.1, am26.2.2))
def X0_firstKind_L14_B (rows : Int32) (outc : Int32) (now : Nat → Int32) (ba : Nat → Int32) (pts : Nat) (ra : Nat) (rb : Nat) (a9 : (Nat → Int32) × (Int32) × (Nat → Int32)) : Option ((Int32) × (Int32) × (Nat → Int32) × (Nat → Int32)) := zpick (zfoldB (X0_firstKind_L26_B rows outc now ba pts ra rb) (X0_firstKind_L26_F rows outc now ba pts ra rb) ((pts - 1) - (rb + 1)) (rb + 1) (a9.1, a9.2.1, a9.2.2)) (fun b => some b) (fun am26 => none)
def X0_firstKind_L6_F (rows : Int32) (outc : Int32) (now : Nat → Int32) (ba : Nat → Int32) (pts : Nat) (ra : Nat) (a9 : (Nat → Int32) × (Int32) × (Nat → Int32)) : (Nat → Int32) × (Int32) × (Nat → Int32) := zpick (zfoldB (X0_firstKind_L14_B rows outc now ba pts ra) (X0_firstKind_L14_F rows outc now ba pts ra) (pts - 1) 0 (a9.1, a9.2.1, a9.2.2)) (fun b => (a9.1, a9.2.1, a9.2.2)) (fun am14 => (am14.1, am14.2.1, am14.2.2))
def X0_firstKind_L6_B (rows : Int32) (outc : Int32) (now : Nat → Int32) (ba : Nat → Int32) (pts : Nat) (ra : Nat) (a9 : (Nat → Int32) × (Int32) × (Nat → Int32)) : Option ((Int32) × (Int32) × (Nat → Int32) × (Nat → Int32)) := zpick (zfoldB (X0_firstKind_L14_B rows outc now ba pts ra) (X0_firstKind_L14_F rows outc now ba pts ra) (pts - 1) 0 (a9.1, a9.2.1, a9.2.2)) (fun b => some b) (fun am14 => none)
def X0_firstKind_v (rows outc ts : Int32) (now rl tt ba : Nat → Int32) (pts : Nat) : Int32 := zpick (zfoldB (X0_firstKind_L6_B rows outc now ba pts) (X0_firstKind_L6_F rows outc now ba pts) pts 0 (rl, ts, tt)) (fun b => b.1) (fun am6 => (-4))
def X0_firstKind_p59_2 (rows outc ts : Int32) (now rl tt ba : Nat → Int32) (pts : Nat) : Int32 := zpick (zfoldB (X0_firstKind_L6_B rows outc now ba pts) (X0_firstKind_L6_F rows outc now ba pts) pts 0 (rl, ts, tt)) (fun b => b.2.1) (fun am6 => am6.2.1)
def X0_firstKind_c65 (rows outc ts : Int32) (now rl tt ba : Nat → Int32) (pts : Nat) : Nat → Int32 := zpick (zfoldB (X0_firstKind_L6_B rows outc now ba pts) (X0_firstKind_L6_F rows outc now ba pts) pts 0 (rl, ts, tt)) (fun b => b.2.2.1) (fun am6 => am6.1)
def X0_firstKind_c66 (rows outc ts : Int32) (now rl tt ba : Nat → Int32) (pts : Nat) : Nat → Int32 := zpick (zfoldB (X0_firstKind_L6_B rows outc now ba pts) (X0_firstKind_L6_F rows outc now ba pts) pts 0 (rl, ts, tt)) (fun b => b.2.2.2) (fun am6 => am6.2.2)
set_option maxRecDepth 100000 in
set_option maxHeartbeats 4000000 in
theorem c_X0_firstKind (G : zG) (ex : Bool) (g : Nat → va_E) (rows outc ts : Int32) (bo oo : Int32) (now rl tt ba : Nat → Int32) (pts : Nat) (hp1 : 1 ≤ pts) (hp : pts ≤ 10) (h59 : g 59 = (oFol G rows outc ts)) (h64 : g 64 = (zI G 1000 now)) (h65 : g 65 = (zI G 5 rl)) (h66 : g 66 = (zI G 3 tt)) (h36 : g 36 = (oTld G bo oo)) (h38 : g 38 = (zZ G 120 ba)) : zC G yX0_firstKind wsX0_firstKind (zrm 4 101) ex [.ref (zB G + 59), .int (nI pts)] (zN, g) (fun r h => r = some (.int (X0_firstKind_v rows outc ts now rl tt ba pts)) ∧ h = (zN, zus g [(59, (oFol G rows outc (X0_firstKind_p59_2 rows outc ts now rl tt ba pts))), (65, zI G 5 (X0_firstKind_c65 rows outc ts now rl tt ba pts)), (66, zI G 3 (X0_firstKind_c66 rows outc ts now rl tt ba pts))])) := by
  refine zC_of mX0_firstKind (lv := [some (.ref (zB G + 59)), some (.int (nI pts)), none, none, none, none, none, none, none]) rfl rfl (by decide) (by intro v hv; simp at hv; rcases hv with rfl | rfl <;> rfl) (Nat.le_of_ble_eq_true rfl) rfl ?_
  refine z_0 ?_
  refine z_heap (g' := zu (zus g []) 59 (oFol G rows outc ts)) (zu_self (zus g []) 59 _ h59).symm ?_
  refine z_n (L' := [(59, (oFol G rows outc ts))]) rfl ?_
  refine z_heap (g' := zu (zus g [(59, (oFol G rows outc ts))]) 65 (zI G 5 rl)) (zu_self (zus g [(59, (oFol G rows outc ts))]) 65 _ h65).symm ?_
  refine z_n (L' := [(59, (oFol G rows outc ts)), (65, (zI G 5 rl))]) rfl ?_
  refine z_heap (g' := zu (zus g [(59, (oFol G rows outc ts)), (65, (zI G 5 rl))]) 66 (zI G 3 tt)) (zu_self (zus g [(59, (oFol G rows outc ts)), (65, (zI G 5 rl))]) 66 _ h66).symm ?_
  refine z_n (L' := [(59, (oFol G rows outc ts)), (65, (zI G 5 rl)), (66, (zI G 3 tt))]) rfl ?_
  refine z_iload_n dX0_firstKind_0 rfl rfl ?_
  refine z_iconst (v := nI 1) dX0_firstKind_1 rfl (by decide) ?_
  refine z_isub dX0_firstKind_2 rfl ?_
  refine z_top (show (nI pts) - (nI 1) = nI (pts - 1) from (zq_sub rfl rfl (by omega))) ?_
  refine z_istore_2 dX0_firstKind_3 rfl ?_
  refine z_iconst (v := nI 0) dX0_firstKind_4 rfl (by decide) ?_
  refine z_istore_3 dX0_firstKind_5 rfl ?_
  refine z_forB (head := fun ra (st9 : (Nat → Int32) × (Int32) × (Nat → Int32)) => ∀ y4 y5 y6 y7 y8 : Option Value, Z G mX0_firstKind (zrm 4 101) ex _ 6 [some (.ref (zB G + 59)), some (.int (nI pts)), some (.int (nI (pts - 1))), some (.int (nI ra)), y4, y5, y6, y7, y8] [] (zN, zus g [(59, (oFol G rows outc st9.2.1)), (65, (zI G 5 st9.1)), (66, (zI G 3 st9.2.2))]) 0 0) (out := fun b _ => (some (Value.int b.1) = some (Value.int (X0_firstKind_v rows outc ts now rl tt ba pts))) ∧ ((zN, zus g [(59, (oFol G rows outc b.2.1)), (65, (zI G 5 b.2.2.1)), (66, (zI G 3 b.2.2.2))]) : zAH) = (zN, zus g [(59, (oFol G rows outc (X0_firstKind_p59_2 rows outc ts now rl tt ba pts))), (65, zI G 5 (X0_firstKind_c65 rows outc ts now rl tt ba pts)), (66, zI G 3 (X0_firstKind_c66 rows outc ts now rl tt ba pts))])) (B := (X0_firstKind_L6_B rows outc now ba pts)) (F := (X0_firstKind_L6_F rows outc now ba pts)) (n := pts) (fun _ _ => True) (fun _ _ _ _ _ => trivial) ?_ pts 0 (rl, ts, tt) (by omega) trivial ?_ ?_ _ _ _ _ _
  · intro ra a9 hi _ Ko K
    obtain ⟨rl1, ts1, tt1⟩ := a9
    intro y4 y5 y6 y7 y8
    have hra : ra < pts := hi
    refine z_iload_n dX0_firstKind_6 rfl rfl ?_
    refine z_iload_n dX0_firstKind_7 rfl rfl ?_
    refine z_icmp_ge (tgt := 115) dX0_firstKind_8 rfl (by decide) (fun c8 => ?_) (fun c8 => ?_)
    · exact absurd c8 (nI_ge hi (by omega))
    · refine z_iconst (v := nI 0) dX0_firstKind_11 rfl (by decide) ?_
      refine z_istore_4 dX0_firstKind_12 rfl ?_
      refine z_forB (head := fun rb (st9 : (Nat → Int32) × (Int32) × (Nat → Int32)) => ∀ y5 y6 y7 y8 : Option Value, Z G mX0_firstKind (zrm 4 101) ex _ 14 [some (.ref (zB G + 59)), some (.int (nI pts)), some (.int (nI (pts - 1))), some (.int (nI ra)), some (.int (nI rb)), y5, y6, y7, y8] [] (zN, zus g [(59, (oFol G rows outc st9.2.1)), (65, (zI G 5 st9.1)), (66, (zI G 3 st9.2.2))]) 0 0) (out := fun b _ => (some (Value.int b.1) = some (Value.int (X0_firstKind_v rows outc ts now rl tt ba pts))) ∧ ((zN, zus g [(59, (oFol G rows outc b.2.1)), (65, (zI G 5 b.2.2.1)), (66, (zI G 3 b.2.2.2))]) : zAH) = (zN, zus g [(59, (oFol G rows outc (X0_firstKind_p59_2 rows outc ts now rl tt ba pts))), (65, zI G 5 (X0_firstKind_c65 rows outc ts now rl tt ba pts)), (66, zI G 3 (X0_firstKind_c66 rows outc ts now rl tt ba pts))])) (B := (X0_firstKind_L14_B rows outc now ba pts ra)) (F := (X0_firstKind_L14_F rows outc now ba pts ra)) (n := pts - 1) (fun _ _ => True) (fun _ _ _ _ _ => trivial) ?_ (pts - 1) 0 (rl1, ts1, tt1) (by omega) trivial ?_ ?_ _ _ _ _
      · intro rb a9 hi _ Ko K
        obtain ⟨rl2, ts2, tt2⟩ := a9
        intro y5 y6 y7 y8
        have hrb : rb < pts - 1 := hi
        refine z_iload dX0_firstKind_14 rfl rfl ?_
        refine z_iload_n dX0_firstKind_16 rfl rfl ?_
        refine z_icmp_ge (tgt := 109) dX0_firstKind_17 rfl (by decide) (fun c17 => ?_) (fun c17 => ?_)
        · exact absurd c17 (nI_ge hi (by omega))
        · refine z_iload dX0_firstKind_20 rfl rfl ?_
          refine z_iconst (v := nI 1) dX0_firstKind_22 rfl (by decide) ?_
          refine z_iadd dX0_firstKind_23 rfl ?_
          refine z_top (show (nI rb) + (nI 1) = nI (rb + 1) from (zq_add rfl rfl)) ?_
          refine z_istore_5 dX0_firstKind_24 rfl ?_
          refine z_forB (head := fun rc (st9 : (Nat → Int32) × (Int32) × (Nat → Int32)) => ∀ y6 y7 y8 : Option Value, Z G mX0_firstKind (zrm 4 101) ex _ 26 [some (.ref (zB G + 59)), some (.int (nI pts)), some (.int (nI (pts - 1))), some (.int (nI ra)), some (.int (nI rb)), some (.int (nI rc)), y6, y7, y8] [] (zN, zus g [(59, (oFol G rows outc st9.2.1)), (65, (zI G 5 st9.1)), (66, (zI G 3 st9.2.2))]) 0 0) (out := fun b _ => (some (Value.int b.1) = some (Value.int (X0_firstKind_v rows outc ts now rl tt ba pts))) ∧ ((zN, zus g [(59, (oFol G rows outc b.2.1)), (65, (zI G 5 b.2.2.1)), (66, (zI G 3 b.2.2.2))]) : zAH) = (zN, zus g [(59, (oFol G rows outc (X0_firstKind_p59_2 rows outc ts now rl tt ba pts))), (65, zI G 5 (X0_firstKind_c65 rows outc ts now rl tt ba pts)), (66, zI G 3 (X0_firstKind_c66 rows outc ts now rl tt ba pts))])) (B := (X0_firstKind_L26_B rows outc now ba pts ra rb)) (F := (X0_firstKind_L26_F rows outc now ba pts ra rb)) (n := pts - 1) (fun rc _ => rb + 1 ≤ rc) (fun _ _ _ h _ => Nat.le_succ_of_le h) ?_ ((pts - 1) - (rb + 1)) (rb + 1) (rl2, ts2, tt2) (by omega) (Nat.le_refl _) ?_ ?_ _ _ _
          · intro rc a9 hi hI Ko K
            obtain ⟨rl3, ts3, tt3⟩ := a9
            intro y6 y7 y8
            have hrc : rc < pts - 1 := hi
            have hbc : rb + 1 ≤ rc := hI
            refine z_iload dX0_firstKind_26 rfl rfl ?_
            refine z_iload_n dX0_firstKind_28 rfl rfl ?_
            refine z_icmp_ge (tgt := 103) dX0_firstKind_29 rfl (by decide) (fun c29 => ?_) (fun c29 => ?_)
            · exact absurd c29 (nI_ge hi (by omega))
            · refine z_iload dX0_firstKind_32 rfl rfl ?_
              refine z_iconst (v := nI 1) dX0_firstKind_34 rfl (by decide) ?_
              refine z_iadd dX0_firstKind_35 rfl ?_
              refine z_top (show (nI rc) + (nI 1) = nI (rc + 1) from (zq_add rfl rfl)) ?_
              refine z_istore_6 dX0_firstKind_36 rfl ?_
              refine z_forB (head := fun rd (st9 : (Nat → Int32) × (Int32) × (Nat → Int32)) => ∀ y7 y8 : Option Value, Z G mX0_firstKind (zrm 4 101) ex _ 38 [some (.ref (zB G + 59)), some (.int (nI pts)), some (.int (nI (pts - 1))), some (.int (nI ra)), some (.int (nI rb)), some (.int (nI rc)), some (.int (nI rd)), y7, y8] [] (zN, zus g [(59, (oFol G rows outc st9.2.1)), (65, (zI G 5 st9.1)), (66, (zI G 3 st9.2.2))]) 0 0) (out := fun b _ => (some (Value.int b.1) = some (Value.int (X0_firstKind_v rows outc ts now rl tt ba pts))) ∧ ((zN, zus g [(59, (oFol G rows outc b.2.1)), (65, (zI G 5 b.2.2.1)), (66, (zI G 3 b.2.2.2))]) : zAH) = (zN, zus g [(59, (oFol G rows outc (X0_firstKind_p59_2 rows outc ts now rl tt ba pts))), (65, zI G 5 (X0_firstKind_c65 rows outc ts now rl tt ba pts)), (66, zI G 3 (X0_firstKind_c66 rows outc ts now rl tt ba pts))])) (B := (X0_firstKind_L38_B rows outc now ba pts ra rb rc)) (F := (X0_firstKind_L38_F rows outc now ba pts ra rb rc)) (n := pts - 1) (fun rd _ => rc + 1 ≤ rd) (fun _ _ _ h _ => Nat.le_succ_of_le h) ?_ ((pts - 1) - (rc + 1)) (rc + 1) (rl3, ts3, tt3) (by omega) (Nat.le_refl _) ?_ ?_ _ _
              · intro rd a9 hi hI Ko K
                obtain ⟨rl4, ts4, tt4⟩ := a9
                intro y7 y8
                have hrd : rd < pts - 1 := hi
                have hcd : rc + 1 ≤ rd := hI
                refine z_iload dX0_firstKind_38 rfl rfl ?_
                refine z_iload_n dX0_firstKind_40 rfl rfl ?_
                refine z_icmp_ge (tgt := 97) dX0_firstKind_41 rfl (by decide) (fun c41 => ?_) (fun c41 => ?_)
                · exact absurd c41 (nI_ge hi (by omega))
                · refine z_iload dX0_firstKind_44 rfl rfl ?_
                  refine z_iconst (v := nI 1) dX0_firstKind_46 rfl (by decide) ?_
                  refine z_iadd dX0_firstKind_47 rfl ?_
                  refine z_top (show (nI rd) + (nI 1) = nI (rd + 1) from (zq_add rfl rfl)) ?_
                  refine z_istore_7 dX0_firstKind_48 rfl ?_
                  refine z_forB (head := fun re (st9 : (Nat → Int32) × (Int32) × (Nat → Int32)) => ∀ y8 : Option Value, Z G mX0_firstKind (zrm 4 101) ex _ 50 [some (.ref (zB G + 59)), some (.int (nI pts)), some (.int (nI (pts - 1))), some (.int (nI ra)), some (.int (nI rb)), some (.int (nI rc)), some (.int (nI rd)), some (.int (nI re)), y8] [] (zN, zus g [(59, (oFol G rows outc st9.2.1)), (65, (zI G 5 st9.1)), (66, (zI G 3 st9.2.2))]) 0 0) (out := fun b _ => (some (Value.int b.1) = some (Value.int (X0_firstKind_v rows outc ts now rl tt ba pts))) ∧ ((zN, zus g [(59, (oFol G rows outc b.2.1)), (65, (zI G 5 b.2.2.1)), (66, (zI G 3 b.2.2.2))]) : zAH) = (zN, zus g [(59, (oFol G rows outc (X0_firstKind_p59_2 rows outc ts now rl tt ba pts))), (65, zI G 5 (X0_firstKind_c65 rows outc ts now rl tt ba pts)), (66, zI G 3 (X0_firstKind_c66 rows outc ts now rl tt ba pts))])) (B := (X0_firstKind_L50_B rows outc now ba ra rb rc rd)) (F := (X0_firstKind_L50_F rows outc now ba ra rb rc rd)) (n := pts - 1) (fun re _ => rd + 1 ≤ re) (fun _ _ _ h _ => Nat.le_succ_of_le h) ?_ ((pts - 1) - (rd + 1)) (rd + 1) (rl4, ts4, tt4) (by omega) (Nat.le_refl _) ?_ ?_ _
                  · intro re a9 hi hI Ko K
                    obtain ⟨rl5, ts5, tt5⟩ := a9
                    intro y8
                    have hre : re < pts - 1 := hi
                    have hde : rd + 1 ≤ re := hI
                    refine z_iload dX0_firstKind_50 rfl rfl ?_
                    refine z_iload_n dX0_firstKind_52 rfl rfl ?_
                    refine z_icmp_ge (tgt := 91) dX0_firstKind_53 rfl (by decide) (fun c53 => ?_) (fun c53 => ?_)
                    · exact absurd c53 (nI_ge hi (by omega))
                    · refine z_aload_n dX0_firstKind_56 rfl rfl ?_
                      refine z_iload_n dX0_firstKind_57 rfl rfl ?_
                      refine z_iload dX0_firstKind_58 rfl rfl ?_
                      refine z_iload dX0_firstKind_60 rfl rfl ?_
                      refine z_iload dX0_firstKind_62 rfl rfl ?_
                      refine z_iload dX0_firstKind_64 rfl rfl ?_
                      refine z_callVv (c_X0_setRelation G ex _ rows outc ts5 rl5 ra rb rc rd re rfl rfl) gX0_firstKind_X0_setRelation rfl dX0_firstKind_66 rfl rfl rfl okk_X0_setRelation (Nat.le_of_ble_eq_true rfl) rfl rfl ⟨Nat.le_of_ble_eq_true rfl, Nat.le_of_ble_eq_true rfl⟩ ⟨Nat.le_of_ble_eq_true rfl, Nat.le_of_ble_eq_true rfl⟩ (Nat.le_of_ble_eq_true rfl) ?_
                      refine z_nn (L' := [(59, (oFol G rows outc ts5)), (65, (zI G 5 (X0_setRelation_c65 rl5 ra rb rc rd re))), (66, (zI G 3 tt5))]) rfl ?_
                      refine z_aload_n dX0_firstKind_69 rfl rfl ?_
                      refine z_callVi (c_X0_judge G ex _ rows outc ts5 bo oo now (X0_setRelation_c65 rl5 ra rb rc rd re) tt5 ba (sr_in (n := pts) hp hra (by omega) (by omega) (by omega) (by omega)) (sr_ne (n := pts) hp hra (by omega) (by omega) (by omega) (by omega)) rfl h64 rfl rfl h36 h38) gX0_firstKind_X0_judge rfl dX0_firstKind_70 rfl rfl rfl okk_X0_judge (Nat.le_of_ble_eq_true rfl) rfl rfl ⟨Nat.le_of_ble_eq_true rfl, Nat.le_of_ble_eq_true rfl⟩ ⟨Nat.le_of_ble_eq_true rfl, Nat.le_of_ble_eq_true rfl⟩ (Nat.le_of_ble_eq_true rfl) ?_
                      refine z_nn (L' := [(59, (oFol G rows outc (X0_judge_p59_2 rows outc ts5 now (X0_setRelation_c65 rl5 ra rb rc rd re) tt5 ba))), (65, (zI G 5 (X0_setRelation_c65 rl5 ra rb rc rd re))), (66, (zI G 3 (X0_judge_c66 rows outc ts5 now (X0_setRelation_c65 rl5 ra rb rc rd re) tt5 ba)))]) rfl ?_
                      refine z_istore_8 dX0_firstKind_73 rfl ?_
                      refine z_iload dX0_firstKind_75 rfl rfl ?_
                      refine z_bipush (v := (-4)) dX0_firstKind_77 rfl (by decide) ?_
                      refine z_icmp_eq (tgt := 85) dX0_firstKind_79 rfl (by decide) (fun c79 => ?_) (fun c79 => ?_)
                      · refine z_iinc_7 (v := nI (re + 1)) dX0_firstKind_85 rfl (zinc _) ?_
                        refine z_goto (tgt := 50) dX0_firstKind_88 (by decide) ?_
                        have K9 := (K (by simp only [X0_firstKind_L50_B, if_pos c79]))
                        try simp only [X0_firstKind_L50_F, if_pos c79] at K9
                        exact K9 _
                      · refine z_iload dX0_firstKind_82 rfl rfl ?_
                        exact z_ireturn dX0_firstKind_84 rfl rfl (Nat.le_refl _) (Nat.le_refl _) (fun _ => rfl) (Ko (X0_judge_v rows outc ts5 now (X0_setRelation_c65 rl5 ra rb rc rd re) tt5 ba, X0_judge_p59_2 rows outc ts5 now (X0_setRelation_c65 rl5 ra rb rc rd re) tt5 ba, X0_setRelation_c65 rl5 ra rb rc rd re, X0_judge_c66 rows outc ts5 now (X0_setRelation_c65 rl5 ra rb rc rd re) tt5 ba) (by simp only [X0_firstKind_L50_B, if_neg c79]))
                  · intro b a9 hz50
                    exact (Ko (b.1, b.2.1, b.2.2.1, b.2.2.2) (by simp only [X0_firstKind_L38_B, hz50, zpick_s]))
                  · intro a9 hz50 hI
                    obtain ⟨rl5, ts5, tt5⟩ := a9
                    intro y8
                    refine z_iload dX0_firstKind_50 rfl rfl ?_
                    refine z_iload_n dX0_firstKind_52 rfl rfl ?_
                    refine z_icmp_ge (tgt := 91) dX0_firstKind_53 rfl (by decide) (fun c53 => ?_) (fun c53 => ?_)
                    · refine z_iinc_6 (v := nI (rd + 1)) dX0_firstKind_91 rfl (zinc _) ?_
                      refine z_goto (tgt := 38) dX0_firstKind_94 (by decide) ?_
                      have K9 := (K (by simp only [X0_firstKind_L38_B, hz50, zpick_n]))
                      try simp only [X0_firstKind_L38_F, hz50, zpick_n] at K9
                      exact K9 _ _
                    · exact absurd (nI_le (Nat.le_refl _) (by omega)) c53
              · intro b a9 hz38
                exact (Ko (b.1, b.2.1, b.2.2.1, b.2.2.2) (by simp only [X0_firstKind_L26_B, hz38, zpick_s]))
              · intro a9 hz38 hI
                obtain ⟨rl4, ts4, tt4⟩ := a9
                intro y7 y8
                refine z_iload dX0_firstKind_38 rfl rfl ?_
                refine z_iload_n dX0_firstKind_40 rfl rfl ?_
                refine z_icmp_ge (tgt := 97) dX0_firstKind_41 rfl (by decide) (fun c41 => ?_) (fun c41 => ?_)
                · refine z_iinc_5 (v := nI (rc + 1)) dX0_firstKind_97 rfl (zinc _) ?_
                  refine z_goto (tgt := 26) dX0_firstKind_100 (by decide) ?_
                  have K9 := (K (by simp only [X0_firstKind_L26_B, hz38, zpick_n]))
                  try simp only [X0_firstKind_L26_F, hz38, zpick_n] at K9
                  exact K9 _ _ _
                · exact absurd (nI_le (Nat.le_refl _) (by omega)) c41
          · intro b a9 hz26
            exact (Ko (b.1, b.2.1, b.2.2.1, b.2.2.2) (by simp only [X0_firstKind_L14_B, hz26, zpick_s]))
          · intro a9 hz26 hI
            obtain ⟨rl3, ts3, tt3⟩ := a9
            intro y6 y7 y8
            refine z_iload dX0_firstKind_26 rfl rfl ?_
            refine z_iload_n dX0_firstKind_28 rfl rfl ?_
            refine z_icmp_ge (tgt := 103) dX0_firstKind_29 rfl (by decide) (fun c29 => ?_) (fun c29 => ?_)
            · refine z_iinc_4 (v := nI (rb + 1)) dX0_firstKind_103 rfl (zinc _) ?_
              refine z_goto (tgt := 14) dX0_firstKind_106 (by decide) ?_
              have K9 := (K (by simp only [X0_firstKind_L14_B, hz26, zpick_n]))
              try simp only [X0_firstKind_L14_F, hz26, zpick_n] at K9
              exact K9 _ _ _ _
            · exact absurd (nI_le (Nat.le_refl _) (by omega)) c29
      · intro b a9 hz14
        exact (Ko (b.1, b.2.1, b.2.2.1, b.2.2.2) (by simp only [X0_firstKind_L6_B, hz14, zpick_s]))
      · intro a9 hz14 _
        obtain ⟨rl2, ts2, tt2⟩ := a9
        intro y5 y6 y7 y8
        refine z_iload dX0_firstKind_14 rfl rfl ?_
        refine z_iload_n dX0_firstKind_16 rfl rfl ?_
        refine z_icmp_ge (tgt := 109) dX0_firstKind_17 rfl (by decide) (fun c17 => ?_) (fun c17 => ?_)
        · refine z_iinc_3 (v := nI (ra + 1)) dX0_firstKind_109 rfl (zinc _) ?_
          refine z_goto (tgt := 6) dX0_firstKind_112 (by decide) ?_
          have K9 := (K (by simp only [X0_firstKind_L6_B, hz14, zpick_n]))
          try simp only [X0_firstKind_L6_F, hz14, zpick_n] at K9
          exact K9 _ _ _ _ _
        · exact absurd (nI_le (Nat.le_refl _) (by omega)) c17
  · intro b a9 hz6
    exact ⟨by simp only [X0_firstKind_v, hz6, zpick_s], by simp only [X0_firstKind_p59_2, X0_firstKind_c65, X0_firstKind_c66, hz6, zpick_s]⟩
  · intro a9 hz6 _
    obtain ⟨rl1, ts1, tt1⟩ := a9
    intro y4 y5 y6 y7 y8
    refine z_iload_n dX0_firstKind_6 rfl rfl ?_
    refine z_iload_n dX0_firstKind_7 rfl rfl ?_
    refine z_icmp_ge (tgt := 115) dX0_firstKind_8 rfl (by decide) (fun c8 => ?_) (fun c8 => ?_)
    · refine z_bipush (v := (-4)) dX0_firstKind_115 rfl (by decide) ?_
      exact z_ireturn dX0_firstKind_117 rfl rfl (Nat.le_refl _) (Nat.le_refl _) (fun _ => rfl) ⟨by simp only [X0_firstKind_v, hz6, zpick_n], by simp only [X0_firstKind_p59_2, X0_firstKind_c65, X0_firstKind_c66, hz6, zpick_n]⟩
    · exact absurd (nI_le (Nat.le_refl _) (by omega)) c8
