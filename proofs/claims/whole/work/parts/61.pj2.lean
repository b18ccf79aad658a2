/-! ===== the class's judge by what its six signs are ===== -/
def jdF (J : Nat → Nat → Int32) (tm : Nat) (a9 : (Int32) × (Int32) × (Int32)) : (Int32) × (Int32) × (Int32) := if (J tm 0) = (-4) then (if a9.1 = (-4) then (if (J tm 0) = (J tm 1) then (a9.1, a9.2.1, a9.2.2) else (nI tm, a9.2.1, a9.2.2)) else (a9.1, a9.2.1, a9.2.2)) else (if (J tm 1) = (-4) then (if a9.1 = (-4) then (if (J tm 0) = (J tm 1) then (a9.1, a9.2.1, a9.2.2) else (nI tm, a9.2.1, a9.2.2)) else (a9.1, a9.2.1, a9.2.2)) else (if (((ttI tm) * (J tm 0)) * (J tm 1)) ≤ 0 then (if 0 ≤ (((ttI tm) * (J tm 0)) * (J tm 1)) then (a9.1, a9.2.1 + (nI 0), a9.2.2 + (nI 0)) else (a9.1, a9.2.1 + (nI 0), a9.2.2 + (nI 1))) else (if 0 ≤ (((ttI tm) * (J tm 0)) * (J tm 1)) then (a9.1, a9.2.1 + (nI 1), a9.2.2 + (nI 0)) else (a9.1, a9.2.1 + (nI 1), a9.2.2 + (nI 1)))))
def jdB (J : Nat → Nat → Int32) (tm : Nat) (a9 : (Int32) × (Int32) × (Int32)) : Option Unit := if (J tm 0) = (-4) then (if a9.1 = (-4) then (if (J tm 0) = (J tm 1) then (some ()) else none) else (some ())) else (if (J tm 1) = (-4) then (if a9.1 = (-4) then (if (J tm 0) = (J tm 1) then (some ()) else none) else (some ())) else none)
def jdA (J : Nat → Nat → Int32) : Option Unit × ((Int32) × (Int32) × (Int32)) := zfoldB (jdB J) (jdF J) 3 0 ((-4), nI 0, nI 0)
def tlD (J : Nat → Nat → Int32) (tm : Nat) (due : Int32) : Nat × Nat × Nat × Int32 := if J tm 0 = (-4) then (if J tm 1 = 0 then (0, 0, 0, 0) else (2, tm, 0, (due * ttI tm) * J tm 1)) else (if J tm 0 = 0 then (0, 0, 0, 0) else (2, tm, 1, (due * ttI tm) * J tm 0))
def jdK (J : Nat → Nat → Int32) (am : (Int32) × (Int32) × (Int32)) : Nat × Nat × Nat × Int32 := if am.2.1 ≤ 0 then (if am.2.2 ≤ 0 then (if am.1 = (-4) then (0, 0, 0, 0) else tlD J am.1.toNatClampNeg (nI 0)) else (if am.1 = (-4) then (1, 0, 0, 0) else tlD J am.1.toNatClampNeg (nI 1))) else (if am.2.2 ≤ 0 then (if am.1 = (-4) then (1, 0, 0, 0) else tlD J am.1.toNatClampNeg (-1)) else (0, 0, 0, 0))
/-- what the class's look says: 0 nothing, 1 a contradiction, 2 a sign: term, side, value -/
def jdD (J : Nat → Nat → Int32) : Nat × Nat × Nat × Int32 := zpick (jdA J) (fun _ => (0, 0, 0, 0)) (fun am => jdK J am)
theorem zfoldB_const {α β : Type} {B : Nat → α → Option β} {B' : Nat → α → Option Unit} {F : Nat → α → α} {b0 : β} (h : ∀ i a, B i a = (B' i a).map (fun _ => b0)) : ∀ (d i : Nat) (a : α), zfoldB B F d i a = ((zfoldB B' F d i a).1.map (fun _ => b0), (zfoldB B' F d i a).2) := by
  intro d
  induction d with
  | zero => intro i a; rfl
  | succ d ih =>
    intro i a
    simp only [zfoldB]
    rw [h i a]
    cases B' i a with
    | none => exact ih (i + 1) (F i a)
    | some u => rfl
theorem judge_fold {ts : Int32} {now rl tt : Nat → Int32} : zfoldB (X0_judge_L10_B ts now rl tt) (X0_judge_L10_F now rl) 3 0 ((-4), nI 0, nI 0) = ((jdA (X0_signIn_v now rl)).1.map (fun _ => ((-4 : Int32), ts, tt)), (jdA (X0_signIn_v now rl)).2) := by
  refine zfoldB_const (B' := jdB (X0_signIn_v now rl)) (F := jdF (X0_signIn_v now rl)) (b0 := ((-4 : Int32), ts, tt)) (fun i a => ?_) 3 0 _
  unfold X0_judge_L10_B jdB
  repeat' split
  all_goals rfl
/-- the three points of one of the six signs -/
def jr (rl : Nat → Int32) (tm op i : Nat) : Nat := if i = 0 then (rl 0).toNatClampNeg else if i = 1 then (rl (beN ((4 * tm) + (2 * op)))).toNatClampNeg else (rl (beN (((4 * tm) + (2 * op)) + 1))).toNatClampNeg
def tlTt (tt : Nat → Int32) (R0 R1 R2 : Int32) : Nat → Int32 := upd (upd (upd tt 0 (if (if R2 < R1 then R2 else R1) < R0 then (if R2 < R1 then R2 else R1) else R0)) 2 (if R0 < (if R1 < R2 then R2 else R1) then (if R1 < R2 then R2 else R1) else R0)) 1 ((((R0 + R1) + R2) - ((upd (upd tt 0 (if (if R2 < R1 then R2 else R1) < R0 then (if R2 < R1 then R2 else R1) else R0)) 2 (if R0 < (if R1 < R2 then R2 else R1) then (if R1 < R2 then R2 else R1) else R0)) 0)) - ((upd (upd tt 0 (if (if R2 < R1 then R2 else R1) < R0 then (if R2 < R1 then R2 else R1) else R0)) 2 (if R0 < (if R1 < R2 then R2 else R1) then (if R1 < R2 then R2 else R1) else R0)) 2))
def jT (rl : Nat → Int32) (tm op : Nat) : Int32 := X5_turnOf_v (nI (jr rl tm op 0)) (nI (jr rl tm op 1)) (nI (jr rl tm op 2))
def jV (rl ba : Nat → Int32) (q : Nat × Nat × Nat × Int32) : Int32 := if q.1 = 0 then (-4) else if q.1 = 1 then nI 1 else if q.2.2.2 * jT rl q.2.1 q.2.2.1 = 0 then (if ba (spN (jr rl q.2.1 q.2.2.1 0) (jr rl q.2.1 q.2.2.1 1) (jr rl q.2.1 q.2.2.1 2)) = 0 then nI 0 else nI 2) else nI 0
def jS (rl : Nat → Int32) (ts : Int32) (q : Nat × Nat × Nat × Int32) : Int32 := if q.1 = 2 then q.2.2.2 * jT rl q.2.1 q.2.2.1 else ts
def jTt (rl tt : Nat → Int32) (q : Nat × Nat × Nat × Int32) : Nat → Int32 := if q.1 = 2 then tlTt tt (nI (jr rl q.2.1 q.2.2.1 0)) (nI (jr rl q.2.1 q.2.2.1 1)) (nI (jr rl q.2.1 q.2.2.1 2)) else tt
theorem tell_v {now rl ba : Nat → Int32} {tm : Nat} {due : Int32} : X0_tell_v now rl ba tm due = jV rl ba (tlD (X0_signIn_v now rl) tm due) := by
  unfold X0_tell_v tlD
  simp only [show 1 - 0 = 1 from rfl, show 1 - 1 = 0 from rfl]
  split
  · split
    · rfl
    · rfl
  · split
    · rfl
    · rfl
theorem tell_s {ts : Int32} {now rl ba : Nat → Int32} {tm : Nat} {due : Int32} : X0_tell_p59_2 ts now rl ba tm due = jS rl ts (tlD (X0_signIn_v now rl) tm due) := by
  unfold X0_tell_p59_2 tlD
  simp only [show 1 - 0 = 1 from rfl, show 1 - 1 = 0 from rfl]
  split
  · split
    · rfl
    · repeat' split
      all_goals rfl
  · split
    · rfl
    · repeat' split
      all_goals rfl
theorem tell_t {now rl tt ba : Nat → Int32} {tm : Nat} {due : Int32} : X0_tell_c66 now rl tt ba tm due = jTt rl tt (tlD (X0_signIn_v now rl) tm due) := by
  unfold X0_tell_c66 tlD
  simp only [show 1 - 0 = 1 from rfl, show 1 - 1 = 0 from rfl]
  split
  · split
    · rfl
    · split
      · split
        · rfl
        · rfl
      · rfl
  · split
    · rfl
    · split
      · split
        · rfl
        · rfl
      · rfl
theorem judge_v {rows outc ts : Int32} {now rl tt ba : Nat → Int32} : X0_judge_v rows outc ts now rl tt ba = jV rl ba (jdD (X0_signIn_v now rl)) := by
  unfold X0_judge_v jdD
  rw [judge_fold]
  cases h : (jdA (X0_signIn_v now rl)) with
  | mk o am =>
    cases o with
    | some u => rfl
    | none =>
      show (if am.2.1 ≤ 0 then _ else _) = jV rl ba (jdK _ am)
      unfold jdK
      simp only [tell_v]
      repeat' split
      all_goals rfl
theorem judge_s {rows outc ts : Int32} {now rl tt ba : Nat → Int32} : X0_judge_p59_2 rows outc ts now rl tt ba = jS rl ts (jdD (X0_signIn_v now rl)) := by
  unfold X0_judge_p59_2 jdD
  rw [judge_fold]
  cases h : (jdA (X0_signIn_v now rl)) with
  | mk o am =>
    cases o with
    | some u => rfl
    | none =>
      show (if am.2.1 ≤ 0 then _ else _) = jS rl ts (jdK _ am)
      unfold jdK
      simp only [tell_s]
      repeat' split
      all_goals rfl
theorem judge_t {rows outc ts : Int32} {now rl tt ba : Nat → Int32} : X0_judge_c66 rows outc ts now rl tt ba = jTt rl tt (jdD (X0_signIn_v now rl)) := by
  unfold X0_judge_c66 jdD
  rw [judge_fold]
  cases h : (jdA (X0_signIn_v now rl)) with
  | mk o am =>
    cases o with
    | some u => rfl
    | none =>
      show (if am.2.1 ≤ 0 then _ else _) = jTt rl tt (jdK _ am)
      unfold jdK
      simp only [tell_t]
      repeat' split
      all_goals rfl
