/-! ===== what is known of signs: the class's table of all orders against the reference's table of rising triples ===== -/
def cvN (x : Int32) : Int32 := if x = nI 9 then -4 else -x
/-- the class's table holds the signs E of rising triples of points below n -/
def NS3 (n : Nat) (now : Nat → Int32) (E : Nat → Nat → Nat → Int32) : Prop := ∀ x y z, x < y → y < z → z < n →
  (now ((((x * 10) + y) * 10) + z) = cvJ (E x y z) ∧ now ((((y * 10) + z) * 10) + x) = cvJ (E x y z) ∧ now ((((z * 10) + x) * 10) + y) = cvJ (E x y z)) ∧
  now ((((y * 10) + x) * 10) + z) = cvN (E x y z) ∧ now ((((x * 10) + z) * 10) + y) = cvN (E x y z) ∧ now ((((z * 10) + y) * 10) + x) = cvN (E x y z)
def upE (E : Nat → Nat → Nat → Int32) (a b c : Nat) (v : Int32) : Nat → Nat → Nat → Int32 := fun x y z => if x = a ∧ y = b ∧ z = c then v else E x y z
theorem dne {a b c d e f : Nat} (hb : b < 10) (hc : c < 10) (he : e < 10) (hf : f < 10) (h : ¬ (a = d ∧ b = e ∧ c = f)) : (((a * 10) + b) * 10) + c ≠ (((d * 10) + e) * 10) + f := by
  intro q
  have h1 : a = d := by omega
  subst h1
  have h2 : b = e := by omega
  subst h2
  exact h ⟨rfl, rfl, by omega⟩
theorem setNow_other {now : Nat → Int32} {a b c : Nat} {v : Int32} {i : Nat} (h1 : i ≠ (((a * 10) + b) * 10) + c) (h2 : i ≠ (((b * 10) + c) * 10) + a) (h3 : i ≠ (((c * 10) + a) * 10) + b) (h4 : i ≠ (((b * 10) + a) * 10) + c) (h5 : i ≠ (((a * 10) + c) * 10) + b) (h6 : i ≠ (((c * 10) + b) * 10) + a) : X0_setNow_c64 now a b c v i = now i := by
  unfold X0_setNow_c64
  rw [pk_un h6, pk_un h5, pk_un h4, pk_un h3, pk_un h2, pk_un h1]
theorem NS3_set {n : Nat} {now : Nat → Int32} {E : Nat → Nat → Nat → Int32} {a b c : Nat} {v : Int32} (h : NS3 n now E) (hab : a < b) (hbc : b < c) (hc : c < 10) (hn : n ≤ 10) (hv : v ≠ nI 9) : NS3 n (X0_setNow_c64 now a b c v) (upE E a b c v) := by
  intro x y z hxy hyz hz
  by_cases q : x = a ∧ y = b ∧ z = c
  · obtain ⟨rfl, rfl, rfl⟩ := q
    have e1 : upE E x y z v x y z = v := if_pos ⟨rfl, rfl, rfl⟩
    have e2 : cvJ v = v := if_neg hv
    have e3 : cvN v = -v := if_neg hv
    rw [e1, e2, e3]
    unfold X0_setNow_c64
    refine ⟨⟨?_, ?_, ?_⟩, ?_, ?_, ?_⟩
    · rw [pk_un (dne (by omega) (by omega) (by omega) (by omega) (by omega)), pk_un (dne (by omega) (by omega) (by omega) (by omega) (by omega)), pk_un (dne (by omega) (by omega) (by omega) (by omega) (by omega)), pk_un (dne (by omega) (by omega) (by omega) (by omega) (by omega)), pk_un (dne (by omega) (by omega) (by omega) (by omega) (by omega)), pk_us]
    · rw [pk_un (dne (by omega) (by omega) (by omega) (by omega) (by omega)), pk_un (dne (by omega) (by omega) (by omega) (by omega) (by omega)), pk_un (dne (by omega) (by omega) (by omega) (by omega) (by omega)), pk_un (dne (by omega) (by omega) (by omega) (by omega) (by omega)), pk_us]
    · rw [pk_un (dne (by omega) (by omega) (by omega) (by omega) (by omega)), pk_un (dne (by omega) (by omega) (by omega) (by omega) (by omega)), pk_un (dne (by omega) (by omega) (by omega) (by omega) (by omega)), pk_us]
    · rw [pk_un (dne (by omega) (by omega) (by omega) (by omega) (by omega)), pk_un (dne (by omega) (by omega) (by omega) (by omega) (by omega)), pk_us]
    · rw [pk_un (dne (by omega) (by omega) (by omega) (by omega) (by omega)), pk_us]
    · rw [pk_us]
  · have e1 : upE E a b c v x y z = E x y z := if_neg q
    obtain ⟨⟨g1, g2, g3⟩, g4, g5, g6⟩ := h x y z hxy hyz hz
    rw [e1]
    have q1 : x ≠ a ∨ y ≠ b ∨ z ≠ c := by omega
    refine ⟨⟨?_, ?_, ?_⟩, ?_, ?_, ?_⟩
    · rw [setNow_other (dne (by omega) (by omega) (by omega) (by omega) (by omega)) (dne (by omega) (by omega) (by omega) (by omega) (by omega)) (dne (by omega) (by omega) (by omega) (by omega) (by omega)) (dne (by omega) (by omega) (by omega) (by omega) (by omega)) (dne (by omega) (by omega) (by omega) (by omega) (by omega)) (dne (by omega) (by omega) (by omega) (by omega) (by omega))]; exact g1
    · rw [setNow_other (dne (by omega) (by omega) (by omega) (by omega) (by omega)) (dne (by omega) (by omega) (by omega) (by omega) (by omega)) (dne (by omega) (by omega) (by omega) (by omega) (by omega)) (dne (by omega) (by omega) (by omega) (by omega) (by omega)) (dne (by omega) (by omega) (by omega) (by omega) (by omega)) (dne (by omega) (by omega) (by omega) (by omega) (by omega))]; exact g2
    · rw [setNow_other (dne (by omega) (by omega) (by omega) (by omega) (by omega)) (dne (by omega) (by omega) (by omega) (by omega) (by omega)) (dne (by omega) (by omega) (by omega) (by omega) (by omega)) (dne (by omega) (by omega) (by omega) (by omega) (by omega)) (dne (by omega) (by omega) (by omega) (by omega) (by omega)) (dne (by omega) (by omega) (by omega) (by omega) (by omega))]; exact g3
    · rw [setNow_other (dne (by omega) (by omega) (by omega) (by omega) (by omega)) (dne (by omega) (by omega) (by omega) (by omega) (by omega)) (dne (by omega) (by omega) (by omega) (by omega) (by omega)) (dne (by omega) (by omega) (by omega) (by omega) (by omega)) (dne (by omega) (by omega) (by omega) (by omega) (by omega)) (dne (by omega) (by omega) (by omega) (by omega) (by omega))]; exact g4
    · rw [setNow_other (dne (by omega) (by omega) (by omega) (by omega) (by omega)) (dne (by omega) (by omega) (by omega) (by omega) (by omega)) (dne (by omega) (by omega) (by omega) (by omega) (by omega)) (dne (by omega) (by omega) (by omega) (by omega) (by omega)) (dne (by omega) (by omega) (by omega) (by omega) (by omega)) (dne (by omega) (by omega) (by omega) (by omega) (by omega))]; exact g5
    · rw [setNow_other (dne (by omega) (by omega) (by omega) (by omega) (by omega)) (dne (by omega) (by omega) (by omega) (by omega) (by omega)) (dne (by omega) (by omega) (by omega) (by omega) (by omega)) (dne (by omega) (by omega) (by omega) (by omega) (by omega)) (dne (by omega) (by omega) (by omega) (by omega) (by omega)) (dne (by omega) (by omega) (by omega) (by omega) (by omega))]; exact g6
theorem NS3_ext {n : Nat} {now : Nat → Int32} {E E' : Nat → Nat → Nat → Int32} (h : NS3 n now E) (he : ∀ x y z, x < y → y < z → z < n → E x y z = E' x y z) : NS3 n now E' := by
  intro x y z hxy hyz hz
  rw [← he x y z hxy hyz hz]
  exact h x y z hxy hyz hz
/-- what is told of a rising triple in the class: 9 where nothing is -/
def tvE (fl ori : Nat → Int32) (x y z : Nat) : Int32 := if fl (spN x y z) = 0 ∧ ori (spN x y z) = 0 then nI 9 else ori (spN x y z)
def doneE (fl ori : Nat → Int32) (h m l : Nat) : Nat → Nat → Nat → Int32 := fun x y z => if z < h ∨ (z = h ∧ (y < m ∨ (y = m ∧ x < l))) then tvE fl ori x y z else nI 9
theorem gather_step {fl ori : Nat → Int32} {n h m l : Nat} {now : Nat → Int32} (hv : ∀ k, ori k ≠ nI 9) (hN : NS3 n now (doneE fl ori h m l)) (hl : l < m) (hm : m < h) (hh : h < 10) (hn : n ≤ 10) : NS3 n (X0_gather_L27_F fl ori h m l now) (doneE fl ori h m (l + 1)) := by
  have key : ∀ x y z, x < y → y < z → z < n → doneE fl ori h m (l + 1) x y z = if x = l ∧ y = m ∧ z = h then tvE fl ori l m h else doneE fl ori h m l x y z := by
    intro x y z hxy hyz hz
    unfold doneE
    by_cases q : x = l ∧ y = m ∧ z = h
    · obtain ⟨rfl, rfl, rfl⟩ := q
      rw [if_pos (by omega), if_pos ⟨rfl, rfl, rfl⟩]
    · rw [if_neg q]
      by_cases q2 : z < h ∨ (z = h ∧ (y < m ∨ (y = m ∧ x < l)))
      · rw [if_pos q2, if_pos (by omega)]
      · rw [if_neg q2, if_neg (by omega)]
  have set : ∀ v, v ≠ nI 9 → tvE fl ori l m h = v → NS3 n (X0_setNow_c64 now l m h v) (doneE fl ori h m (l + 1)) := by
    intro v hv9 e
    refine NS3_ext (NS3_set hN hl hm hh hn hv9) (fun x y z h1 h2 h3 => ?_)
    rw [key x y z h1 h2 h3, e]
    rfl
  unfold X0_gather_L27_F
  split
  · rename_i c1
    split
    · rename_i c2
      refine NS3_ext hN (fun x y z h1 h2 h3 => ?_)
      rw [key x y z h1 h2 h3]
      by_cases q : x = l ∧ y = m ∧ z = h
      · obtain ⟨rfl, rfl, rfl⟩ := q
        rw [if_pos ⟨rfl, rfl, rfl⟩]
        unfold doneE tvE
        rw [if_neg (by omega), if_pos ⟨c1, c2⟩]
      · rw [if_neg q]
    · rename_i c2
      exact set _ (hv _) (if_neg (fun q => c2 q.2))
  · rename_i c1
    exact set _ (hv _) (if_neg (fun q => c1 q.1))
theorem gather0 {fl ori : Nat → Int32} {n : Nat} {now : Nat → Int32} (hv : ∀ k, ori k ≠ nI 9) (hn : n ≤ 10) (h0 : ∀ i, i < 1000 → now i = -4) : NS3 n (zfold (X0_gather_L11_F fl ori) 8 2 now) (tvE fl ori) := by
  have key := zfold_I (n := 10) (fun h (a : Nat → Int32) => 2 ≤ h ∧ NS3 n a (doneE fl ori h 1 0)) (F := X0_gather_L11_F fl ori) (fun h a hh hI => ?_) 8 2 now (by decide) ⟨Nat.le_refl _, ?_⟩
  · refine NS3_ext key.2 (fun x y z h1 h2 h3 => ?_)
    unfold doneE
    rw [if_pos (by omega)]
  · refine ⟨by omega, ?_⟩
    unfold X0_gather_L11_F
    have k2 := zfold_I (n := h) (fun m (a : Nat → Int32) => 1 ≤ m ∧ NS3 n a (doneE fl ori h m 0)) (F := X0_gather_L19_F fl ori h) (fun m a hm hI2 => ?_) (h - 1) 1 a (by omega) ⟨Nat.le_refl _, hI.2⟩
    · refine NS3_ext k2.2 (fun x y z h1 h2 h3 => ?_)
      unfold doneE
      by_cases q : z < h + 1
      · rw [if_pos (by omega), if_pos (by omega)]
      · rw [if_neg (by omega), if_neg (by omega)]
    · refine ⟨by omega, ?_⟩
      unfold X0_gather_L19_F
      have k3 := zfold_I (n := m) (fun l (a : Nat → Int32) => NS3 n a (doneE fl ori h m l)) (F := X0_gather_L27_F fl ori h m) (fun l a hl hI3 => gather_step hv hI3 hl hm hh hn) m 0 a (by omega) hI2.2
      refine NS3_ext k3 (fun x y z h1 h2 h3 => ?_)
      unfold doneE
      by_cases q : z < h ∨ (z = h ∧ (y < m + 1 ∨ (y = m + 1 ∧ x < 0)))
      · rw [if_pos (by omega), if_pos q]
      · rw [if_neg (by omega), if_neg q]
  · intro x y z h1 h2 h3
    have e : doneE fl ori 2 1 0 x y z = nI 9 := if_neg (by omega)
    rw [e]
    exact ⟨⟨h0 _ (by omega), h0 _ (by omega), h0 _ (by omega)⟩, h0 _ (by omega), h0 _ (by omega), h0 _ (by omega)⟩
theorem fill_at {n : Nat} {v : Int32} : ∀ (d i : Nat) (f : Nat → Int32) (j : Nat), zfold (fun i f => upd f i v) d i f j = if i ≤ j ∧ j < i + d then v else f j := by
  intro d
  induction d with
  | zero => intro i f j; show f j = _; rw [if_neg (by omega)]
  | succ d ih =>
    intro i f j
    show zfold (fun i f => upd f i v) d (i + 1) (upd f i v) j = _
    rw [ih]
    simp only [upd]
    by_cases c1 : j = i
    · rw [if_neg (by omega), if_pos c1, if_pos (by omega)]
    · by_cases c2 : i + 1 ≤ j ∧ j < i + 1 + d
      · rw [if_pos c2, if_pos (by omega)]
      · rw [if_neg c2, if_neg c1, if_neg (by omega)]
/-- the reference's table -/
def rvE (lns ors : Nat) (lm om os : Nat → Int32) (a b c : Nat) : Int32 := if (X7_isFlat_v lns lm (X7_maskOf_v (nI a) (nI b) (nI c))) = 0 then (if (X7_orientAt_v ors om (X7_maskOf_v (nI a) (nI b) (nI c))) = (-4) then nI 9 else os (X7_orientAt_v ors om (X7_maskOf_v (nI a) (nI b) (nI c))).toNatClampNeg) else nI 0
theorem lay27 {lns ors : Nat} {lm om os : Nat → Int32} {a b c : Nat} {f : Nat → Int32} : X7_layTable_L27_F lns ors lm om os a b c f = upd f (((100 * a) + (10 * b)) + c) (rvE lns ors lm om os a b c) := by
  unfold X7_layTable_L27_F rvE
  repeat' split
  all_goals rfl
theorem layTable0 {pts lns ors : Nat} {lm om os sg : Nat → Int32} (hp : pts ≤ 10) : ∀ x y z, x < y → y < z → z < pts → zfold (X7_layTable_L2_F pts lns ors lm om os) pts 0 sg (((100 * x) + (10 * y)) + z) = rvE lns ors lm om os x y z := by
  have key := zfold_I (n := pts) (fun a (f : Nat → Int32) => ∀ x y z, x < y → y < z → z < pts → x < a → f (((100 * x) + (10 * y)) + z) = rvE lns ors lm om os x y z) (F := X7_layTable_L2_F pts lns ors lm om os) (fun a f ha hI => ?_) pts 0 sg (by omega) (fun x y z _ _ _ h => absurd h (Nat.not_lt_zero x))
  · exact fun x y z h1 h2 h3 => key x y z h1 h2 h3 (by omega)
  · unfold X7_layTable_L2_F
    have k2 := zfold_I (n := pts) (fun b (f : Nat → Int32) => a + 1 ≤ b ∧ ∀ x y z, x < y → y < z → z < pts → (x < a ∨ (x = a ∧ y < b)) → f (((100 * x) + (10 * y)) + z) = rvE lns ors lm om os x y z) (F := X7_layTable_L14_F pts lns ors lm om os a) (fun b f hb hI2 => ?_) (pts - (a + 1)) (a + 1) f (by omega) ⟨Nat.le_refl _, fun x y z h1 h2 h3 h4 => hI x y z h1 h2 h3 (by omega)⟩
    · exact fun x y z h1 h2 h3 h4 => k2.2 x y z h1 h2 h3 (by omega)
    · refine ⟨by omega, ?_⟩
      unfold X7_layTable_L14_F
      have k3 := zfold_I (n := pts) (fun c (f : Nat → Int32) => b + 1 ≤ c ∧ ∀ x y z, x < y → y < z → z < pts → (x < a ∨ (x = a ∧ (y < b ∨ (y = b ∧ z < c)))) → f (((100 * x) + (10 * y)) + z) = rvE lns ors lm om os x y z) (F := X7_layTable_L27_F lns ors lm om os a b) (fun c f hc hI3 => ?_) (pts - (b + 1)) (b + 1) f (by omega) ⟨Nat.le_refl _, fun x y z h1 h2 h3 h4 => hI2.2 x y z h1 h2 h3 (by omega)⟩
      · exact fun x y z h1 h2 h3 h4 => k3.2 x y z h1 h2 h3 (by omega)
      · refine ⟨by omega, fun x y z h1 h2 h3 h4 => ?_⟩
        rw [lay27]
        simp only [upd]
        by_cases q : x = a ∧ y = b ∧ z = c
        · obtain ⟨rfl, rfl, rfl⟩ := q
          rw [if_pos rfl]
        · rw [if_neg (by omega)]
          exact hI3.2 x y z h1 h2 h3 (by omega)
