/-! ===== the places of a field and their values, in both ===== -/
def pn (f k i : Nat) : Nat := if f = 0 then (if i = 0 then 1 else if i = 1 then k / 5 else k % 5) else if k = 0 then (if i = 2 then 1 else 0) else if k ≤ f then (if i = 0 then 0 else if i = 1 then 1 else k - 1) else (if i = 0 then 1 else if i = 1 then (k - f - 1) / f else (k - f - 1) % f)
def nPl (f : Nat) : Nat := if f = 0 then 25 else f * f + f + 1
def FLD (f : Nat) : Prop := f = 0 ∨ PR f
theorem FLD_b {f : Nat} (h : FLD f) : f ≤ 13 := by
  rcases h with h | h
  · omega
  · exact (PR_b h).2
def isF (f : Nat) : Bool := f == 0 || (f == 2 || (f == 3 || (f == 5 || (f == 7 || (f == 11 || f == 13)))))
theorem FLD_isF {f : Nat} (h : FLD f) : isF f = true := by
  rcases h with h | h | h | h | h | h | h <;> subst h <;> rfl
set_option maxRecDepth 100000 in
theorem part_all : allB (fun f => !(isF f) || allB (fun k => allB (fun i => decide (X7_part_v (nI f) (nI k) (nI i) = nI (pn f k i))) 3) 183) 14 = true := by decide +kernel
set_option maxRecDepth 100000 in
theorem pnle_all : allB (fun f => !(isF f) || allB (fun k => !(decide (k < nPl f)) || allB (fun i => decide (pn f k i ≤ 12)) 3) 183) 14 = true := by decide +kernel
theorem part_pn0 (f : Nat) (h14 : f < 14) (hf : FLD f) (k : Nat) (hk : k < 183) (i : Nat) (hi : i < 3) : X7_part_v (nI f) (nI k) (nI i) = nI (pn f k i) := by
  have e := allB_at part_all f h14
  rw [FLD_isF hf] at e
  exact of_decide_eq_true (allB_at (allB_at e k hk) i hi)
theorem pn_le0 (f : Nat) (h14 : f < 14) (hf : FLD f) (k : Nat) (hk : k < 183) (hn : k < nPl f) (i : Nat) (hi : i < 3) : pn f k i ≤ 12 := by
  have e := allB_at pnle_all f h14
  rw [FLD_isF hf] at e
  have e2 := allB_at e k hk
  rw [decide_eq_true hn] at e2
  exact of_decide_eq_true (allB_at e2 i hi)
theorem nPl_le0 : ∀ f, f < 14 → nPl f ≤ 183 := by decide +kernel
theorem nPl_ref0 : ∀ f, f < 14 → X7_placesOf_n f = nPl f := by decide +kernel
theorem nPl_pos (f : Nat) : 0 < nPl f := by unfold nPl; split <;> omega
section FL
variable {f : Nat}
theorem part_pn (hf : FLD f) {k i : Nat} (hk : k < 183) (hi : i < 3) : X7_part_v (nI f) (nI k) (nI i) = nI (pn f k i) := part_pn0 f (by have := FLD_b hf; omega) hf k hk i hi
theorem nPl_le (hf : FLD f) : nPl f ≤ 183 := nPl_le0 f (by have := FLD_b hf; omega)
theorem nPl_ref (hf : FLD f) : X7_placesOf_n f = nPl f := nPl_ref0 f (by have := FLD_b hf; omega)
theorem pn_le (hf : FLD f) {k i : Nat} (hk : k < nPl f) (hi : i < 3) : pn f k i ≤ 12 := pn_le0 f (by have := FLD_b hf; omega) hf k (by have := nPl_le hf; omega) hk i hi
end FL
def NUM (f : Nat) (n0 n1 n2 : Nat → Int32) (s : Nat) : Prop := ∀ k, k < s → n0 k = nI (pn f k 0) ∧ n1 k = nI (pn f k 1) ∧ n2 k = nI (pn f k 2)
theorem NUM_add {f : Nat} {n0 n1 n2 : Nat → Int32} {s x y z : Nat} (h : NUM f n0 n1 n2 s) (hx : pn f s 0 = x) (hy : pn f s 1 = y) (hz : pn f s 2 = z) : NUM f (upd n0 s (nI x)) (upd n1 s (nI y)) (upd n2 s (nI z)) (s + 1) := by
  intro k hk
  unfold upd
  by_cases c : k = s
  · subst c
    rw [if_pos rfl, if_pos rfl, if_pos rfl, hx, hy, hz]
    exact ⟨rfl, rfl, rfl⟩
  · rw [if_neg c, if_neg c, if_neg c]
    exact h k (by omega)
abbrev N4 := Nat × (Nat → Int32) × (Nat → Int32) × (Nat → Int32)
theorem ch_row0 {y : Nat} (hy : y < 5) {b : N4} (h1 : b.1 = y * 5) (h2 : NUM 0 b.2.1 b.2.2.1 b.2.2.2 b.1) : (X2_choose_L65_F y b).1 = (y + 1) * 5 ∧ NUM 0 (X2_choose_L65_F y b).2.1 (X2_choose_L65_F y b).2.2.1 (X2_choose_L65_F y b).2.2.2 (X2_choose_L65_F y b).1 := by
  have e := zfold_I (n := 5) (fun z (c : N4) => c.1 = y * 5 + z ∧ NUM 0 c.2.1 c.2.2.1 c.2.2.2 c.1) (F := X2_choose_L73_F y) (fun z c hz hc => ⟨by
    show c.1 + 1 = _
    rw [hc.1]
    omega, NUM_add hc.2 rfl (by
    rw [hc.1]
    show (y * 5 + z) / 5 = y
    omega) (by
    rw [hc.1]
    show (y * 5 + z) % 5 = z
    omega)⟩) 5 0 b (by omega) ⟨by omega, h2⟩
  exact ⟨e.1.trans (by omega), e.2⟩
theorem ch_row {f y : Nat} (hf : 0 < f) {b : N4} (h1 : b.1 = f + 1 + y * f) (h2 : NUM f b.2.1 b.2.2.1 b.2.2.2 b.1) : (X2_choose_L65v2_F f y b).1 = f + 1 + (y + 1) * f ∧ NUM f (X2_choose_L65v2_F f y b).2.1 (X2_choose_L65v2_F f y b).2.2.1 (X2_choose_L65v2_F f y b).2.2.2 (X2_choose_L65v2_F f y b).1 := by
  have e := zfold_I (n := f) (fun z (c : N4) => c.1 = f + 1 + y * f + z ∧ NUM f c.2.1 c.2.2.1 c.2.2.2 c.1) (F := X2_choose_L73v2_F y) (fun z c hz hc => ⟨by
    show c.1 + 1 = _
    rw [hc.1]
    omega, by
    have q1 : ¬ f = 0 := by omega
    have q2 : ¬ f + 1 + y * f + z = 0 := by omega
    have q3 : ¬ f + 1 + y * f + z ≤ f := by omega
    have q4 : f + 1 + y * f + z - f - 1 = f * y + z := by rw [Nat.mul_comm f y]; omega
    refine NUM_add hc.2 ?_ ?_ ?_
    · rw [hc.1]
      unfold pn
      rw [if_neg q1, if_neg q2, if_neg q3, if_pos rfl]
    · rw [hc.1]
      unfold pn
      rw [if_neg q1, if_neg q2, if_neg q3, if_neg (by decide), if_pos rfl, q4, Nat.mul_add_div hf, Nat.div_eq_of_lt hz, Nat.add_zero]
    · rw [hc.1]
      unfold pn
      rw [if_neg q1, if_neg q2, if_neg q3, if_neg (by decide), if_neg (by decide), q4, Nat.mul_add_mod, Nat.mod_eq_of_lt hz]⟩) f 0 b (by omega) ⟨by omega, h2⟩
  refine ⟨e.1.trans ?_, e.2⟩
  rw [Nat.add_mul]
  omega
theorem choose_is {f : Nat} (hf : FLD f) (n0 n1 n2 : Nat → Int32) : X2_choose_p41_0 n0 n1 n2 f = f ∧ X2_choose_p41_1 n0 n1 n2 f = nPl f ∧ NUM f (X2_choose_c43 n0 n1 n2 f) (X2_choose_c44 n0 n1 n2 f) (X2_choose_c45 n0 n1 n2 f) (nPl f) := by
  have hb := FLD_b hf
  unfold X2_choose_p41_0 X2_choose_p41_1 X2_choose_c43 X2_choose_c44 X2_choose_c45
  by_cases c : f = 0
  · subst c
    have e := zfold_I (n := 5) (fun y (b : N4) => b.1 = y * 5 ∧ NUM 0 b.2.1 b.2.2.1 b.2.2.2 b.1) (F := X2_choose_L65_F) (fun y b hy hb => ch_row0 hy hb.1 hb.2) 5 0 (0, n0, n1, n2) (by omega) ⟨rfl, fun k hk => absurd hk (Nat.not_lt_zero k)⟩
    have z : nI 0 = 0 := rfl
    simp only [if_pos z]
    generalize zfold X2_choose_L65_F 5 0 (0, n0, n1, n2) = r at e ⊢
    refine ⟨trivial, e.1, ?_⟩
    have e2 := e.2
    rw [e.1] at e2
    exact e2
  · have z : ¬ nI f = 0 := nI_ne0 (by omega) (by omega)
    simp only [if_neg z, zlet]
    have e1 := zfold_I (n := f) (fun k (b : N4) => b.1 = k + 1 ∧ NUM f b.2.1 b.2.2.1 b.2.2.2 b.1) (F := X2_choose_L26_F) (fun k b hk hb => ⟨by
      show b.1 + 1 = _
      rw [hb.1], by
      have q2 : ¬ k + 1 = 0 := by omega
      have q3 : k + 1 ≤ f := by omega
      refine NUM_add hb.2 ?_ ?_ ?_
      · rw [hb.1]
        unfold pn
        rw [if_neg c, if_neg q2, if_pos q3, if_pos rfl]
      · rw [hb.1]
        unfold pn
        rw [if_neg c, if_neg q2, if_pos q3, if_neg (by decide), if_pos rfl]
      · rw [hb.1]
        unfold pn
        rw [if_neg c, if_neg q2, if_pos q3, if_neg (by decide), if_neg (by decide)]
        omega⟩) f 0 (0 + 1, upd n0 0 (nI 0), upd n1 0 (nI 0), upd n2 0 (nI 1)) (by omega) ⟨rfl, NUM_add (s := 0) (fun k hk => absurd hk (Nat.not_lt_zero k)) (by unfold pn; rw [if_neg c, if_pos rfl, if_neg (by decide)]) (by unfold pn; rw [if_neg c, if_pos rfl, if_neg (by decide)]) (by unfold pn; rw [if_neg c, if_pos rfl, if_pos rfl])⟩
    generalize zfold X2_choose_L26_F f 0 (0 + 1, upd n0 0 (nI 0), upd n1 0 (nI 0), upd n2 0 (nI 1)) = r at e1 ⊢
    have e := zfold_I (n := f) (fun y (b : N4) => b.1 = f + 1 + y * f ∧ NUM f b.2.1 b.2.2.1 b.2.2.2 b.1) (F := X2_choose_L65v2_F f) (fun y b hy hb => ch_row (by omega) hb.1 hb.2) f 0 (r.1, r.2.1, r.2.2.1, r.2.2.2) (by omega) ⟨by
      show r.1 = _
      rw [e1.1]
      omega, e1.2⟩
    generalize zfold (X2_choose_L65v2_F f) f 0 (r.1, r.2.1, r.2.2.1, r.2.2.2) = s at e ⊢
    have es : s.1 = nPl f := by
      rw [e.1]
      unfold nPl
      rw [if_neg c]
      omega
    refine ⟨trivial, es, ?_⟩
    have e2 := e.2
    rw [es] at e2
    exact e2
/-- the reference's rows of numbers -/
def LAID (laid : Int32) (fs sc th : Nat → Int32) : Prop := laid = -4 ∨ ∃ f, FLD f ∧ laid = nI f ∧ NUM f fs sc th (nPl f)
theorem layField_is {f : Nat} (hf : FLD f) {laid : Int32} {fs sc th : Nat → Int32} (h : LAID laid fs sc th) : NUM f (X7_layField_c92 laid fs sc th f) (X7_layField_c93 laid fs sc th f) (X7_layField_c94 laid fs sc th f) (nPl f) := by
  unfold X7_layField_c92 X7_layField_c93 X7_layField_c94
  rw [nPl_ref hf]
  have hb := FLD_b hf
  by_cases c : nI f = laid
  · obtain ⟨n, hn⟩ : ∃ n, nPl f = n + 1 := ⟨nPl f - 1, by have := nPl_pos f; omega⟩
    have e : zfoldX (X7_layField_L2_B laid f) (X7_layField_L2_F laid f) (nPl f) 0 (fs, sc, th) = (0, (fs, sc, th)) := by
      rw [hn]
      have eB : X7_layField_L2_B laid f 0 (fs, sc, th) = some (fs, sc, th) := by unfold X7_layField_L2_B; rw [if_pos c]
      simp only [zfoldX, eB]
    rw [e]
    rcases h with h | ⟨f', hf', h, hN⟩
    · rw [h] at c
      exact absurd c (nI_n4 (by omega))
    · have : f = f' := (nI_eq (by omega) (by have := FLD_b hf'; omega)).mp (c.trans h)
      subst this
      exact hN
  · have key : ∀ (d i : Nat) (a : (Nat → Int32) × (Nat → Int32) × (Nat → Int32)), i + d = nPl f → NUM f a.1 a.2.1 a.2.2 i → NUM f (zfoldX (X7_layField_L2_B laid f) (X7_layField_L2_F laid f) d i a).2.1 (zfoldX (X7_layField_L2_B laid f) (X7_layField_L2_F laid f) d i a).2.2.1 (zfoldX (X7_layField_L2_B laid f) (X7_layField_L2_F laid f) d i a).2.2.2 (nPl f) := by
      intro d
      induction d with
      | zero =>
        intro i a hi hN
        have : i = nPl f := by omega
        subst this
        exact hN
      | succ d ih =>
        intro i a hi hN
        have eB : X7_layField_L2_B laid f i a = none := by unfold X7_layField_L2_B; rw [if_neg c]
        have eF : X7_layField_L2_F laid f i a = (upd a.1 i (nI (pn f i 0)), upd a.2.1 i (nI (pn f i 1)), upd a.2.2 i (nI (pn f i 2))) := by
          have := nPl_le hf
          unfold X7_layField_L2_F
          rw [if_neg c, part_pn hf (by omega) (by decide), part_pn hf (by omega) (by decide), part_pn hf (by omega) (by decide)]
        simp only [zfoldX, eB]
        refine ih (i + 1) _ (by omega) ?_
        rw [eF]
        exact NUM_add hN rfl rfl rfl
    exact key (nPl f) 0 (fs, sc, th) (by omega) (fun k hk => absurd hk (Nat.not_lt_zero k))
/-! values -/
def rst (f : Nat) (x : Int) : Int := if f = 0 then x else x % f
def pz (f k i : Nat) : Int := (pn f k i : Int)
def crs (f u v i : Nat) : Int := if i = 0 then pz f u 1 * pz f v 2 - pz f u 2 * pz f v 1 else if i = 1 then pz f u 2 * pz f v 0 - pz f u 0 * pz f v 2 else pz f u 0 * pz f v 1 - pz f u 1 * pz f v 0
def det (f u v w : Nat) : Int := pz f w 0 * crs f u v 0 + pz f w 1 * crs f u v 1 + pz f w 2 * crs f u v 2
def val (f u v w : Nat) : Int := rst f (det f u v w)
theorem iI_nI {a : Nat} (h : a < 2147483648) : nI a = Int32.ofInt a := by
  apply Int32.toInt_inj.mp
  rw [nI_toInt (by omega), Int32.toInt_ofInt_of_le (by omega) (by omega)]
theorem mulb {a b A B : Int} (h1 : 0 ≤ a) (h2 : a ≤ A) (h3 : -B ≤ b) (h4 : b ≤ B) : -(A * B) ≤ a * b ∧ a * b ≤ A * B := by
  have hB : 0 ≤ B := by omega
  have m1 : a * b ≤ a * B := Int.mul_le_mul_of_nonneg_left h4 h1
  have m2 : a * -B ≤ a * b := Int.mul_le_mul_of_nonneg_left h3 h1
  have m3 : a * B ≤ A * B := Int.mul_le_mul_of_nonneg_right h2 hB
  rw [Int.mul_neg] at m2
  omega
theorem pz_b {f : Nat} (hf : FLD f) {k i : Nat} (hk : k < nPl f) (hi : i < 3) : 0 ≤ pz f k i ∧ pz f k i ≤ 12 := by
  have := pn_le hf hk hi
  unfold pz
  omega
theorem crs_b {f : Nat} (hf : FLD f) {u v : Nat} (hu : u < nPl f) (hv : v < nPl f) (i : Nat) : -144 ≤ crs f u v i ∧ crs f u v i ≤ 144 := by
  have k : ∀ i j, i < 3 → j < 3 → 0 ≤ pz f u i * pz f v j ∧ pz f u i * pz f v j ≤ 144 := fun i j hi hj => by
    have a := pz_b hf hu hi
    have b := pz_b hf hv hj
    have m := mulb a.1 a.2 (show -12 ≤ pz f v j by omega) b.2
    exact ⟨Int.mul_nonneg a.1 b.1, by omega⟩
  unfold crs
  have a1 := k 1 2 (by decide) (by decide)
  have a2 := k 2 1 (by decide) (by decide)
  have a3 := k 2 0 (by decide) (by decide)
  have a4 := k 0 2 (by decide) (by decide)
  have a5 := k 0 1 (by decide) (by decide)
  have a6 := k 1 0 (by decide) (by decide)
  split
  · omega
  · split <;> omega
theorem rst_b {f : Nat} (hf : FLD f) {x B : Int} (h1 : -B ≤ x) (h2 : x ≤ B) (h3 : 13 ≤ B) : -B ≤ rst f x ∧ rst f x ≤ B := by
  have hb := FLD_b hf
  unfold rst
  split
  · exact ⟨h1, h2⟩
  · have g1 := Int.emod_nonneg x (show (f : Int) ≠ 0 by omega)
    have g2 := Int.emod_lt_of_pos x (show (0 : Int) < f by omega)
    omega
theorem rest_is {f : Nat} (hf : FLD f) {x : Int} (h1 : -2147483648 ≤ x) (h2 : x < 2147483648) : X2_rest_v (nI f) (Int32.ofInt x) = Int32.ofInt (rst f x) := by
  have hb := FLD_b hf
  unfold X2_rest_v rst
  by_cases c : f = 0
  · subst c
    rw [if_pos (show nI 0 = 0 from rfl), if_pos rfl]
  · have g1 := Int.emod_nonneg x (show (f : Int) ≠ 0 by omega)
    have g2 := Int.emod_lt_of_pos x (show (0 : Int) < f by omega)
    rw [if_neg c, if_neg (nI_ne0 (by omega) (by omega)), fmod_nI (by omega) (by omega), Int32.toInt_ofInt_of_le (by omega) (by omega), iI_nI (by omega), Int.toNat_of_nonneg g1]
theorem rst_mul {f : Nat} {a0 a1 a2 c0 c1 c2 : Int} : rst f (a0 * rst f c0 + a1 * rst f c1 + a2 * rst f c2) = rst f (a0 * c0 + a1 * c1 + a2 * c2) := by
  unfold rst
  by_cases c : f = 0
  · simp only [if_pos c]
  · simp only [if_neg c]
    have s : ∀ x : Int, (f : Int) ∣ x % f - x := fun x => Int.dvd_emod_sub_self
    have e : (a0 * (c0 % f) + a1 * (c1 % f) + a2 * (c2 % f)) - (a0 * c0 + a1 * c1 + a2 * c2) = a0 * (c0 % f - c0) + a1 * (c1 % f - c1) + a2 * (c2 % f - c2) := by
      rw [Int.mul_sub, Int.mul_sub, Int.mul_sub]
      omega
    rw [Int.emod_eq_emod_iff_emod_sub_eq_zero, e]
    exact Int.emod_eq_zero_of_dvd (Int.dvd_add (Int.dvd_add (Int.dvd_trans (s c0) (Int.dvd_mul_left _ _)) (Int.dvd_trans (s c1) (Int.dvd_mul_left _ _))) (Int.dvd_trans (s c2) (Int.dvd_mul_left _ _)))
theorem sub_i {a b c d : Nat} (ha : a < 1000) (hb : b < 1000) (hc : c < 1000) (hd : d < 1000) : nI a * nI b - nI c * nI d = Int32.ofInt ((a : Int) * b - c * d) := by
  rw [iI_nI (by omega), iI_nI (by omega), iI_nI (by omega), iI_nI (by omega), ← Int32.ofInt_mul, ← Int32.ofInt_mul, ← Int32.ofInt_sub]
/-- what the class multiplies by: the cross of two places -/
theorem cross_is {f : Nat} (hf : FLD f) {u v : Nat} (hu : u < nPl f) (hv : v < nPl f) {uu vv ww : Nat → Int32} (h1 : ∀ i, i < 3 → uu i = nI (pn f u i)) (h2 : ∀ i, i < 3 → vv i = nI (pn f v i)) :
    ∀ i, i < 3 → X3_cross_c57_57 (nI f) uu vv ww i = Int32.ofInt (rst f (crs f u v i)) := by
  have b : ∀ i, i < 3 → pn f u i < 1000 ∧ pn f v i < 1000 := fun i hi => ⟨by have := pn_le hf hu hi; omega, by have := pn_le hf hv hi; omega⟩
  have cb := crs_b hf hu hv
  have b0 := b 0 (by decide)
  have b1 := b 1 (by decide)
  have b2 := b 2 (by decide)
  intro i hi
  unfold X3_cross_c57_57
  rw [h1 0 (by decide), h1 1 (by decide), h1 2 (by decide), h2 0 (by decide), h2 1 (by decide), h2 2 (by decide), sub_i b1.1 b2.2 b2.1 b1.2, sub_i b2.1 b0.2 b0.1 b2.2, sub_i b0.1 b1.2 b1.1 b0.2]
  rcases (show i = 0 ∨ i = 1 ∨ i = 2 by omega) with rfl | rfl | rfl
  · exact rest_is hf (x := crs f u v 0) (by have := cb 0; omega) (by have := cb 0; omega)
  · exact rest_is hf (x := crs f u v 1) (by have := cb 1; omega) (by have := cb 1; omega)
  · exact rest_is hf (x := crs f u v 2) (by have := cb 2; omega) (by have := cb 2; omega)
theorem det_b {f : Nat} (hf : FLD f) {u v w : Nat} (hw : w < nPl f) {c0 c1 c2 : Int} (h0 : -144 ≤ c0 ∧ c0 ≤ 144) (h1 : -144 ≤ c1 ∧ c1 ≤ 144) (h2 : -144 ≤ c2 ∧ c2 ≤ 144) : -10000 ≤ pz f w 0 * c0 + pz f w 1 * c1 + pz f w 2 * c2 ∧ pz f w 0 * c0 + pz f w 1 * c1 + pz f w 2 * c2 ≤ 10000 := by
  have a0 := pz_b hf hw (show 0 < 3 by decide)
  have a1 := pz_b hf hw (show 1 < 3 by decide)
  have a2 := pz_b hf hw (show 2 < 3 by decide)
  have m0 := mulb a0.1 a0.2 h0.1 h0.2
  have m1 := mulb a1.1 a1.2 h1.1 h1.2
  have m2 := mulb a2.1 a2.2 h2.1 h2.2
  omega
theorem val_b {f : Nat} (hf : FLD f) {u v w : Nat} (hu : u < nPl f) (hv : v < nPl f) (hw : w < nPl f) : -10000 ≤ val f u v w ∧ val f u v w ≤ 10000 := by
  have d := det_b hf (u := u) (v := v) hw (crs_b hf hu hv 0) (crs_b hf hu hv 1) (crs_b hf hu hv 2)
  exact rst_b hf (x := det f u v w) d.1 d.2 (by omega)
/-- the value of three places, by the class -/
theorem cls_val {f : Nat} (hf : FLD f) {u v w : Nat} (hu : u < nPl f) (hv : v < nPl f) (hw : w < nPl f) : X2_rest_v (nI f) (nI (pn f w 0) * Int32.ofInt (rst f (crs f u v 0)) + nI (pn f w 1) * Int32.ofInt (rst f (crs f u v 1)) + nI (pn f w 2) * Int32.ofInt (rst f (crs f u v 2))) = Int32.ofInt (val f u v w) := by
  have p0 := pn_le hf hw (show 0 < 3 by decide)
  have p1 := pn_le hf hw (show 1 < 3 by decide)
  have p2 := pn_le hf hw (show 2 < 3 by decide)
  have c0 := crs_b hf hu hv 0
  have c1 := crs_b hf hu hv 1
  have c2 := crs_b hf hu hv 2
  rw [iI_nI (a := pn f w 0) (by omega), iI_nI (a := pn f w 1) (by omega), iI_nI (a := pn f w 2) (by omega), ← Int32.ofInt_mul, ← Int32.ofInt_mul, ← Int32.ofInt_mul, ← Int32.ofInt_add, ← Int32.ofInt_add]
  have d := det_b hf (u := u) (v := v) hw (rst_b hf (B := 144) c0.1 c0.2 (by omega)) (rst_b hf (B := 144) c1.1 c1.2 (by omega)) (rst_b hf (B := 144) c2.1 c2.2 (by omega))
  have e := rest_is hf (x := pz f w 0 * rst f (crs f u v 0) + pz f w 1 * rst f (crs f u v 1) + pz f w 2 * rst f (crs f u v 2)) (by omega) (by omega)
  rw [rst_mul] at e
  exact e
theorem det_ring (a0 a1 a2 b0 b1 b2 c0 c1 c2 : Int) : a0 * (b1 * c2 - b2 * c1) - a1 * (b0 * c2 - b2 * c0) + a2 * (b0 * c1 - b1 * c0) = c0 * (a1 * b2 - a2 * b1) + c1 * (a2 * b0 - a0 * b2) + c2 * (a0 * b1 - a1 * b0) := by grind
/-- the value of three places, by the reference -/
theorem ref_val {f : Nat} (hf : FLD f) {u v w : Nat} (hu : u < nPl f) (hv : v < nPl f) (hw : w < nPl f) {fs sc th : Nat → Int32} (hN : NUM f fs sc th (nPl f)) : X7_valueOf_v fs sc th (nI f) u v w = Int32.ofInt (val f u v w) := by
  have hb := FLD_b hf
  have b : ∀ k, k < nPl f → ∀ i, i < 3 → nI (pn f k i) = Int32.ofInt (pz f k i) := fun k hk i hi => iI_nI (by have := pn_le hf hk hi; omega)
  have d := det_b hf (u := u) (v := v) hw (crs_b hf hu hv 0) (crs_b hf hu hv 1) (crs_b hf hu hv 2)
  have eD : (((fs u) * (((sc v) * (th w)) - ((th v) * (sc w)))) - ((sc u) * (((fs v) * (th w)) - ((th v) * (fs w))))) + ((th u) * (((fs v) * (sc w)) - ((sc v) * (fs w)))) = Int32.ofInt (det f u v w) := by
    obtain ⟨u0, u1, u2⟩ := hN u hu
    obtain ⟨v0, v1, v2⟩ := hN v hv
    obtain ⟨w0, w1, w2⟩ := hN w hw
    rw [u0, u1, u2, v0, v1, v2, w0, w1, w2, b u hu 0 (by decide), b u hu 1 (by decide), b u hu 2 (by decide), b v hv 0 (by decide), b v hv 1 (by decide), b v hv 2 (by decide), b w hw 0 (by decide), b w hw 1 (by decide), b w hw 2 (by decide)]
    simp only [← Int32.ofInt_mul, ← Int32.ofInt_sub, ← Int32.ofInt_add]
    rw [det_ring]
    rfl
  unfold X7_valueOf_v val rst
  rw [eD]
  change -10000 ≤ det f u v w ∧ det f u v w ≤ 10000 at d
  generalize det f u v w = D at d ⊢
  by_cases c : f = 0
  · subst c
    rw [if_pos (show nI 0 = 0 from rfl), if_pos rfl]
  · rw [if_neg c, if_neg (nI_ne0 (by omega) (by omega))]
    have t := tmod_bounds (a := D) (show (0 : Int) < f by omega)
    have g1 := Int.emod_nonneg D (show (f : Int) ≠ 0 by omega)
    have g2 := Int.emod_lt_of_pos D (show (0 : Int) < f by omega)
    have r1 := rem_toInt (Int32.ofInt D) (nI f)
    rw [Int32.toInt_ofInt_of_le (by omega) (by omega), nI_toInt (by omega)] at r1
    have r2 := rem_toInt (Int32.ofInt D - Int32.ofInt D / nI f * nI f + nI f) (nI f)
    have r3 : (Int32.ofInt D - Int32.ofInt D / nI f * nI f + nI f).toInt = D.tmod f + f := by
      rw [Jvm.Kit.i32_add (by rw [r1, nI_toInt (by omega)]; omega) (by rw [r1, nI_toInt (by omega)]; omega), r1, nI_toInt (by omega)]
    rw [r3, nI_toInt (by omega), Int.tmod_eq_emod_of_nonneg (by omega)] at r2
    apply Int32.toInt_inj.mp
    rw [r2, Int32.toInt_ofInt_of_le (by omega) (by omega), Int.tmod_eq_emod]
    split
    · rw [show D % f - ((0 : Nat) : Int) + f = D % f + f by omega, Int.add_emod_right, Int.emod_emod_of_dvd _ (Int.dvd_refl _)]
    · rw [show D % f - ((f : Int).natAbs : Int) + f = D % f by omega, Int.emod_emod_of_dvd _ (Int.dvd_refl _)]
