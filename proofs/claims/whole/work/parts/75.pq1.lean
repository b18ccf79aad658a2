/-! ===== sign, row, plant, known, certificate: alike in both ===== -/
theorem isIn_of {v : Int32} {n : Nat} (h : vp_in v n) (hn : n < 1000000) : ¬ X7_isIn_v v (nI 0) (nI n - nI 1) = 0 := by
  have e := zvin h
  have l := zvlt h
  unfold X7_isIn_v
  rw [e, if_neg (nI_nlt (Nat.zero_le _) (by omega)), pk_sub (by omega), if_neg (nI_nlt (by omega) (by omega))]
  decide
theorem isIn_iff {v : Int32} {n : Nat} (hn : n < 1000000) : X7_isIn_v v (nI 0) (nI n - nI 1) = 0 ↔ ¬ vp_in v n := by
  constructor
  · intro h q
    exact isIn_of q hn h
  · intro h
    rcases Classical.em (X7_isIn_v v (nI 0) (nI n - nI 1) = 0) with q | q
    · exact q
    · exact absurd (isIn_in q (by omega)) h
theorem has_iff {v : Int32} {n : Nat} (hn : n < 1000000) : X0_hasRow_v (nI n) v = 0 ↔ ¬ vp_in v n := by
  unfold X0_hasRow_v
  constructor
  · intro h q
    have e := zvin q
    have l := zvlt q
    rw [e, if_neg (show ¬ nI v.toNatClampNeg < 0 from nI_nlt (a := v.toNatClampNeg) (b := 0) (Nat.zero_le _) (by omega)), if_neg (nI_ge l (by omega))] at h
    exact absurd h (by decide)
  · intro h
    by_cases c1 : v < 0
    · rw [if_pos c1]; rfl
    · rw [if_neg c1]
      by_cases c2 : nI n ≤ v
      · rw [if_pos c2]; rfl
      · exact absurd (zlt_in9 c1 c2 (by omega)) h
theorem hasP_iff {v : Int32} {n : Nat} (hn : n < 1000000) : X4_hasPoint_v n v = 0 ↔ ¬ vp_in v n := has_iff hn
theorem hasL_iff {v : Int32} {n : Nat} (hn : n < 1000000) : X4_hasLine_v n v = 0 ↔ ¬ vp_in v n := has_iff hn
theorem tri_iff {n : Nat} {a b c : Int32} (hn : n < 1000000) : X4_isTriple_v n a b c = 0 ↔ X7_isTriple_v n a b c = 0 := by
  unfold X4_isTriple_v X7_isTriple_v
  by_cases c1 : vp_in a n
  · rw [if_neg (fun q => (hasP_iff hn).mp q c1), if_neg (isIn_of c1 hn)]
    by_cases c2 : vp_in b n
    · rw [if_neg (fun q => (hasP_iff hn).mp q c2), if_neg (isIn_of c2 hn)]
      by_cases c3 : vp_in c n
      · rw [if_neg (fun q => (hasP_iff hn).mp q c3), if_neg (isIn_of c3 hn)]
        by_cases d1 : a = b <;> by_cases d2 : a = c <;> by_cases d3 : b = c <;> simp only [d1, d2, d3, if_true, if_false]
      · rw [if_pos ((hasP_iff hn).mpr c3), if_pos ((isIn_iff hn).mpr c3)]
    · rw [if_pos ((hasP_iff hn).mpr c2), if_pos ((isIn_iff hn).mpr c2)]
  · rw [if_pos ((hasP_iff hn).mpr c1), if_pos ((isIn_iff hn).mpr c1)]
theorem tri_in {n : Nat} {a b c : Int32} (hn : n ≤ 10) (h : ¬ X7_isTriple_v n a b c = 0) : (vp_in a n ∧ vp_in b n ∧ vp_in c n) ∧ a.toNatClampNeg ≠ b.toNatClampNeg ∧ a.toNatClampNeg ≠ c.toNatClampNeg ∧ b.toNatClampNeg ≠ c.toNatClampNeg := by
  have q := rtri_in h hn
  refine ⟨q, fun e => ?_, fun e => ?_, fun e => ?_⟩
  · refine h ?_
    unfold X7_isTriple_v
    rw [if_neg (isIn_of q.1 (by omega)), if_neg (isIn_of q.2.1 (by omega)), if_neg (isIn_of q.2.2 (by omega)), if_pos (by rw [zvin q.1, zvin q.2.1, e])]
    rfl
  · refine h ?_
    unfold X7_isTriple_v
    rw [if_neg (isIn_of q.1 (by omega)), if_neg (isIn_of q.2.1 (by omega)), if_neg (isIn_of q.2.2 (by omega))]
    have e9 : a = c := by rw [zvin q.1, zvin q.2.2, e]
    by_cases d1 : a = b
    · rw [if_pos d1]; rfl
    · rw [if_neg d1]
      by_cases d2 : b = c
      · rw [if_pos d2]; rfl
      · rw [if_neg d2, if_pos e9]; rfl
  · refine h ?_
    unfold X7_isTriple_v
    rw [if_neg (isIn_of q.1 (by omega)), if_neg (isIn_of q.2.1 (by omega)), if_neg (isIn_of q.2.2 (by omega))]
    have e9 : b = c := by rw [zvin q.2.1, zvin q.2.2, e]
    by_cases d1 : a = b
    · rw [if_pos d1]; rfl
    · rw [if_neg d1, if_pos e9]; rfl
theorem isIn_b {v lo hi : Int32} : X7_isIn_v v lo hi = 0 ↔ (v < lo ∨ hi < v) := by
  unfold X7_isIn_v
  by_cases c1 : v < lo
  · rw [if_pos c1]; exact ⟨fun _ => Or.inl c1, fun _ => rfl⟩
  · rw [if_neg c1]
    by_cases c2 : hi < v
    · rw [if_pos c2]; exact ⟨fun _ => Or.inr c2, fun _ => rfl⟩
    · rw [if_neg c2]; exact ⟨fun h => absurd h (by decide), fun h => absurd h (by rintro (q | q); exact c1 q; exact c2 q)⟩
/-- sign -/
theorem sign_same {t : Nat} {c : Int32} (ht : t ≤ 80) {tp tape : Nat → Int32} (hT : ∀ k, k < t → tp k = tape k) : X6_sign_v t c = X7_sign_v t c ∧ X6_sign_p0_0 t c = X7_sign_p76_1 t c ∧ X7_sign_p76_1 t c ≤ 80 ∧ ∀ k, k < X7_sign_p76_1 t c → X6_sign_c1 t tp c k = X7_sign_c77 t tape c k := by
  unfold X6_sign_v X7_sign_v X6_sign_p0_0 X7_sign_p76_1 X6_sign_c1 X7_sign_c77
  by_cases c1 : c < 0
  · have h0 : X7_isIn_v c (nI 0) (nI 255) = 0 := isIn_b.mpr (Or.inl c1)
    simp only [if_pos c1, if_pos h0]
    exact ⟨trivial, trivial, ht, hT⟩
  · by_cases c2 : c ≤ nI 255
    · have h0 : ¬ X7_isIn_v c (nI 0) (nI 255) = 0 := fun q => by
        rcases isIn_b.mp q with q | q
        · exact c1 q
        · exact absurd c2 (Int32.not_le.mpr q)
      simp only [if_neg c1, if_pos c2, if_neg h0]
      by_cases c3 : t = 80
      · have h1 : ¬ nI t < nI 80 := nI_nlt (by omega) (by omega)
        have h2 : nI t = nI 80 := by rw [c3]
        simp only [if_neg h1, if_pos h2]
        exact ⟨trivial, trivial, ht, hT⟩
      · have h1 : nI t < nI 80 := nI_lt (by omega) (by omega)
        have h2 : ¬ nI t = nI 80 := fun q => c3 ((nI_eq (by omega) (by decide)).mp q)
        simp only [if_pos h1, if_neg h2]
        refine ⟨trivial, trivial, by omega, fun k hk => ?_⟩
        simp only [upd]
        split
        · rfl
        · exact hT k (by omega)
    · have h0 : X7_isIn_v c (nI 0) (nI 255) = 0 := isIn_b.mpr (Or.inr (Int32.not_le.mp c2))
      simp only [if_neg c1, if_neg c2, if_pos h0]
      exact ⟨trivial, trivial, ht, hT⟩
section PQ1
variable {n m : Nat} {kd sgn rel tri rk rs rf rt : Nat → Int32}
theorem dig_ok0 : ∀ z, z < 10 → ∀ y, y < z → ∀ x, x < y → nI (100 * x + 10 * y + z) / nI 100 = nI x ∧ (nI (100 * x + 10 * y + z) / nI 10) - (nI (100 * x + 10 * y + z) / nI 10) / nI 10 * nI 10 = nI y ∧ nI (100 * x + 10 * y + z) - nI (100 * x + 10 * y + z) / nI 10 * nI 10 = nI z := by decide +kernel
theorem row_same (hn : n ≤ 10) (hm : m ≤ 60) (hR : RWS n kd sgn rel tri rk rs rf rt m) (i w : Int32) : X6_row_v m kd sgn rel tri i w = X7_row_v m rk rt rs rf i w := by
  unfold X6_row_v X7_row_v
  by_cases c1 : w < 0
  · rw [if_pos c1, if_pos (show X7_isIn_v w (nI 0) (nI 9) = 0 from isIn_b.mpr (Or.inl c1))]
  · by_cases c2 : w ≤ nI 9
    · have h0 : ¬ X7_isIn_v w (nI 0) (nI 9) = 0 := fun q => by
        rcases isIn_b.mp q with q | q
        · exact c1 q
        · exact absurd c2 (Int32.not_le.mpr q)
      rw [if_neg c1, if_pos c2, if_neg h0]
      by_cases c3 : vp_in i m
      · rw [if_neg (fun q => (has_iff (by omega)).mp q c3), if_neg (isIn_of c3 (by omega))]
        have hw : vp_in w 10 := isIn_k (n := 9) h0 (by decide)
        have lw := zvlt hw
        have li := zvlt c3
        generalize w.toNatClampNeg = k at lw ⊢
        generalize i.toNatClampNeg = j at li ⊢
        obtain ⟨r1, r2, r3, ⟨f, r4, r5⟩, r6, r7⟩ := hR j li
        unfold X0_entry_v
        by_cases d0 : k = 0
        · subst d0
          rw [if_pos (show nI 0 = 0 from rfl), if_pos (show nI 0 = 0 from rfl)]
          exact r1
        · rw [if_neg (fun q => d0 ((nI_z lw).mp q)), if_neg (fun q => d0 ((nI_z lw).mp q))]
          by_cases d5 : k ≤ 5
          · rw [if_neg (show ¬ nI 5 < nI k from nI_nlt d5 (by decide)), if_neg (show ¬ nI 5 < nI k from nI_nlt d5 (by decide))]
            have u := r4 (k - 1) (by omega)
            rw [show 5 * j + k - 1 = 5 * j + (k - 1) by omega, u.2.1, u.2.2]
          · rw [if_pos (show nI 5 < nI k from nI_lt (by omega) (by omega)), if_pos (show nI 5 < nI k from nI_lt (by omega) (by omega))]
            by_cases d9 : k = 9
            · subst d9
              rw [if_pos (by decide), if_pos rfl]
              exact r2
            · rw [if_neg (show ¬ nI 8 < nI k from nI_nlt (by omega) (by decide)), if_neg (fun q => d9 ((nI_ne lw (by decide)).mp q))]
              by_cases dk : kd j = nI 1
              · rw [if_pos (by rw [← r1]; exact dk), show 3 * j + k - 6 = 3 * j + (k - 6) by omega]
                exact r6 dk (k - 6) (by omega)
              · rw [if_neg (by rw [← r1]; exact dk)]
                obtain ⟨x, y, z, g1, g2, g3, g4, g5, g6, g7⟩ := r7 dk
                obtain ⟨e1, e2, e3⟩ := dig_ok0 z (by omega) y g2 x g1
                rw [g7]
                rcases (show k = 6 ∨ k = 7 ∨ k = 8 by omega) with rfl | rfl | rfl
                · rw [if_pos rfl, e1]
                  exact g4
                · rw [if_neg (by decide), if_pos rfl, e2]
                  exact g5
                · rw [if_neg (by decide), if_neg (by decide), e3]
                  exact g6
      · rw [if_pos ((has_iff (by omega)).mpr c3), if_pos ((isIn_iff (by omega)).mpr c3)]
    · rw [if_neg c1, if_neg c2, if_pos (isIn_b.mpr (Or.inr (Int32.not_le.mp c2)))]
theorem v3 {v : Int32} (h1 : ¬ v < -1) (h2 : v ≤ nI 1) : v = -1 ∨ v = 0 ∨ v = 1 := by
  have a1 : ¬ v.toInt < (-1 : Int32).toInt := fun q => h1 (Int32.lt_iff_toInt_lt.mpr q)
  have a2 : v.toInt ≤ (nI 1).toInt := Int32.le_iff_toInt_le.mp h2
  have e1 : (-1 : Int32).toInt = -1 := by decide
  have e2 : (nI 1).toInt = 1 := by decide
  rw [e1] at a1
  rw [e2] at a2
  rcases (show v.toInt = -1 ∨ v.toInt = 0 ∨ v.toInt = 1 by omega) with q | q | q
  · exact Or.inl (Int32.toInt_inj.mp (by rw [q]; decide))
  · exact Or.inr (Or.inl (Int32.toInt_inj.mp (by rw [q]; decide)))
  · exact Or.inr (Or.inr (Int32.toInt_inj.mp (by rw [q]; decide)))
theorem plant_same (hm : m ≤ 60) (hR : RWS n kd sgn rel tri rk rs rf rt m) (i v : Int32) : X6_plant_v m kd sgn i v = X7_plant_v m rk rs i v ∧ RWS n kd (X6_plant_c61 m kd sgn i v) rel tri rk (X7_plant_c100 m rk rs i v) rf rt m := by
  unfold X6_plant_v X7_plant_v X6_plant_c61 X7_plant_c100
  by_cases c1 : v < -1
  · have h0 : X7_isIn_v v (-1) (nI 1) = 0 := isIn_b.mpr (Or.inl c1)
    simp only [if_pos c1, if_pos h0]
    exact ⟨trivial, hR⟩
  · by_cases c2 : v ≤ nI 1
    · have h0 : ¬ X7_isIn_v v (-1) (nI 1) = 0 := fun q => by
        rcases isIn_b.mp q with q | q
        · exact c1 q
        · exact absurd c2 (Int32.not_le.mpr q)
      simp only [if_neg c1, if_pos c2, if_neg h0]
      by_cases c3 : vp_in i m
      · have e1 : ¬ X0_hasRow_v (nI m) i = 0 := fun q => (has_iff (by omega)).mp q c3
        have e2 : ¬ X7_isIn_v i (nI 0) (nI m - nI 1) = 0 := isIn_of c3 (by omega)
        have li := zvlt c3
        simp only [if_neg e1, if_neg e2]
        generalize i.toNatClampNeg = j at li ⊢
        have hj := hR j li
        by_cases c4 : kd j = nI 1
        · have c5 : rk j = nI 1 := by rw [← hj.1]; exact c4
          simp only [if_pos c4, if_pos c5]
          exact ⟨trivial, hR⟩
        · have c5 : ¬ rk j = nI 1 := by rw [← hj.1]; exact c4
          simp only [if_neg c4, if_neg c5]
          refine ⟨hj.2.1, fun k hk => ?_⟩
          obtain ⟨r1, r2, r3, r4, r6, r7⟩ := hR k hk
          refine ⟨r1, ?_, ?_, r4, r6, r7⟩
          · simp only [upd]
            split
            · rfl
            · exact r2
          · refine ⟨?_, r3.2⟩
            simp only [upd]
            split
            · exact v3 c1 c2
            · exact r3.1
      · have e1 : X0_hasRow_v (nI m) i = 0 := (has_iff (by omega)).mpr c3
        have e2 : X7_isIn_v i (nI 0) (nI m - nI 1) = 0 := (isIn_iff (by omega)).mpr c3
        simp only [if_pos e1, if_pos e2]
        exact ⟨trivial, hR⟩
    · have h0 : X7_isIn_v v (-1) (nI 1) = 0 := isIn_b.mpr (Or.inr (Int32.not_le.mp c2))
      simp only [if_neg c1, if_neg c2, if_pos h0]
      exact ⟨trivial, hR⟩
theorem known_same (hn : n ≤ 10) {lns ors : Nat} {fl ori lm om os now sg : Nat → Int32} (hT : TLD n lns ors fl ori lm om os) (hR : RWS n kd sgn rel tri rk rs rf rt m) (a b c : Int32) : X6_known_v n m kd sgn tri fl ori now a b c = X7_known_v n lns ors m lm om os sg rk rt rs a b c := by
  unfold X6_known_v X7_known_v
  by_cases h : X7_isTriple_v n a b c = 0
  · rw [if_pos ((tri_iff (by omega)).mpr h), if_pos h]
  · rw [if_neg (fun q => h ((tri_iff (by omega)).mp q)), if_neg h]
    obtain ⟨⟨h1, h2, h3⟩, g1, g2, g3⟩ := tri_in hn h
    obtain ⟨t1, t2⟩ := tables (now := now) (sg := sg) hn hT m hR
    have q := (NS_at hn t1 t2 (zvlt h1) (zvlt h2) (zvlt h3) g1 g2 g3).1
    show (X0_gather_c64 now kd sgn tri fl ori m) _ = _
    rw [q]
    rfl
end PQ1
