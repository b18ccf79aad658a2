/-! ===== where two lines meet: alike in both ===== -/
section PL
variable {q : Nat}
theorem pr_cancel (hq : PR q) {a x : Int} (ha : ¬ (q : Int) ∣ a) (h : (q : Int) ∣ a * x) : (q : Int) ∣ x := by
  have hb := PR_b hq
  have g1 := Int.emod_nonneg a (show (q : Int) ≠ 0 by omega)
  have g2 := Int.emod_lt_of_pos a (show (0 : Int) < q by omega)
  have nz : ¬ a % q = 0 := fun u => ha (Int.dvd_of_emod_eq_zero u)
  obtain ⟨r, hr, er⟩ := pr_inv0 q hq (a % q).toNat (by omega) (by omega) 1 (by omega)
  have k3 : ((r * (a % q).toNat % q : Nat) : Int) = (r * a) % q := by
    rw [Int.natCast_emod, Int.natCast_mul, Int.toNat_of_nonneg g1, Int.mul_emod, Int.emod_emod_of_dvd _ (Int.dvd_refl _), ← Int.mul_emod]
  have k4 : (r * a) % q = 1 % (q : Int) := by
    rw [← k3, er, Int.emod_eq_of_lt (by omega) (by omega)]
    rfl
  have d1 : (q : Int) ∣ r * a - 1 := Int.dvd_of_emod_eq_zero (Int.emod_eq_emod_iff_emod_sub_eq_zero.mp k4)
  have e : x = r * (a * x) - (r * a - 1) * x := by
    rw [Int.sub_mul, Int.one_mul, Int.mul_assoc]
    omega
  rw [e]
  exact Int.dvd_sub (Int.dvd_trans h (Int.dvd_mul_left _ _)) (Int.dvd_trans d1 (Int.dvd_mul_right _ _))
end PL
def plOk (q j k : Nat) : Bool := (j == k) || !((pn q j 1 * pn q k 2 % q == pn q j 2 * pn q k 1 % q) && ((pn q j 2 * pn q k 0 % q == pn q j 0 * pn q k 2 % q) && (pn q j 0 * pn q k 1 % q == pn q j 1 * pn q k 0 % q)))
set_option maxRecDepth 100000 in
theorem pl_2 : allB (fun j => allB (plOk 2 j) 7) 7 = true := by decide +kernel
set_option maxRecDepth 100000 in
theorem pl_3 : allB (fun j => allB (plOk 3 j) 13) 13 = true := by decide +kernel
set_option maxRecDepth 100000 in
theorem pl_5 : allB (fun j => allB (plOk 5 j) 31) 31 = true := by decide +kernel
set_option maxRecDepth 100000 in
theorem pl_7 : allB (fun j => allB (plOk 7 j) 57) 57 = true := by decide +kernel
set_option maxRecDepth 100000 in
theorem pl_11 : allB (fun j => allB (plOk 11 j) 133) 133 = true := by decide +kernel
set_option maxRecDepth 100000 in
theorem pl_13 : allB (fun j => allB (plOk 13 j) 183) 183 = true := by decide +kernel
theorem pl_all {q : Nat} (hq : PR q) {j k : Nat} (hj : j < nPl q) (hk : k < nPl q) : plOk q j k = true := by
  rcases hq with h | h | h | h | h | h <;> subst h
  · exact allB_at (allB_at pl_2 j hj) k hk
  · exact allB_at (allB_at pl_3 j hj) k hk
  · exact allB_at (allB_at pl_5 j hj) k hk
  · exact allB_at (allB_at pl_7 j hj) k hk
  · exact allB_at (allB_at pl_11 j hj) k hk
  · exact allB_at (allB_at pl_13 j hj) k hk
theorem dvd_nat {q a b c d : Nat} (h : (q : Int) ∣ (a : Int) * b - c * d) : a * b % q = c * d % q := by
  have := Int.emod_eq_emod_iff_emod_sub_eq_zero.mpr (Int.emod_eq_zero_of_dvd h)
  rw [← Int.natCast_mul, ← Int.natCast_mul, ← Int.natCast_emod, ← Int.natCast_emod] at this
  exact Int.ofNat_inj.mp this
theorem pl_inj {q : Nat} (hq : PR q) {j k : Nat} (hj : j < nPl q) (hk : k < nPl q) (h : ∀ i, i < 3 → (q : Int) ∣ crs q j k i) : j = k := by
  have e := pl_all hq hj hk
  unfold plOk at e
  simp only [Bool.or_eq_true, beq_iff_eq, Bool.not_eq_true', Bool.and_eq_false_iff, beq_eq_false_iff_ne] at e
  rcases e with e | e | e | e
  · exact e
  · exact absurd (dvd_nat (h 0 (by decide))) e
  · exact absurd (dvd_nat (h 1 (by decide))) e
  · exact absurd (dvd_nat (h 2 (by decide))) e
theorem pn_3 {f y z : Nat} (hf : 0 < f) (hz : z < f) : pn f (f + 1 + y * f + z) 0 = 1 ∧ pn f (f + 1 + y * f + z) 1 = y ∧ pn f (f + 1 + y * f + z) 2 = z := by
  have q1 : ¬ f = 0 := by omega
  have q2 : ¬ f + 1 + y * f + z = 0 := by omega
  have q3 : ¬ f + 1 + y * f + z ≤ f := by omega
  have q4 : f + 1 + y * f + z - f - 1 = f * y + z := by rw [Nat.mul_comm f y]; omega
  unfold pn
  simp only [if_neg q1, if_neg q2, if_neg q3, q4]
  refine ⟨rfl, ?_, ?_⟩
  · rw [if_neg (by decide), if_pos trivial, Nat.mul_add_div hf, Nat.div_eq_of_lt hz, Nat.add_zero]
  · rw [if_neg (by decide), if_neg (by decide), Nat.mul_add_mod, Nat.mod_eq_of_lt hz]
theorem pn_2 {f z : Nat} (hz : z < f) : pn f (1 + z) 0 = 0 ∧ pn f (1 + z) 1 = 1 ∧ pn f (1 + z) 2 = z := by
  have q1 : ¬ f = 0 := by omega
  have q2 : ¬ 1 + z = 0 := by omega
  have q3 : 1 + z ≤ f := by omega
  unfold pn
  simp only [if_neg q1, if_neg q2, if_pos q3]
  refine ⟨rfl, rfl, ?_⟩
  rw [if_neg (by decide), if_neg (by decide)]
  omega
theorem pn_1 {f : Nat} (hf : 0 < f) : pn f 0 0 = 0 ∧ pn f 0 1 = 0 ∧ pn f 0 2 = 1 := by
  have q1 : ¬ f = 0 := by omega
  unfold pn
  simp only [if_neg q1]
  exact ⟨rfl, rfl, rfl⟩
/-- a quotient of small numbers -/
theorem quo_dvd {q : Nat} (hq : PR q) {x d : Int} (hx : 0 ≤ x) (hx2 : x < q) (hd : 0 < d) (hd2 : d < q) : ∃ r, r < q ∧ X2_quotient_v q (Int32.ofInt x) (Int32.ofInt d) = nI r ∧ (q : Int) ∣ x - d * r := by
  have hb := PR_b hq
  have ed : (Int32.ofInt d).toInt = d := Int32.toInt_ofInt_of_le (by omega) (by omega)
  have ex : (Int32.ofInt x).toInt = x := Int32.toInt_ofInt_of_le (by omega) (by omega)
  have m1 : d % q = d := Int.emod_eq_of_lt (by omega) hd2
  have m2 : x % q = x := Int.emod_eq_of_lt hx hx2
  obtain ⟨r, hr, e1, e2, -⟩ := quo_some hq (v := Int32.ofInt x) (d := Int32.ofInt d) (by rw [ed, m1]; omega)
  refine ⟨r, hr, e1, ?_⟩
  rw [ed, ex, m1, m2] at e2
  have k : ((r * d.toNat % q : Nat) : Int) = (r * d) % q := by
    rw [Int.natCast_emod, Int.natCast_mul, Int.toNat_of_nonneg (by omega)]
  have k2 : x % (q : Int) = (d * r) % q := by
    rw [m2, Int.mul_comm d r, ← k, e2, Int.toNat_of_nonneg hx]
  exact Int.dvd_of_emod_eq_zero (Int.emod_eq_emod_iff_emod_sub_eq_zero.mp k2)
/-- the place of three numbers -/
theorem place_is {q : Nat} (hq : PR q) {x0 x1 x2 : Int} {w : Nat → Int32} (e0 : w 0 = Int32.ofInt x0) (e1 : w 1 = Int32.ofInt x1) (e2 : w 2 = Int32.ofInt x2) (h0 : 0 ≤ x0 ∧ x0 < q) (h1 : 0 ≤ x1 ∧ x1 < q) (h2 : 0 ≤ x2 ∧ x2 < q) :
    (X2_placeAt_v q w = -4 ∧ x0 = 0 ∧ x1 = 0 ∧ x2 = 0) ∨ ∃ (K : Nat) (l : Int), K < nPl q ∧ X2_placeAt_v q w = nI K ∧ ¬ (q : Int) ∣ l ∧ (q : Int) ∣ x0 - l * pz q K 0 ∧ (q : Int) ∣ x1 - l * pz q K 1 ∧ (q : Int) ∣ x2 - l * pz q K 2 := by
  have hb := PR_b hq
  have nd : ∀ x : Int, 0 < x → x < q → ¬ (q : Int) ∣ x := fun x h1 h2 u => by
    have := Int.emod_eq_zero_of_dvd u
    rw [Int.emod_eq_of_lt (by omega) h2] at this
    omega
  have z : ∀ x : Int, 0 ≤ x → x < q → (Int32.ofInt x = 0 ↔ x = 0) := fun x h1 h2 => iI_0 (by omega) (by omega)
  have hP : nPl q = q * q + q + 1 := by unfold nPl; rw [if_neg (by omega)]
  have d0 : ∀ a : Int, (q : Int) ∣ a - a * 1 := fun a => by rw [Int.mul_one, Int.sub_self]; exact Int.dvd_zero _
  unfold X2_placeAt_v
  rw [e0, e1, e2]
  by_cases c0 : x0 = 0
  · rw [if_pos ((z x0 h0.1 h0.2).mpr c0)]
    by_cases c1 : x1 = 0
    · rw [if_pos ((z x1 h1.1 h1.2).mpr c1)]
      by_cases c2 : x2 = 0
      · rw [if_pos ((z x2 h2.1 h2.2).mpr c2)]
        exact Or.inl ⟨rfl, c0, c1, c2⟩
      · rw [if_neg (fun u => c2 ((z x2 h2.1 h2.2).mp u))]
        obtain ⟨p0, p1, p2⟩ := pn_1 (f := q) (by omega)
        refine Or.inr ⟨0, x2, by omega, rfl, nd x2 (by omega) h2.2, ?_, ?_, ?_⟩
        · unfold pz
          rw [p0, c0, Int.natCast_zero, Int.mul_zero, Int.sub_zero]
          exact Int.dvd_zero _
        · unfold pz
          rw [p1, c1, Int.natCast_zero, Int.mul_zero, Int.sub_zero]
          exact Int.dvd_zero _
        · unfold pz
          rw [p2]
          exact d0 x2
    · rw [if_neg (fun u => c1 ((z x1 h1.1 h1.2).mp u))]
      obtain ⟨r, hr, er, dr⟩ := quo_dvd hq h2.1 h2.2 (show 0 < x1 by omega) h1.2
      rw [er, nI_add]
      obtain ⟨p0, p1, p2⟩ := pn_2 (f := q) hr
      refine Or.inr ⟨1 + r, x1, by omega, rfl, nd x1 (by omega) h1.2, ?_, ?_, ?_⟩
      · unfold pz
        rw [p0, c0, Int.natCast_zero, Int.mul_zero, Int.sub_zero]
        exact Int.dvd_zero _
      · unfold pz
        rw [p1]
        exact d0 x1
      · unfold pz
        rw [p2]
        exact dr
  · rw [if_neg (fun u => c0 ((z x0 h0.1 h0.2).mp u))]
    obtain ⟨r, hr, er, dr⟩ := quo_dvd hq h1.1 h1.2 (show 0 < x0 by omega) h0.2
    obtain ⟨s, hs, es, ds⟩ := quo_dvd hq h2.1 h2.2 (show 0 < x0 by omega) h0.2
    rw [er, es, zq_mul rfl rfl, nI_add, nI_add, nI_add]
    obtain ⟨p0, p1, p2⟩ := pn_3 (f := q) (y := r) (by omega) hs
    have le : r * q + q ≤ q * q := by
      have := Nat.mul_le_mul_right q (show r + 1 ≤ q by omega)
      rw [Nat.add_mul] at this
      omega
    refine Or.inr ⟨q + 1 + r * q + s, x0, by omega, rfl, nd x0 (by omega) h0.2, ?_, ?_, ?_⟩
    · unfold pz
      rw [p0]
      exact d0 x0
    · unfold pz
      rw [p1]
      exact dr
    · unfold pz
      rw [p2]
      exact ds
/-- dots -/
def dot (q k : Nat) (L : Nat → Int) : Int := pz q k 0 * L 0 + pz q k 1 * L 1 + pz q k 2 * L 2
def cr3 (L M : Nat → Int) (i : Nat) : Int := if i = 0 then L 1 * M 2 - L 2 * M 1 else if i = 1 then L 2 * M 0 - L 0 * M 2 else L 0 * M 1 - L 1 * M 0
theorem dot_self0 (a0 a1 a2 b0 b1 b2 : Int) : a0 * (a1 * b2 - a2 * b1) + a1 * (a2 * b0 - a0 * b2) + a2 * (a0 * b1 - a1 * b0) = 0 := by grind
theorem dot_self1 (a0 a1 a2 b0 b1 b2 : Int) : b0 * (a1 * b2 - a2 * b1) + b1 * (a2 * b0 - a0 * b2) + b2 * (a0 * b1 - a1 * b0) = 0 := by grind
theorem dot_u {q u v : Nat} : dot q u (crs q u v) = 0 := dot_self0 _ _ _ _ _ _
theorem dot_v {q u v : Nat} : dot q v (crs q u v) = 0 := dot_self1 _ _ _ _ _ _
theorem det_dot {q k u v : Nat} : det q k u v = dot q k (crs q u v) := by
  show pz q v 0 * (pz q k 1 * pz q u 2 - pz q k 2 * pz q u 1) + pz q v 1 * (pz q k 2 * pz q u 0 - pz q k 0 * pz q u 2) + pz q v 2 * (pz q k 0 * pz q u 1 - pz q k 1 * pz q u 0) = pz q k 0 * (pz q u 1 * pz q v 2 - pz q u 2 * pz q v 1) + pz q k 1 * (pz q u 2 * pz q v 0 - pz q u 0 * pz q v 2) + pz q k 2 * (pz q u 0 * pz q v 1 - pz q u 1 * pz q v 0)
  grind
theorem val_0 {q : Nat} (hq : PR q) {k u v : Nat} : val q k u v = 0 ↔ (q : Int) ∣ dot q k (crs q u v) := by
  have hb := PR_b hq
  unfold val rst
  rw [if_neg (by omega), det_dot]
  exact ⟨Int.dvd_of_emod_eq_zero, Int.emod_eq_zero_of_dvd⟩
theorem dv3 {p a b c x y z : Int} (h1 : p ∣ x) (h2 : p ∣ y) (h3 : p ∣ z) : p ∣ a * x + b * y + c * z := Int.dvd_add (Int.dvd_add (Int.dvd_trans h1 (Int.dvd_mul_left _ _)) (Int.dvd_trans h2 (Int.dvd_mul_left _ _))) (Int.dvd_trans h3 (Int.dvd_mul_left _ _))
theorem dv6 {p a b c d e f x y z u v w : Int} (h1 : p ∣ x) (h2 : p ∣ y) (h3 : p ∣ z) (h4 : p ∣ u) (h5 : p ∣ v) (h6 : p ∣ w) : p ∣ (a * x + b * y + c * z) + (d * u + e * v + f * w) := Int.dvd_add (dv3 h1 h2 h3) (dv3 h4 h5 h6)
section MT
variable {q : Nat} {a0 a1 a2 L0 L1 L2 M0 M1 M2 x0 x1 x2 k0 k1 k2 l : Int}
/-- lines that lie on one another -/
theorem on_both (hq : PR q) (c0 : (q : Int) ∣ L1 * M2 - L2 * M1) (c1 : (q : Int) ∣ L2 * M0 - L0 * M2) (c2 : (q : Int) ∣ L0 * M1 - L1 * M0) (hL : ¬ (q : Int) ∣ L0 ∨ ¬ (q : Int) ∣ L1 ∨ ¬ (q : Int) ∣ L2) (hu : (q : Int) ∣ a0 * L0 + a1 * L1 + a2 * L2) : (q : Int) ∣ a0 * M0 + a1 * M1 + a2 * M2 := by
  rcases hL with h | h | h
  · refine pr_cancel hq h ?_
    have e : L0 * (a0 * M0 + a1 * M1 + a2 * M2) = M0 * (a0 * L0 + a1 * L1 + a2 * L2) + a1 * (L0 * M1 - L1 * M0) + (-a2) * (L2 * M0 - L0 * M2) := by grind
    rw [e]
    exact dv3 hu c2 c1
  · refine pr_cancel hq h ?_
    have e : L1 * (a0 * M0 + a1 * M1 + a2 * M2) = M1 * (a0 * L0 + a1 * L1 + a2 * L2) + a2 * (L1 * M2 - L2 * M1) + (-a0) * (L0 * M1 - L1 * M0) := by grind
    rw [e]
    exact dv3 hu c0 c2
  · refine pr_cancel hq h ?_
    have e : L2 * (a0 * M0 + a1 * M1 + a2 * M2) = M2 * (a0 * L0 + a1 * L1 + a2 * L2) + a0 * (L2 * M0 - L0 * M2) + (-a1) * (L1 * M2 - L2 * M1) := by grind
    rw [e]
    exact dv3 hu c1 c0
theorem on_L (hq : PR q) (hl : ¬ (q : Int) ∣ l) (d0 : (q : Int) ∣ x0 - l * k0) (d1 : (q : Int) ∣ x1 - l * k1) (d2 : (q : Int) ∣ x2 - l * k2) (e0 : (q : Int) ∣ x0 - (L1 * M2 - L2 * M1)) (e1 : (q : Int) ∣ x1 - (L2 * M0 - L0 * M2)) (e2 : (q : Int) ∣ x2 - (L0 * M1 - L1 * M0)) : (q : Int) ∣ k0 * L0 + k1 * L1 + k2 * L2 ∧ (q : Int) ∣ k0 * M0 + k1 * M1 + k2 * M2 := by
  constructor
  · refine pr_cancel hq hl ?_
    have e : l * (k0 * L0 + k1 * L1 + k2 * L2) = (L0 * (x0 - (L1 * M2 - L2 * M1)) + L1 * (x1 - (L2 * M0 - L0 * M2)) + L2 * (x2 - (L0 * M1 - L1 * M0))) + ((-L0) * (x0 - l * k0) + (-L1) * (x1 - l * k1) + (-L2) * (x2 - l * k2)) := by grind
    rw [e]
    exact dv6 e0 e1 e2 d0 d1 d2
  · refine pr_cancel hq hl ?_
    have e : l * (k0 * M0 + k1 * M1 + k2 * M2) = (M0 * (x0 - (L1 * M2 - L2 * M1)) + M1 * (x1 - (L2 * M0 - L0 * M2)) + M2 * (x2 - (L0 * M1 - L1 * M0))) + ((-M0) * (x0 - l * k0) + (-M1) * (x1 - l * k1) + (-M2) * (x2 - l * k2)) := by grind
    rw [e]
    exact dv6 e0 e1 e2 d0 d1 d2
theorem on_one (hq : PR q) (hl : ¬ (q : Int) ∣ l) (d0 : (q : Int) ∣ x0 - l * k0) (d1 : (q : Int) ∣ x1 - l * k1) (d2 : (q : Int) ∣ x2 - l * k2) (e0 : (q : Int) ∣ x0 - (L1 * M2 - L2 * M1)) (e1 : (q : Int) ∣ x1 - (L2 * M0 - L0 * M2)) (e2 : (q : Int) ∣ x2 - (L0 * M1 - L1 * M0)) (hL : (q : Int) ∣ a0 * L0 + a1 * L1 + a2 * L2) (hM : (q : Int) ∣ a0 * M0 + a1 * M1 + a2 * M2) :
    (q : Int) ∣ a1 * k2 - a2 * k1 ∧ (q : Int) ∣ a2 * k0 - a0 * k2 ∧ (q : Int) ∣ a0 * k1 - a1 * k0 := by
  refine ⟨?_, ?_, ?_⟩
  · refine pr_cancel hq hl ?_
    have e : l * (a1 * k2 - a2 * k1) = (L0 * (a0 * M0 + a1 * M1 + a2 * M2) + (-M0) * (a0 * L0 + a1 * L1 + a2 * L2) + a1 * (x2 - (L0 * M1 - L1 * M0))) + ((-a2) * (x1 - (L2 * M0 - L0 * M2)) + (-a1) * (x2 - l * k2) + a2 * (x1 - l * k1)) := by grind
    rw [e]
    exact dv6 hM hL e2 e1 d2 d1
  · refine pr_cancel hq hl ?_
    have e : l * (a2 * k0 - a0 * k2) = (L1 * (a0 * M0 + a1 * M1 + a2 * M2) + (-M1) * (a0 * L0 + a1 * L1 + a2 * L2) + a2 * (x0 - (L1 * M2 - L2 * M1))) + ((-a0) * (x2 - (L0 * M1 - L1 * M0)) + (-a2) * (x0 - l * k0) + a0 * (x2 - l * k2)) := by grind
    rw [e]
    exact dv6 hM hL e0 e2 d0 d2
  · refine pr_cancel hq hl ?_
    have e : l * (a0 * k1 - a1 * k0) = (L2 * (a0 * M0 + a1 * M1 + a2 * M2) + (-M2) * (a0 * L0 + a1 * L1 + a2 * L2) + a0 * (x1 - (L2 * M0 - L0 * M2))) + ((-a1) * (x0 - (L1 * M2 - L2 * M1)) + (-a0) * (x1 - l * k1) + a1 * (x0 - l * k0)) := by grind
    rw [e]
    exact dv6 hM hL e1 e0 d1 d0
end MT
/-- a difference of products, reduced ahead -/
theorem red_dvd {q : Nat} {a b c d : Int} : (q : Int) ∣ ((a % q) * (b % q) - (c % q) * (d % q)) % q - (a * b - c * d) := by
  have s : ∀ x : Int, (q : Int) ∣ x % q - x := fun x => Int.dvd_emod_sub_self
  have e : ((a % q) * (b % q) - (c % q) * (d % q)) % q - (a * b - c * d) = (1 * (((a % q) * (b % q) - (c % q) * (d % q)) % q - ((a % q) * (b % q) - (c % q) * (d % q))) + (b % q) * (a % q - a) + a * (b % q - b)) + ((-(d % q)) * (c % q - c) + (-c) * (d % q - d) + 0 * 0) := by
    generalize ((a % q) * (b % q) - (c % q) * (d % q)) % q = X
    generalize a % q = A
    generalize b % q = B
    generalize c % q = C
    generalize d % q = D
    grind
  rw [e]
  exact dv6 (s _) (s _) (s _) (s _) (s _) (Int.dvd_zero _)
section CT
variable {S : Nat → Prop} {F : Nat → Int32 × Nat → Int32 × Nat} {n : Nat}
theorem ct_none (hF : ∀ k a, k < n → (S k ∧ F k a = (nI k, a.2 + 1)) ∨ (¬ S k ∧ F k a = a)) : ∀ (d i : Nat) (a : Int32 × Nat), i + d = n → (∀ k, i ≤ k → k < n → ¬ S k) → zfold F d i a = a := by
  intro d
  induction d with
  | zero => intro i a _ _; rfl
  | succ d ih =>
    intro i a h hN
    show zfold F d (i + 1) (F i a) = a
    rcases hF i a (by omega) with ⟨s, -⟩ | ⟨-, e⟩
    · exact absurd s (hN i (Nat.le_refl _) (by omega))
    · rw [e]
      exact ih (i + 1) a (by omega) (fun k h1 h2 => hN k (by omega) h2)
theorem ct_one (hF : ∀ k a, k < n → (S k ∧ F k a = (nI k, a.2 + 1)) ∨ (¬ S k ∧ F k a = a)) {K : Nat} : ∀ (d i : Nat) (a : Int32 × Nat), i + d = n → i ≤ K → K < n → S K → (∀ k, k < n → S k → k = K) → zfold F d i a = (nI K, a.2 + 1) := by
  intro d
  induction d with
  | zero => intro i a h1 h2 h3; omega
  | succ d ih =>
    intro i a h h1 h2 hS hU
    show zfold F d (i + 1) (F i a) = _
    rcases hF i a (by omega) with ⟨s, e⟩ | ⟨s, e⟩
    · have : i = K := hU i (by omega) s
      subst this
      rw [e]
      exact ct_none hF d (i + 1) _ (by omega) (fun k h3 h4 q => by have := hU k h4 q; omega)
    · rw [e]
      exact ih (i + 1) a (by omega) (by
        rcases Nat.eq_or_lt_of_le h1 with u | u
        · subst u; exact absurd hS s
        · omega) h2 hS hU
theorem ct_ge (hF : ∀ k a, k < n → (S k ∧ F k a = (nI k, a.2 + 1)) ∨ (¬ S k ∧ F k a = a)) : ∀ (d i : Nat) (a : Int32 × Nat), i + d = n → a.2 ≤ (zfold F d i a).2 ∧ (∀ j, i ≤ j → j < n → S j → a.2 + 1 ≤ (zfold F d i a).2) ∧ ∀ j k, i ≤ j → j < k → k < n → S j → S k → a.2 + 2 ≤ (zfold F d i a).2 := by
  intro d
  induction d with
  | zero => intro i a h; exact ⟨Nat.le_refl _, fun j h1 h2 => by omega, fun j k h1 h2 h3 => by omega⟩
  | succ d ih =>
    intro i a h
    show a.2 ≤ (zfold F d (i + 1) (F i a)).2 ∧ (∀ j, i ≤ j → j < n → S j → a.2 + 1 ≤ (zfold F d (i + 1) (F i a)).2) ∧ ∀ j k, i ≤ j → j < k → k < n → S j → S k → a.2 + 2 ≤ (zfold F d (i + 1) (F i a)).2
    obtain ⟨g1, g2, g3⟩ := ih (i + 1) (F i a) (by omega)
    rcases hF i a (by omega) with ⟨s, e⟩ | ⟨s, e⟩
    · rw [e] at g1 g2 g3 ⊢
      simp only at g1 g2 g3
      refine ⟨by omega, fun j h1 h2 h3 => by omega, fun j k h1 h2 h3 h4 h5 => ?_⟩
      have := g2 k (by omega) h3 h5
      omega
    · rw [e] at g1 g2 g3 ⊢
      refine ⟨g1, fun j h1 h2 h3 => ?_, fun j k h1 h2 h3 h4 h5 => ?_⟩
      · rcases Nat.eq_or_lt_of_le h1 with u | u
        · subst u; exact absurd h3 s
        · exact g2 j (by omega) h2 h3
      · rcases Nat.eq_or_lt_of_le h1 with u | u
        · subst u; exact absurd h4 s
        · exact g3 j k (by omega) h2 h3 h4 h5
end CT
