/-! ===== remainders and quotients over a prime; pivot alike in both ===== -/
theorem xor_s (x y : Int32) (hy : 0 ≤ y.toInt) : 0 ≤ x ^^^ y ↔ 0 ≤ x.toInt := by
  have key : ∀ z : Int32, 0 ≤ z.toInt ↔ z.toBitVec.msb = false := fun z => by
    rw [BitVec.msb_eq_toInt, decide_eq_false_iff_not]
    exact Int.not_lt.symm
  rw [Jvm.Kit.i32_nonneg, key, key x, Int32.toBitVec_xor, BitVec.msb_xor, (key y).mp hy, Bool.xor_false]
theorem fmod_toInt {x y : Int32} (hy : 0 < y.toInt) : (fmod x y).toInt = x.toInt % y.toInt := by
  have r := rem_toInt x y
  have t := tmod_bounds (a := x.toInt) hy
  have e := Int.emod_eq_tmod (a := x.toInt) (b := y.toInt)
  have b1 := Int32.toInt_lt y
  unfold fmod
  by_cases c : 0 ≤ x ^^^ y
  · have hx := (xor_s x y (by omega)).mp c
    rw [if_pos c, r, e, if_pos (Or.inl hx)]
    omega
  · have hx : ¬ 0 ≤ x.toInt := fun q => c ((xor_s x y (by omega)).mpr q)
    rw [if_neg c]
    by_cases d : x - x / y * y = 0
    · have d0 : x.toInt.tmod y.toInt = 0 := by rw [← r, d]; rfl
      rw [if_pos d, r, e, if_pos (Or.inr (Int.dvd_of_tmod_eq_zero d0))]
      omega
    · have d0 : ¬ y.toInt ∣ x.toInt := fun q => d (Int32.toInt_inj.mp (by rw [r, Int.tmod_eq_zero_of_dvd q]; rfl))
      rw [if_neg d, Jvm.Kit.i32_add (by rw [r]; omega) (by
        rw [r]
        have : x.toInt.tmod y.toInt ≤ 0 := by
          have g := Int.emod_lt_of_pos x.toInt hy
          rw [e, if_neg (by omega)] at g
          omega
        omega), r, e, if_neg (fun q => q.elim hx d0)]
      omega
theorem fmod_nI {x : Int32} {p : Nat} (h0 : 0 < p) (h : p < 1000) : fmod x (nI p) = nI (x.toInt % p).toNat := by
  have e := nI_toInt (n := p) (by omega)
  have g1 := Int.emod_nonneg x.toInt (show (p : Int) ≠ 0 by omega)
  have g2 := Int.emod_lt_of_pos x.toInt (show (0 : Int) < p by omega)
  apply Int32.toInt_inj.mp
  rw [fmod_toInt (by omega), e, nI_toInt (by omega)]
  omega
theorem isPr_iff (p : Int32) : X6_isPrime_v p = X7_isPrime_v p := by
  unfold X6_isPrime_v X7_isPrime_v
  simp only [show prN 0 = 2 from rfl, show prN 1 = 3 from rfl, show prN 2 = 5 from rfl, show prN 3 = 7 from rfl, show prN 4 = 11 from rfl, show prN 5 = 13 from rfl, eq_comm (b := p)]
def PR (q : Nat) : Prop := q = 2 ∨ q = 3 ∨ q = 5 ∨ q = 7 ∨ q = 11 ∨ q = 13
theorem isPr_PR {p : Int32} (h : ¬ X7_isPrime_v p = 0) : ∃ q, PR q ∧ p = nI q := by
  unfold X7_isPrime_v at h
  by_cases c1 : p = nI 2
  · exact ⟨2, Or.inl rfl, c1⟩
  · by_cases c2 : p = nI 3
    · exact ⟨3, Or.inr (Or.inl rfl), c2⟩
    · by_cases c3 : p = nI 5
      · exact ⟨5, Or.inr (Or.inr (Or.inl rfl)), c3⟩
      · by_cases c4 : p = nI 7
        · exact ⟨7, Or.inr (Or.inr (Or.inr (Or.inl rfl))), c4⟩
        · by_cases c5 : p = nI 11
          · exact ⟨11, Or.inr (Or.inr (Or.inr (Or.inr (Or.inl rfl)))), c5⟩
          · by_cases c6 : p = nI 13
            · exact ⟨13, Or.inr (Or.inr (Or.inr (Or.inr (Or.inr rfl)))), c6⟩
            · rw [if_neg c1, if_neg c2, if_neg c3, if_neg c4, if_neg c5, if_neg c6] at h
              exact absurd rfl h
theorem PR_b {q : Nat} (h : PR q) : 2 ≤ q ∧ q ≤ 13 := by
  rcases h with h | h | h | h | h | h <;> subst h <;> decide
/-- each residue is a multiple of one that isn't 0 -/
def anyB (f : Nat → Bool) : Nat → Bool
  | 0 => false
  | n + 1 => f n || anyB f n
theorem anyB_ex {f : Nat → Bool} : ∀ {n : Nat}, anyB f n = true → ∃ k, k < n ∧ f k = true
  | 0, h => by simp [anyB] at h
  | n + 1, h => by
    have h2 : f n = true ∨ anyB f n = true := by simpa [anyB] using h
    rcases h2 with q | q
    · exact ⟨n, by omega, q⟩
    · obtain ⟨k, hk, e⟩ := anyB_ex q
      exact ⟨k, by omega, e⟩
def priOk (q : Nat) : Bool := allB (fun d => d == 0 || allB (fun v => anyB (fun r => r * d % q == v) q) q) q
def pruOk (q : Nat) : Bool := allB (fun d => d == 0 || allB (fun r => allB (fun s => !(r * d % q == s * d % q) || r == s) q) q) q
theorem pri_all : priOk 2 = true ∧ priOk 3 = true ∧ priOk 5 = true ∧ priOk 7 = true ∧ priOk 11 = true ∧ priOk 13 = true := by decide +kernel
theorem pru_all : pruOk 2 = true ∧ pruOk 3 = true ∧ pruOk 5 = true ∧ pruOk 7 = true ∧ pruOk 11 = true ∧ pruOk 13 = true := by decide +kernel
theorem pr_inv0 (q : Nat) (hq : PR q) (d : Nat) (hd : d < q) (h0 : d ≠ 0) (v : Nat) (hv : v < q) : ∃ r, r < q ∧ r * d % q = v := by
  have e : priOk q = true := by
    obtain ⟨a, b, c, d, e, f⟩ := pri_all
    rcases hq with h | h | h | h | h | h <;> subst h <;> assumption
  have e2 := allB_at e d hd
  rw [Bool.or_eq_true, beq_iff_eq] at e2
  obtain ⟨r, hr, er⟩ := anyB_ex (allB_at (e2.resolve_left h0) v hv)
  exact ⟨r, hr, by simpa using er⟩
theorem pr_uni0 (q : Nat) (hq : PR q) (d : Nat) (hd : d < q) (h0 : d ≠ 0) (r : Nat) (hr : r < q) (s : Nat) (hs : s < q) (h : r * d % q = s * d % q) : r = s := by
  have e : pruOk q = true := by
    obtain ⟨a, b, c, d, e, f⟩ := pru_all
    rcases hq with h | h | h | h | h | h <;> subst h <;> assumption
  have e2 := allB_at e d hd
  rw [Bool.or_eq_true, beq_iff_eq] at e2
  have e3 := allB_at (allB_at (e2.resolve_left h0) r hr) s hs
  rw [h] at e3
  simpa using e3
/-- the first number that fits -/
theorem foldY_first {P : Nat → Prop} [DecidablePred P] {n : Nat} {β : Type} (g : Nat → β) {B : Nat → Unit → Option (β ⊕ Unit)} {F : Nat → Unit → Unit} (hB : ∀ i a, i < n → B i a = if P i then some (.inl (g i)) else none) : ∀ (d i r : Nat), i + d = n → i ≤ r → r < n → P r → (∀ j, i ≤ j → j < r → ¬ P j) → zfoldY B F d i () = .inl (g r) := by
  intro d
  induction d with
  | zero => intro i r h1 h2 h3; omega
  | succ d ih =>
    intro i r h1 h2 h3 h4 h5
    by_cases c : i = r
    · subst c
      have e := hB i () (by omega)
      rw [if_pos h4] at e
      simp only [zfoldY, e]
    · have e := hB i () (by omega)
      rw [if_neg (h5 i (by omega) (by omega))] at e
      simp only [zfoldY, e]
      exact ih (i + 1) r (by omega) (by omega) h3 h4 (fun j h => h5 j (by omega))
theorem foldB_first {P : Nat → Prop} [DecidablePred P] {n : Nat} {β : Type} (g : Nat → β) {B : Nat → Unit → Option β} {F : Nat → Unit → Unit} (hB : ∀ i a, i < n → B i a = if P i then some (g i) else none) : ∀ (d i r : Nat), i + d = n → i ≤ r → r < n → P r → (∀ j, i ≤ j → j < r → ¬ P j) → (zfoldB B F d i ()).1 = some (g r) := by
  intro d
  induction d with
  | zero => intro i r h1 h2 h3; omega
  | succ d ih =>
    intro i r h1 h2 h3 h4 h5
    by_cases c : i = r
    · subst c
      have e := hB i () (by omega)
      rw [if_pos h4] at e
      simp only [zfoldB, e]
    · have e := hB i () (by omega)
      rw [if_neg (h5 i (by omega) (by omega))] at e
      simp only [zfoldB, e]
      exact ih (i + 1) r (by omega) (by omega) h3 h4 (fun j h => h5 j (by omega))
section PV
variable {q : Nat}
/-- the quotient over a prime -/
theorem quo_none (hq : PR q) {v d : Int32} (h : d.toInt % q = 0) : X2_quotient_v q v d = -4 := by
  have hb := PR_b hq
  have e : fmod d (nI q) = 0 := by rw [fmod_nI (by omega) (by omega), h]; rfl
  unfold X2_quotient_v
  obtain ⟨k, rfl⟩ : ∃ k, q = k + 1 := ⟨q - 1, by omega⟩
  have eB : X2_quotient_L23_B (k + 1) v d 0 () = some (.inr ()) := by unfold X2_quotient_L23_B; rw [if_pos e]
  simp only [zfoldY, eB, zpickY]
theorem quo_some (hq : PR q) {v d : Int32} (h : ¬ d.toInt % q = 0) : ∃ r, r < q ∧ X2_quotient_v q v d = nI r ∧ r * (d.toInt % q).toNat % q = (v.toInt % q).toNat ∧ ∀ s, s < q → s * (d.toInt % q).toNat % q = (v.toInt % q).toNat → s = r := by
  have hb := PR_b hq
  have g1 := Int.emod_nonneg d.toInt (show (q : Int) ≠ 0 by omega)
  have g2 := Int.emod_lt_of_pos d.toInt (show (0 : Int) < q by omega)
  have g3 := Int.emod_nonneg v.toInt (show (q : Int) ≠ 0 by omega)
  have g4 := Int.emod_lt_of_pos v.toInt (show (0 : Int) < q by omega)
  have ed : fmod d (nI q) = nI (d.toInt % q).toNat := fmod_nI (by omega) (by omega)
  have ev : fmod v (nI q) = nI (v.toInt % q).toNat := fmod_nI (by omega) (by omega)
  have ld : (d.toInt % q).toNat < q := by omega
  have lv : (v.toInt % q).toNat < q := by omega
  have nd : (d.toInt % q).toNat ≠ 0 := by omega
  generalize (d.toInt % q).toNat = D at *
  generalize (v.toInt % q).toNat = V at *
  obtain ⟨r, hr, er⟩ := pr_inv0 q hq D ld nd V lv
  have uni : ∀ s, s < q → s * D % q = V → s = r := fun s hs es => pr_uni0 q hq D ld nd s hs r hr (by rw [es, er])
  refine ⟨r, hr, ?_, er, uni⟩
  unfold X2_quotient_v
  rw [foldY_first (P := fun r => r * D % q = V) (n := q) (fun r => nI r) (fun i a hi => by
    unfold X2_quotient_L23_B
    have nz : ¬ fmod d (nI q) = 0 := by rw [ed]; exact nI_ne0 (by omega) (by omega)
    have hm : i * D < 200 := Nat.lt_of_le_of_lt (Nat.mul_le_mul (show i ≤ 13 by omega) (show D ≤ 13 by omega)) (by decide)
    rw [if_neg nz, ed, ev, zq_rem (zq_mul rfl rfl) rfl (by omega) (by omega) (by omega)]
    have : nI (i * D % q) = nI V ↔ i * D % q = V := nI_eq (by have := Nat.mod_lt (i * D) (show 0 < q by omega); omega) (by omega)
    by_cases c : i * D % q = V
    · rw [if_pos c, if_pos (this.mpr c)]
    · rw [if_neg c, if_neg (fun u => c (this.mp u))]) q 0 r (by omega) (by omega) hr er (fun j _ hj ej => by have := uni j (by omega) ej; omega)]
  rfl
/-- what the reference's loop asks of a number -/
theorem piv_ask (hq : PR q) {v d : Int32} {r : Nat} (hr : r < q) : lg_cmp (((((nI r).toInt64) * d.toInt64) - v.toInt64) - ((((nI r).toInt64) * d.toInt64) - v.toInt64) / (nI q).toInt64 * (nI q).toInt64) 0 = 0 ↔ r * (d.toInt % q).toNat % q = (v.toInt % q).toNat := by
  have hb := PR_b hq
  have g1 := Int.emod_nonneg d.toInt (show (q : Int) ≠ 0 by omega)
  have g3 := Int.emod_nonneg v.toInt (show (q : Int) ≠ 0 by omega)
  have a1 := Int32.toInt_lt d
  have a2 := Int32.le_toInt d
  have a3 := Int32.toInt_lt v
  have a4 := Int32.le_toInt v
  have eX : ((((nI r).toInt64) * d.toInt64) - v.toInt64).toInt = r * d.toInt - v.toInt := by
    have m1 : (r : Int) * d.toInt < 2 ^ 40 := by
      rcases Int.le_total 0 d.toInt with h | h
      · have := Int.mul_le_mul (show (r : Int) ≤ 13 by omega) (show d.toInt ≤ 2147483648 by omega) h (by omega)
        omega
      · have := Int.mul_nonneg (show (0 : Int) ≤ r by omega) (show 0 ≤ -d.toInt by omega)
        rw [Int.mul_neg] at this
        omega
    have m2 : -2 ^ 40 < (r : Int) * d.toInt := by
      rcases Int.le_total 0 d.toInt with h | h
      · have := Int.mul_nonneg (show (0 : Int) ≤ r by omega) h
        omega
      · have := Int.mul_le_mul (show (r : Int) ≤ 13 by omega) (show -d.toInt ≤ 2147483648 by omega) (by omega) (by omega)
        rw [Int.mul_neg] at this
        omega
    have e1 : ((nI r).toInt64 * d.toInt64).toInt = r * d.toInt := by
      rw [Int64.toInt_mul, Int32.toInt_toInt64, Int32.toInt_toInt64, nI_toInt (by omega)]
      exact Jvm.Kit.bmod64 (by omega) (by omega)
    rw [Int64.toInt_sub, e1, Int32.toInt_toInt64]
    exact Jvm.Kit.bmod64 (by omega) (by omega)
  have eR : (((((nI r).toInt64) * d.toInt64) - v.toInt64) - ((((nI r).toInt64) * d.toInt64) - v.toInt64) / (nI q).toInt64 * (nI q).toInt64).toInt = (r * d.toInt - v.toInt).tmod q := by
    rw [Jvm.Kit.i64_rem, eX, Int32.toInt_toInt64, nI_toInt (by omega)]
  generalize ((((nI r).toInt64) * d.toInt64) - v.toInt64) - ((((nI r).toInt64) * d.toInt64) - v.toInt64) / (nI q).toInt64 * (nI q).toInt64 = Z at eR
  have k1 : lg_cmp Z 0 = 0 ↔ Z = 0 := by
    unfold lg_cmp
    by_cases g : Z > 0
    · rw [if_pos g]
      exact ⟨fun h => absurd h (by decide), fun h => by subst h; exact absurd g (by decide)⟩
    · rw [if_neg g]
      by_cases c : Z = 0
      · rw [if_pos c]
        exact ⟨fun _ => c, fun _ => rfl⟩
      · rw [if_neg c]
        exact ⟨fun h => absurd h (by decide), fun h => absurd h c⟩
  rw [k1]
  have k2 : Z = 0 ↔ (q : Int) ∣ r * d.toInt - v.toInt := by
    rw [Int.dvd_iff_tmod_eq_zero, ← eR]
    constructor
    · intro h; rw [h]; rfl
    · intro h; exact Int64.toInt_inj.mp (h.trans rfl)
  rw [k2]
  have k3 : ((r * (d.toInt % q).toNat % q : Nat) : Int) = (r * d.toInt) % q := by
    rw [Int.natCast_emod, Int.natCast_mul, Int.toNat_of_nonneg g1, Int.mul_emod, Int.emod_emod_of_dvd _ (Int.dvd_refl _), ← Int.mul_emod]
  have k4 : (((v.toInt % q).toNat : Nat) : Int) = v.toInt % q := Int.toNat_of_nonneg g3
  constructor
  · intro h
    have := Int.emod_eq_emod_iff_emod_sub_eq_zero.mpr (Int.emod_eq_zero_of_dvd h)
    omega
  · intro h
    have h' : (r * d.toInt) % q = v.toInt % q := by rw [← k3, ← k4, h]
    exact Int.dvd_of_emod_eq_zero (Int.emod_eq_emod_iff_emod_sub_eq_zero.mp h')
end PV
theorem rem0 {d : Int32} {q : Nat} (hq : PR q) : d - d / nI q * nI q = 0 ↔ d.toInt % q = 0 := by
  have hb := PR_b hq
  have r := rem_toInt d (nI q)
  rw [nI_toInt (by omega)] at r
  constructor
  · intro h
    rw [h] at r
    exact Int.emod_eq_zero_of_dvd (Int.dvd_of_tmod_eq_zero r.symm)
  · intro h
    apply Int32.toInt_inj.mp
    rw [r, Int.tmod_eq_zero_of_dvd (Int.dvd_of_emod_eq_zero h)]
    rfl
/-- the hypothesis that the reference's contract has -/
theorem piv_hyp (p v d : Int32) : ¬ X7_isPrime_v p = 0 → ¬ d - d / p * p = 0 → ∃ r, r < p.toNatClampNeg ∧ lg_cmp ((((nI r).toInt64 * d.toInt64) - v.toInt64) - (((nI r).toInt64 * d.toInt64) - v.toInt64) / p.toInt64 * p.toInt64) 0 = 0 := by
  intro h1 h2
  obtain ⟨q, hq, rfl⟩ := isPr_PR h1
  have hb := PR_b hq
  obtain ⟨r, hr, -, e, -⟩ := quo_some hq (v := v) (d := d) (fun u => h2 ((rem0 hq).mpr u))
  rw [nI_clamp (by omega)]
  exact ⟨r, hr, (piv_ask hq hr).mpr e⟩
theorem pivot_same (tps pts lns wds brs ors : Nat) (stp hasP fld laid told : Int32) (rws : Nat) (cms : Int32) (cmT : Nat) (cmS isN : Int32) (trs : Nat) (p v d : Int32) :
    (¬ X6_isPrime_v p = 0 ∧ X2_quotient_v p.toNatClampNeg v d = -4 ∧ X7_pivot_p76_0 tps pts lns wds brs ors stp hasP fld laid told rws cms cmT cmS isN trs p v d = 1) ∨
    ((¬ X6_isPrime_v p = 0 → ¬ X2_quotient_v p.toNatClampNeg v d = -4) ∧ X7_pivot_p76_0 tps pts lns wds brs ors stp hasP fld laid told rws cms cmT cmS isN trs p v d = 0 ∧ X6_pivot_v p v d = X7_pivot_v tps pts lns wds brs ors stp hasP fld laid told rws cms cmT cmS isN trs p v d) := by
  unfold X7_pivot_p76_0 X7_pivot_v X6_pivot_v
  rw [isPr_iff]
  by_cases c : X7_isPrime_v p = 0
  · rw [if_pos c, if_pos c, if_pos c]
    exact Or.inr ⟨fun h => absurd c h, rfl, rfl⟩
  · rw [if_neg c, if_neg c, if_neg c]
    obtain ⟨q, hq, rfl⟩ := isPr_PR c
    have hb := PR_b hq
    rw [nI_clamp (by omega)]
    by_cases e : d - d / nI q * nI q = 0
    · rw [if_pos e, if_pos e]
      exact Or.inl ⟨c, quo_none hq ((rem0 hq).mp e), rfl⟩
    · rw [if_neg e, if_neg e]
      obtain ⟨r, hr, e1, e2, e3⟩ := quo_some hq (v := v) (d := d) (fun u => e ((rem0 hq).mpr u))
      have ez := foldB_first (P := fun r => r * (d.toInt % q).toNat % q = (v.toInt % q).toNat) (n := q) (fun r => (nI r, 0)) (B := X7_pivot_L31_B (nI q) v d) (F := X7_pivot_L31_F (nI q) v d) (fun i a hi => by
        unfold X7_pivot_L31_B
        by_cases u : i * (d.toInt % q).toNat % q = (v.toInt % q).toNat
        · rw [if_pos u, if_pos ((piv_ask hq hi).mpr u)]
        · rw [if_neg u, if_neg (fun w => u ((piv_ask hq hi).mp w))]) q 0 r (by omega) (by omega) hr e2 (fun j _ hj ej => by have := e3 j (by omega) ej; omega)
      generalize zfoldB (X7_pivot_L31_B (nI q) v d) (X7_pivot_L31_F (nI q) v d) q 0 () = Z at ez ⊢
      obtain ⟨z1, z2⟩ := Z
      simp only at ez
      subst ez
      rw [e1]
      exact Or.inr ⟨fun _ => nI_n4 (by omega), rfl, rfl⟩
