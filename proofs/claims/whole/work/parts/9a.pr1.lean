/-! ===== reading: bits, letters, points ===== -/
theorem one_shl0 : ∀ c, c < 31 → nI 1 <<< (nI c &&& 31) = nI (2 ^ c) := by decide +kernel
def tbOk (k : Nat) : Bool := decide ((nI (k / 10) >>> (nI (k % 10) &&& 31)) &&& nI 1 = 0) == !((k / 10).testBit (k % 10))
set_option maxRecDepth 200000 in
theorem tb_all0 : allB (fun k => tbOk (0 + k)) 2560 = true := by decide +kernel
set_option maxRecDepth 200000 in
theorem tb_all1 : allB (fun k => tbOk (2560 + k)) 2560 = true := by decide +kernel
set_option maxRecDepth 200000 in
theorem tb_all2 : allB (fun k => tbOk (5120 + k)) 2560 = true := by decide +kernel
set_option maxRecDepth 200000 in
theorem tb_all3 : allB (fun k => tbOk (7680 + k)) 2560 = true := by decide +kernel
theorem tb_all {k : Nat} (h : k < 10240) : tbOk k = true := by
  rcases Nat.lt_or_ge k 2560 with c | c
  · have := allB_at tb_all0 k c
    rw [Nat.zero_add] at this
    exact this
  · rcases Nat.lt_or_ge k 5120 with c2 | c2
    · have := allB_at tb_all1 (k - 2560) (by omega)
      rw [show 2560 + (k - 2560) = k by omega] at this
      exact this
    · rcases Nat.lt_or_ge k 7680 with c3 | c3
      · have := allB_at tb_all2 (k - 5120) (by omega)
        rw [show 5120 + (k - 5120) = k by omega] at this
        exact this
      · have := allB_at tb_all3 (k - 7680) (by omega)
        rw [show 7680 + (k - 7680) = k by omega] at this
        exact this
theorem tb_is {m c : Nat} (hm : m < 1024) (hc : c < 10) : (nI m >>> (nI c &&& 31)) &&& nI 1 = 0 ↔ m.testBit c = false := by
  have e := tb_all (k := 10 * m + c) (by omega)
  unfold tbOk at e
  rw [show (10 * m + c) / 10 = m by omega, show (10 * m + c) % 10 = c by omega] at e
  cases h : m.testBit c
  · rw [h] at e
    exact ⟨fun _ => rfl, fun _ => by simpa using e⟩
  · rw [h] at e
    exact ⟨fun q => by rw [decide_eq_true q] at e; exact absurd e (by decide), fun q => absurd q (by decide)⟩
def bcOk (m : Nat) : Bool := decide (bcnt (nI m) ≤ nI 1) == allB (fun x => allB (fun y => (!(m.testBit x && m.testBit y)) || x == y) 10) 10
set_option maxRecDepth 200000 in
theorem bc_all : allB bcOk 1024 = true := by decide +kernel
theorem allB_mk {f : Nat → Bool} : ∀ {n : Nat}, (∀ k, k < n → f k = true) → allB f n = true
  | 0, _ => rfl
  | n + 1, h => by
    show (f n && allB f n) = true
    rw [allB_mk (fun k hk => h k (by omega)), h n (by omega)]
    rfl
theorem bc_is {m : Nat} (hm : m < 1024) : bcnt (nI m) ≤ nI 1 ↔ ∀ x y, x < 10 → y < 10 → m.testBit x = true → m.testBit y = true → x = y := by
  have e := allB_at bc_all m hm
  unfold bcOk at e
  constructor
  · intro h x y hx hy h1 h2
    rw [decide_eq_true h] at e
    have e2 : allB (fun x => allB (fun y => (!(m.testBit x && m.testBit y)) || x == y) 10) 10 = true := by
      cases c : allB (fun x => allB (fun y => (!(m.testBit x && m.testBit y)) || x == y) 10) 10
      · rw [c] at e; exact absurd e (by decide)
      · rfl
    have e3 := allB_at (allB_at e2 x hx) y hy
    rw [h1, h2] at e3
    simpa using e3
  · intro h
    have e2 : allB (fun x => allB (fun y => (!(m.testBit x && m.testBit y)) || x == y) 10) 10 = true := allB_mk (fun x hx => allB_mk (fun y hy => by
      cases c1 : m.testBit x
      · rfl
      · cases c2 : m.testBit y
        · rfl
        · rw [h x y hx hy c1 c2]
          simp))
    rw [e2] at e
    by_cases c : bcnt (nI m) ≤ nI 1
    · exact c
    · rw [decide_eq_false c] at e
      exact absurd e (by decide)
theorem tb_pow {c x : Nat} : (2 ^ c).testBit x = decide (c = x) := Nat.testBit_two_pow
theorem tb_ext {m : Nat} (hm : m < 1024) {x : Nat} (hx : m.testBit x = true) : x < 10 := by
  rcases Nat.lt_or_ge x 10 with h | h
  · exact h
  · have : m.testBit x = false := Nat.testBit_lt_two_pow (Nat.lt_of_lt_of_le hm (show 2 ^ 10 ≤ 2 ^ x from Nat.pow_le_pow_right (show 2 > 0 by decide) h))
    rw [this] at hx
    cases hx
theorem or_lt {a b : Nat} (ha : a < 1024) (hb : b < 1024) : a ||| b < 1024 := Nat.or_lt_two_pow (n := 10) ha hb
theorem pow_lt {c : Nat} (h : c < 10) : 2 ^ c < 1024 := Nat.pow_lt_pow_right (by decide) h
theorem and_lt {a b : Nat} (hb : b < 1024) : a &&& b < 1024 := Nat.lt_of_le_of_lt Nat.and_le_right hb
theorem and_0 {a b : Nat} : a &&& b = 0 ↔ ∀ x, ¬ (a.testBit x = true ∧ b.testBit x = true) := by
  constructor
  · intro h x q
    have : (a &&& b).testBit x = true := by rw [Nat.testBit_and, q.1, q.2]; rfl
    rw [h, Nat.zero_testBit] at this
    cases this
  · intro h
    apply Nat.eq_of_testBit_eq
    intro x
    rw [Nat.testBit_and, Nat.zero_testBit]
    cases c1 : a.testBit x
    · rfl
    · cases c2 : b.testBit x
      · rfl
      · exact absurd ⟨c1, c2⟩ (h x)
/-- the letters in the order in which they came -/
def addD (D : List Nat) (c : Nat) : List Nat := if c ∈ D then D else D ++ [c]
theorem addD_nd {D : List Nat} {c : Nat} (h : D.Nodup) : (addD D c).Nodup := by
  unfold addD
  split
  · exact h
  · rename_i q
    rw [List.nodup_append]
    exact ⟨h, by simp, fun a ha b hb => by
      simp at hb
      subst hb
      exact fun e => q (e ▸ ha)⟩
theorem addD_mem {D : List Nat} {c : Nat} : c ∈ addD D c := by
  unfold addD
  split
  · assumption
  · simp
theorem addD_sub {D : List Nat} {c x : Nat} (h : x ∈ D) : x ∈ addD D c := by
  unfold addD
  split
  · exact h
  · exact List.mem_append_left _ h
theorem addD_or {D : List Nat} {c x : Nat} (h : x ∈ addD D c) : x ∈ D ∨ x = c := by
  unfold addD at h
  split at h
  · exact Or.inl h
  · simpa using h
theorem addD_idx {D : List Nat} {c x : Nat} (h : x ∈ D) : (addD D c).idxOf x = D.idxOf x := by
  unfold addD
  split
  · rfl
  · rw [List.idxOf_append, if_pos h]
theorem idx_lt {D : List Nat} {x : Nat} (h : x ∈ D) : D.idxOf x < D.length := List.idxOf_lt_length_of_mem h
theorem idx_inj {D : List Nat} {x y : Nat} (hx : x ∈ D) (hy : y ∈ D) (h : D.idxOf x = D.idxOf y) : x = y := by
  have a := List.getElem_idxOf (idx_lt hx)
  have b := List.getElem_idxOf (idx_lt hy)
  rw [← a, ← b]
  simp only [h]
theorem nd_len {D : List Nat} (h : D.Nodup) (hD : ∀ c, c ∈ D → c < 10) : D.length ≤ 10 := by
  have := List.Nodup.length_le_of_subset h (l₂ := List.range 10) (fun x hx => List.mem_range.mpr (hD x hx))
  simpa using this
/-- the point of a letter, by the class -/
theorem point_is {D : List Nat} (hN : D.Nodup) (hD : ∀ c, c ∈ D → c < 10) {lo : Nat → Int32} (hlo : ∀ k c, D[k]? = some c → lo k = nI (c + 97)) {c : Nat} (hc : c < 10) (lns ltr : Nat) (inw : Int32) :
    X4_pointOf_v D.length lns ltr inw lo (nI (c + 97)) = nI ((addD D c).idxOf c) ∧ X4_pointOf_pT0_0 D.length lns ltr inw lo (nI (c + 97)) = (addD D c).length ∧ ∀ k x, (addD D c)[k]? = some x → X4_pointOf_cT1 D.length lns ltr inw lo (nI (c + 97)) k = nI (x + 97) := by
  have key : ∀ k, k < D.length → (lo k = nI (c + 97) ↔ D[k]? = some c) := fun k hk => by
    have e : D[k]? = some D[k] := List.getElem?_eq_getElem hk
    have lt := hD D[k] (List.getElem_mem hk)
    rw [hlo k _ e, e, Option.some.injEq]
    exact ⟨fun q => by have := (nI_eq (by omega) (by omega)).mp q; omega, fun q => by rw [q]⟩
  unfold X4_pointOf_v X4_pointOf_pT0_0 X4_pointOf_cT1
  by_cases m : c ∈ D
  · have ea : addD D c = D := if_pos m
    rw [ea]
    have lt := idx_lt m
    have at0 : D[D.idxOf c]? = some c := by rw [List.getElem?_eq_getElem lt, List.getElem_idxOf lt]
    have ez := foldB_first (P := fun k => D[k]? = some c) (n := D.length) (fun k => (nI k, D.length, lo)) (B := X4_pointOf_L2_B D.length lo (nI (c + 97))) (F := X4_pointOf_L2_F lo (nI (c + 97))) (fun k a hk => by
      unfold X4_pointOf_L2_B
      by_cases q : D[k]? = some c
      · rw [if_pos q, if_pos ((key k hk).mpr q)]
      · rw [if_neg q, if_neg (fun u => q ((key k hk).mp u))]) D.length 0 (D.idxOf c) (by omega) (Nat.zero_le _) lt at0 (fun j _ hj q => by
        have lj : j < D.length := by omega
        rw [List.getElem?_eq_getElem lj, Option.some.injEq] at q
        have : D.idxOf c ≤ j := by
          rw [← q]
          exact Nat.le_of_eq (hN.idxOf_getElem j lj)
        omega)
    generalize zfoldB (X4_pointOf_L2_B D.length lo (nI (c + 97))) (X4_pointOf_L2_F lo (nI (c + 97))) D.length 0 () = Z at ez ⊢
    obtain ⟨z1, z2⟩ := Z
    simp only at ez
    subst ez
    exact ⟨rfl, rfl, hlo⟩
  · have ea : addD D c = D ++ [c] := if_neg m
    have ez : ∀ (d i : Nat), i + d = D.length → zfoldB (X4_pointOf_L2_B D.length lo (nI (c + 97))) (X4_pointOf_L2_F lo (nI (c + 97))) d i () = (none, ()) := by
      intro d
      induction d with
      | zero => intro i _; rfl
      | succ d ih =>
        intro i h
        have eB : X4_pointOf_L2_B D.length lo (nI (c + 97)) i () = none := by
          unfold X4_pointOf_L2_B
          rw [if_neg (fun u => m (List.mem_of_getElem? ((key i (by omega)).mp u)))]
        simp only [zfoldB, eB]
        exact ih (i + 1) (by omega)
    rw [ez D.length 0 (by omega), ea]
    refine ⟨?_, ?_, fun k x hk => ?_⟩
    · show nI (D.length + 1 - 1) = _
      rw [List.idxOf_append, if_neg m, Nat.add_sub_cancel]
      simp
    · show D.length + 1 = _
      simp
    · show upd lo D.length (nI (c + 97)) k = _
      unfold upd
      by_cases q : k = D.length
      · subst q
        rw [if_pos rfl]
        rw [List.getElem?_append_right (Nat.le_refl _), Nat.sub_self] at hk
        cases hk
        rfl
      · rw [if_neg q]
        rcases Nat.lt_or_ge k D.length with u | u
        · rw [List.getElem?_append_left u] at hk
          exact hlo k x hk
        · rw [List.getElem?_eq_none (show (D ++ [c]).length ≤ k by simp; omega)] at hk
          cases hk
