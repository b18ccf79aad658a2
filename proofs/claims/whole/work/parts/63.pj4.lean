/-! ===== what a relation tells: class and reference alike ===== -/
def sgIn (x : Int32) : Prop := x = -1 ∨ x = 0 ∨ x = 1 ∨ x = nI 9
def sgCode (x : Int32) : Nat := if x = -1 then 0 else if x = 0 then 1 else if x = 1 then 2 else 3
theorem sgCode_lt (x : Int32) : sgCode x < 4 := by
  unfold sgCode
  repeat' split
  all_goals decide
theorem sgCode_ok {x : Int32} (h : sgIn x) : cvS (sgCode x) = x := by
  rcases h with h | h | h | h <;> (subst h; decide)
theorem jw {L : Nat → Int32} {J : Nat → Nat → Int32} (hL : ∀ i, i < 6 → sgIn (L i)) (hJ : ∀ t s, t < 3 → s < 2 → J t s = cvJ (L (2 * t + s))) :
    (wkD L).1 = (jdD J).1 ∧ ((wkD L).1 = 2 → (wkD L).2.1 / 2 = (jdD J).2.1 ∧ (wkD L).2.1 % 2 = (jdD J).2.2.1 ∧ (wkD L).2.2 = (jdD J).2.2.2 ∧ ((wkD L).2.2 = -1 ∨ (wkD L).2.2 = 0 ∨ (wkD L).2.2 = 1)) := by
  obtain ⟨k, hk, hc⟩ : ∃ k, k < 4096 ∧ ∀ i, i < 6 → cL k i = L i := by
    have b0 := sgCode_lt (L 0)
    have b1 := sgCode_lt (L 1)
    have b2 := sgCode_lt (L 2)
    have b3 := sgCode_lt (L 3)
    have b4 := sgCode_lt (L 4)
    have b5 := sgCode_lt (L 5)
    refine ⟨sgCode (L 0) + 4 * sgCode (L 1) + 16 * sgCode (L 2) + 64 * sgCode (L 3) + 256 * sgCode (L 4) + 1024 * sgCode (L 5), by omega, fun i hi => ?_⟩
    unfold cL
    rcases (show i = 0 ∨ i = 1 ∨ i = 2 ∨ i = 3 ∨ i = 4 ∨ i = 5 by omega) with rfl | rfl | rfl | rfl | rfl | rfl
    · rw [show (4 : Nat) ^ 0 = 1 from rfl, ← sgCode_ok (hL 0 (by decide))]
      refine congrArg cvS ?_
      rw [sgCode_ok (hL 0 (by decide))]
      omega
    · rw [show (4 : Nat) ^ 1 = 4 from rfl, ← sgCode_ok (hL 1 (by decide))]
      refine congrArg cvS ?_
      rw [sgCode_ok (hL 1 (by decide))]
      omega
    · rw [show (4 : Nat) ^ 2 = 16 from rfl, ← sgCode_ok (hL 2 (by decide))]
      refine congrArg cvS ?_
      rw [sgCode_ok (hL 2 (by decide))]
      omega
    · rw [show (4 : Nat) ^ 3 = 64 from rfl, ← sgCode_ok (hL 3 (by decide))]
      refine congrArg cvS ?_
      rw [sgCode_ok (hL 3 (by decide))]
      omega
    · rw [show (4 : Nat) ^ 4 = 256 from rfl, ← sgCode_ok (hL 4 (by decide))]
      refine congrArg cvS ?_
      rw [sgCode_ok (hL 4 (by decide))]
      omega
    · rw [show (4 : Nat) ^ 5 = 1024 from rfl, ← sgCode_ok (hL 5 (by decide))]
      refine congrArg cvS ?_
      rw [sgCode_ok (hL 5 (by decide))]
      omega
  have e1 : wkD L = wkD (cL k) := wkD_ext (fun i hi => (hc i hi).symm)
  have e2 : jdD J = jdD (fun t s => cvJ (cL k (2 * t + s))) := jdD_ext (fun t s ht hs => by rw [hJ t s ht hs, hc (2 * t + s) (by omega)])
  have q := allB_at jw_all k hk
  unfold jwOk at q
  rw [e1, e2]
  simp only [Bool.and_eq_true, Bool.or_eq_true, beq_iff_eq, bne_iff_ne] at q
  refine ⟨q.1, fun h => ?_⟩
  rcases q.2 with z | z
  · exact absurd h z
  · exact ⟨z.1.1.1, z.1.1.2, z.1.2, by rcases z.2 with (z | z) | z; exact Or.inl z; exact Or.inr (Or.inl z); exact Or.inr (Or.inr z)⟩
theorem wkD_at {L : Nat → Int32} : (wkD L).2.1 < 6 := by
  have hl := wkA_lt (L := L)
  rw [← wkD_map (fun z => z.2.1)]
  unfold wkK wkSK
  repeat' split
  all_goals first | exact hl | exact (show (0 : Nat) < 6 by decide)
set_option maxRecDepth 100000 in
theorem turn57_0 : ∀ a, a < 10 → ∀ b, b < 10 → ∀ c, c < 10 → (a = b ∨ a = c ∨ b = c) ∨ X5_turnOf_v (nI a) (nI b) (nI c) = X7_turnOf_v (nI a) (nI b) (nI c) := by decide +kernel
theorem turn57 {a b c : Nat} (ha : a < 10) (hb : b < 10) (hc : c < 10) (h1 : a ≠ b) (h2 : a ≠ c) (h3 : b ≠ c) : X5_turnOf_v (nI a) (nI b) (nI c) = X7_turnOf_v (nI a) (nI b) (nI c) := by
  rcases turn57_0 a ha b hb c hc with q | q
  · omega
  · exact q
/-- which two points stand behind a in one of the six signs -/
def b2 (t b c d e : Nat) : Nat := if t = 0 ∨ t = 2 ∨ t = 4 then b else if t = 1 then d else c
def b3 (t b c d e : Nat) : Nat := if t = 0 then c else if t = 2 ∨ t = 5 then d else e
theorem six6 {P : Nat → Prop} (h0 : P 0) (h1 : P 1) (h2 : P 2) (h3 : P 3) (h4 : P 4) (h5 : P 5) : ∀ t, t < 6 → P t := by
  intro t ht
  rcases (show t = 0 ∨ t = 1 ∨ t = 2 ∨ t = 3 ∨ t = 4 ∨ t = 5 by omega) with rfl | rfl | rfl | rfl | rfl | rfl <;> assumption
theorem tells14 {a b c d e : Nat} : ∀ t, t < 6 → X7_tells_p76_14 t a b c d e = plN a (b2 t b c d e) (b3 t b c d e) := six6 rfl rfl rfl rfl rfl rfl
theorem tells15 {a b c d e : Nat} {sn : Int32} : ∀ t, t < 6 → X7_tells_p76_15 t sn a b c d e = sn * X7_turnOf_v (nI a) (nI (b2 t b c d e)) (nI (b3 t b c d e)) := six6 rfl rfl rfl rfl rfl rfl
theorem six_at {sg sx : Nat → Int32} {a b c d e : Nat} : ∀ t, t < 6 → X7_laySix_c101 sg sx a b c d e t = X7_signOf_v sg a (b2 t b c d e) (b3 t b c d e) := six6 rfl rfl rfl rfl rfl rfl
theorem jr_at {rl : Nat → Int32} {a b c d e : Nat} (h0 : rl 0 = nI a) (h1 : rl 1 = nI b) (h2 : rl 2 = nI c) (h3 : rl 3 = nI d) (h4 : rl 4 = nI e) (ha : a < 10) (hb : b < 10) (hc : c < 10) (hd : d < 10) (he : e < 10) : ∀ t, t < 6 → jr rl (t / 2) (t % 2) 0 = a ∧ jr rl (t / 2) (t % 2) 1 = b2 t b c d e ∧ jr rl (t / 2) (t % 2) 2 = b3 t b c d e := by
  have ea : (rl 0).toNatClampNeg = a := by rw [h0]; exact pk_cl a rfl (by omega)
  have eb : (rl 1).toNatClampNeg = b := by rw [h1]; exact pk_cl b rfl (by omega)
  have ec : (rl 2).toNatClampNeg = c := by rw [h2]; exact pk_cl c rfl (by omega)
  have ed : (rl 3).toNatClampNeg = d := by rw [h3]; exact pk_cl d rfl (by omega)
  have ee : (rl 4).toNatClampNeg = e := by rw [h4]; exact pk_cl e rfl (by omega)
  exact six6 ⟨ea, eb, ec⟩ ⟨ea, ed, ee⟩ ⟨ea, eb, ed⟩ ⟨ea, ec, ee⟩ ⟨ea, eb, ee⟩ ⟨ea, ec, ed⟩
