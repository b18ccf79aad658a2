/-! ===== what is told behind a read ===== -/
theorem zset {G : Nat → (Nat → Int32) → (Nat → Int32)} {P : Nat → Nat → Prop} {n : Nat} (h : ∀ m a k, m < n → (G m a k = 0 ↔ a k = 0 ∧ P m k)) : ∀ (d i : Nat) (a : Nat → Int32) (k : Nat), i + d ≤ n → (zfold G d i a k = 0 ↔ a k = 0 ∧ ∀ m, i ≤ m → m < i + d → P m k) := by
  intro d
  induction d with
  | zero => intro i a k _; exact ⟨fun q => ⟨q, fun m h1 h2 => by omega⟩, fun q => q.1⟩
  | succ d ih =>
    intro i a k hi
    show zfold G d (i + 1) (G i a) k = 0 ↔ _
    rw [ih (i + 1) (G i a) k (by omega), h i a k (by omega)]
    constructor
    · rintro ⟨⟨q1, q2⟩, q3⟩
      refine ⟨q1, fun m h1 h2 => ?_⟩
      by_cases c : m = i
      · subst c; exact q2
      · exact q3 m (by omega) (by omega)
    · rintro ⟨q1, q2⟩
      exact ⟨⟨q1, q2 i (Nat.le_refl _) (by omega)⟩, fun m h1 h2 => q2 m (by omega) (by omega)⟩
theorem flat_word {a wd : Nat → Int32} {s k : Nat} : X5_flatten_c37 a wd s k = 0 ↔ a k = 0 ∧ ∀ i, i < s → ∀ j, j < i → ∀ m, m < j → spN ((wd i).toNatClampNeg) ((wd j).toNatClampNeg) ((wd m).toNatClampNeg) ≠ k := by
  unfold X5_flatten_c37
  rw [zset (n := s) (P := fun i k => ∀ j, j < i → ∀ m, m < j → spN ((wd i).toNatClampNeg) ((wd j).toNatClampNeg) ((wd m).toNatClampNeg) ≠ k) (fun i a k _ => by
    unfold X5_flatten_L2_F
    rw [zset (n := i) (P := fun j k => ∀ m, m < j → spN ((wd i).toNatClampNeg) ((wd j).toNatClampNeg) ((wd m).toNatClampNeg) ≠ k) (fun j a k _ => by
      unfold X5_flatten_L10_F
      rw [zset (n := j) (P := fun m k => spN ((wd i).toNatClampNeg) ((wd j).toNatClampNeg) ((wd m).toNatClampNeg) ≠ k) (fun m a k _ => by
        unfold X5_flatten_L19_F upd
        by_cases c : k = spN ((wd i).toNatClampNeg) ((wd j).toNatClampNeg) ((wd m).toNatClampNeg)
        · rw [if_pos c]
          exact ⟨fun q => absurd q (by decide), fun q => absurd c.symm q.2⟩
        · rw [if_neg c]
          exact ⟨fun q => ⟨q, fun e => c e.symm⟩, fun q => q.1⟩) j 0 a k (by omega)]
      exact ⟨fun q => ⟨q.1, fun m hm => q.2 m (Nat.zero_le _) (by omega)⟩, fun q => ⟨q.1, fun m _ hm => q.2 m (by omega)⟩⟩) i 0 a k (by omega)]
    exact ⟨fun q => ⟨q.1, fun m hm => q.2 m (Nat.zero_le _) (by omega)⟩, fun q => ⟨q.1, fun m _ hm => q.2 m (by omega)⟩⟩) s 0 a k (by omega)]
  exact ⟨fun q => ⟨q.1, fun m hm => q.2 m (Nat.zero_le _) (by omega)⟩, fun q => ⟨q.1, fun m _ hm => q.2 m (by omega)⟩⟩
theorem start_at {fl ba ori : Nat → Int32} : ∀ (d i : Nat) (x : (Nat → Int32) × (Nat → Int32) × (Nat → Int32)) (j : Nat), (zfold (X5_startWith_L2_F) d i x).1 j = (if i ≤ j ∧ j < i + d then nI 0 else x.1 j) ∧ (zfold (X5_startWith_L2_F) d i x).2.1 j = (if i ≤ j ∧ j < i + d then nI 0 else x.2.1 j) ∧ (zfold (X5_startWith_L2_F) d i x).2.2 j = (if i ≤ j ∧ j < i + d then nI 0 else x.2.2 j) := by
  intro d
  induction d with
  | zero => intro i x j; rw [if_neg (by omega), if_neg (by omega), if_neg (by omega)]; exact ⟨rfl, rfl, rfl⟩
  | succ d ih =>
    intro i x j
    obtain ⟨e1, e2, e3⟩ := ih (i + 1) (X5_startWith_L2_F i x) j
    show (zfold (X5_startWith_L2_F) d (i + 1) (X5_startWith_L2_F i x)).1 j = _ ∧ (zfold (X5_startWith_L2_F) d (i + 1) (X5_startWith_L2_F i x)).2.1 j = _ ∧ (zfold (X5_startWith_L2_F) d (i + 1) (X5_startWith_L2_F i x)).2.2 j = _
    rw [e1, e2, e3]
    unfold X5_startWith_L2_F upd
    by_cases c : j = i
    · have q1 : ¬ (i + 1 ≤ j ∧ j < i + 1 + d) := by omega
      have q2 : i ≤ j ∧ j < i + (d + 1) := by omega
      refine ⟨?_, ?_, ?_⟩ <;> simp only [if_neg q1, if_pos q2, if_pos c]
    · by_cases e : i + 1 ≤ j ∧ j < i + 1 + d
      · have q2 : i ≤ j ∧ j < i + (d + 1) := by omega
        refine ⟨?_, ?_, ?_⟩ <;> simp only [if_pos e, if_pos q2]
      · have q2 : ¬ (i ≤ j ∧ j < i + (d + 1)) := by omega
        refine ⟨?_, ?_, ?_⟩ <;> simp only [if_neg e, if_neg q2, if_neg c]
set_option maxRecDepth 100000 in
theorem sp_sym0 : ∀ a, a < 10 → ∀ b, b < 10 → ∀ c, c < 10 → spN a b c = spN b a c ∧ spN a b c = spN a c b := by decide +kernel
set_option maxRecDepth 100000 in
theorem mk_nat0 : ∀ z, z < 10 → ∀ y, y < z → ∀ x, x < y → X7_maskOf_v (nI x) (nI y) (nI z) = nI (2 ^ x ||| 2 ^ y ||| 2 ^ z) := by decide +kernel
theorem flat_ref {lns : Nat} {lm : Nat → Int32} {mk : Int32} : (X7_isFlat_v lns lm mk = nI 0 ∧ ∀ l, l < lns → ¬ lm l &&& mk = mk) ∨ (X7_isFlat_v lns lm mk = nI 1 ∧ ∃ l, l < lns ∧ lm l &&& mk = mk) := by
  unfold X7_isFlat_v
  have one : ∀ d i, (zfoldX (X7_isFlat_L4_B lm mk) (X7_isFlat_L4_F lm mk) d i (nI 1)).2 = nI 1 := by
    intro d i
    cases d with
    | zero => rfl
    | succ d =>
      have eB : X7_isFlat_L4_B lm mk i (nI 1) = some (nI 1) := by unfold X7_isFlat_L4_B; rw [if_neg (by decide)]
      simp only [zfoldX, eB]
  have key : ∀ d i, i + d = lns → ((zfoldX (X7_isFlat_L4_B lm mk) (X7_isFlat_L4_F lm mk) d i (nI 0)).2 = nI 0 ∧ ∀ l, i ≤ l → l < lns → ¬ lm l &&& mk = mk) ∨ ((zfoldX (X7_isFlat_L4_B lm mk) (X7_isFlat_L4_F lm mk) d i (nI 0)).2 = nI 1 ∧ ∃ l, l < lns ∧ lm l &&& mk = mk) := by
    intro d
    induction d with
    | zero => intro i h; exact Or.inl ⟨rfl, fun l h1 h2 => by omega⟩
    | succ d ih =>
      intro i h
      have eB : X7_isFlat_L4_B lm mk i (nI 0) = none := by unfold X7_isFlat_L4_B; rw [if_pos (show nI 0 = 0 from rfl), ite_self]
      simp only [zfoldX, eB]
      by_cases c : lm i &&& mk = mk
      · have eF : X7_isFlat_L4_F lm mk i (nI 0) = nI 1 := by unfold X7_isFlat_L4_F; rw [if_pos (show nI 0 = 0 from rfl), if_pos c]
        rw [eF, one]
        exact Or.inr ⟨rfl, i, by omega, c⟩
      · have eF : X7_isFlat_L4_F lm mk i (nI 0) = nI 0 := by unfold X7_isFlat_L4_F; rw [if_pos (show nI 0 = 0 from rfl), if_neg c]
        rw [eF]
        rcases ih (i + 1) (by omega) with ⟨e, r⟩ | ⟨e, r⟩
        · refine Or.inl ⟨e, fun l h1 h2 => ?_⟩
          by_cases q : l = i
          · subst q; exact c
          · exact r l (by omega) h2
        · exact Or.inr ⟨e, r⟩
  rcases key lns 0 (by omega) with ⟨e, r⟩ | ⟨e, r⟩
  · exact Or.inl ⟨e, fun l hl => r l (Nat.zero_le _) hl⟩
  · exact Or.inr ⟨e, r⟩
/-- a line holds three points -/
theorem holds_3 {m : Int32} {s : Nat} {x : Nat → Nat} (h : MSK m s x) {a b c : Nat} (hab : a < b) (hbc : b < c) (hc : c < 10) : m &&& X7_maskOf_v (nI a) (nI b) (nI c) = X7_maskOf_v (nI a) (nI b) (nI c) ↔ (∃ j, j < s ∧ x j = a) ∧ (∃ j, j < s ∧ x j = b) ∧ ∃ j, j < s ∧ x j = c := by
  obtain ⟨Q, q1, q2, q3⟩ := h
  rw [mk_nat0 c hc b hbc a hab, q2, nI_and]
  have l1 : 2 ^ a ||| 2 ^ b ||| 2 ^ c < 1024 := or_lt (or_lt (pow_lt (by omega)) (pow_lt (by omega))) (pow_lt hc)
  rw [nI_eq (by have := and_lt (a := Q) l1; omega) (by omega), ← q3, ← q3, ← q3]
  have tb : ∀ i, (2 ^ a ||| 2 ^ b ||| 2 ^ c).testBit i = true ↔ a = i ∨ b = i ∨ c = i := fun i => by
    rw [Nat.testBit_or, Nat.testBit_or, tb_pow, tb_pow, tb_pow]
    simp only [Bool.or_eq_true, decide_eq_true_eq, or_assoc]
  constructor
  · intro e
    have k : ∀ i, (2 ^ a ||| 2 ^ b ||| 2 ^ c).testBit i = true → Q.testBit i = true := fun i hi => by
      rw [← e, Nat.testBit_and, Bool.and_eq_true] at hi
      exact hi.1
    exact ⟨k a ((tb a).mpr (Or.inl rfl)), k b ((tb b).mpr (Or.inr (Or.inl rfl))), k c ((tb c).mpr (Or.inr (Or.inr rfl)))⟩
  · rintro ⟨e1, e2, e3⟩
    apply Nat.eq_of_testBit_eq
    intro i
    rw [Nat.testBit_and]
    cases d : (2 ^ a ||| 2 ^ b ||| 2 ^ c).testBit i
    · rw [Bool.and_false]
    · rw [Bool.and_true]
      rcases (tb i).mp d with r | r | r
      · rw [← r]; exact e1
      · rw [← r]; exact e2
      · rw [← r]; exact e3
section TS
variable {n lns : Nat} {lo sz : Nat → Int32} {wd : Nat → Nat → Int32} {msk lo' ls lp lm fl ba ori bm om os : Nat → Int32}
theorem told_start (h : TXT n lns lo sz wd msk lo' ls lp lm) (ho : ∀ k, ori k = -1 ∨ ori k = 0 ∨ ori k = 1) : TOLD n lns 0 0 (X5_startWith_c37 fl ba ori lns sz wd) (X5_startWith_c38 fl ba ori) (X5_startWith_c39 fl ba ori) lm bm om os := by
  have h10 := h.1
  have h12 := h.2.1
  have st := start_at (fl := fl) (ba := ba) (ori := ori) 120 0 (fl, ba, ori)
  refine ⟨fun k => ?_, fun x y z h1 h2 h3 => ?_, fun x y z h1 h2 h3 => ⟨?_, fun _ => ?_, fun q => absurd rfl q⟩⟩
  · unfold X5_startWith_c39
    rw [(st k).2.2]
    split
    · exact Or.inr (Or.inl rfl)
    · exact ho k
  · have l := spN_lt (a := x) (b := y) (c := z) (by omega) (by omega) (by omega) (by omega) (by omega) (by omega)
    unfold X5_startWith_c38
    rw [(st _).2.1, if_pos (by omega)]
    exact ⟨fun _ => rfl, fun _ => rfl⟩
  · have l := spN_lt (a := x) (b := y) (c := z) (by omega) (by omega) (by omega) (by omega) (by omega) (by omega)
    unfold X5_startWith_c37
    rw [zset (n := lns) (P := fun l k => ∀ i, i < (sz l).toNatClampNeg → ∀ j, j < i → ∀ m, m < j → spN ((wd l i).toNatClampNeg) ((wd l j).toNatClampNeg) ((wd l m).toNatClampNeg) ≠ k) (fun l a k _ => by
      unfold X5_startWith_L47_F
      exact flat_word) lns 0 _ _ (by omega), (st _).1, if_pos (show 0 ≤ spN x y z ∧ spN x y z < 0 + 120 by omega)]
    have key : ∀ l, l < lns → ((∀ i, i < (sz l).toNatClampNeg → ∀ j, j < i → ∀ m, m < j → spN ((wd l i).toNatClampNeg) ((wd l j).toNatClampNeg) ((wd l m).toNatClampNeg) ≠ spN x y z) ↔ ¬ lm l &&& X7_maskOf_v (nI x) (nI y) (nI z) = X7_maskOf_v (nI x) (nI y) (nI z)) := by
      intro l hl
      obtain ⟨s, X, s3, s5, hs, -, h6, h7, e, hM⟩ := h.2.2.2.2 l hl
      rw [hs, nI_clamp (by omega), ← e, holds_3 hM h1 h2 (by omega)]
      have cl : ∀ i, i < s → (wd l i).toNatClampNeg = X i := fun i hi => by
        have := (h6 i hi).1
        rw [(h6 i hi).2.1, nI_clamp (by omega)]
      constructor
      · rintro q ⟨⟨ja, ha, ea⟩, ⟨jb, hb, eb⟩, jc, hc, ec⟩
        have nab : ja ≠ jb := fun u => by rw [u, eb] at ea; omega
        have nac : ja ≠ jc := fun u => by rw [u, ec] at ea; omega
        have nbc : jb ≠ jc := fun u => by rw [u, ec] at eb; omega
        have sy := fun a b c (h1 : a < n) (h2 : b < n) (h3 : c < n) => sp_sym0 a (by omega) b (by omega) c (by omega)
        have s1 := sy x y z (by omega) (by omega) (by omega)
        have s2 := sy y x z (by omega) (by omega) (by omega)
        have s3' := sy x z y (by omega) (by omega) (by omega)
        have s4 := sy z x y (by omega) (by omega) (by omega)
        have s5' := sy y z x (by omega) (by omega) (by omega)
        have go : ∀ i j m, i < s → j < i → m < j → spN (X i) (X j) (X m) = spN x y z → False := fun i j m hi hj hm u => q i hi j hj m hm (by rw [cl i hi, cl j (by omega), cl m (by omega)]; exact u)
        rcases Nat.lt_or_gt_of_ne nab with u | u <;> rcases Nat.lt_or_gt_of_ne nac with v | v <;> rcases Nat.lt_or_gt_of_ne nbc with w | w
        · exact go jc jb ja hc w u (by rw [ea, eb, ec]; try omega)
        · exact go jb jc ja hb w v (by rw [ea, eb, ec]; try omega)
        · omega
        · exact go jb ja jc hb u v (by rw [ea, eb, ec]; try omega)
        · exact go jc ja jb hc v u (by rw [ea, eb, ec]; try omega)
        · omega
        · exact go ja jc jb ha v w (by rw [ea, eb, ec]; try omega)
        · exact go ja jb jc ha u w (by rw [ea, eb, ec]; try omega)
      · intro q i hi j hj m hm u
        rw [cl i hi, cl j (by omega), cl m (by omega)] at u
        have bi := (h6 i hi).1
        have bj := (h6 j (by omega)).1
        have bm' := (h6 m (by omega)).1
        have nij : X i ≠ X j := fun e => by have := h7 i j hi (by omega) e; omega
        have nim : X i ≠ X m := fun e => by have := h7 i m hi (by omega) e; omega
        have njm : X j ≠ X m := fun e => by have := h7 j m (by omega) (by omega) e; omega
        obtain ⟨⟨k1, k2, k3⟩, k4, -⟩ := srt h10 bi bj bm' nij nim njm
        rw [k4] at u
        obtain ⟨u1, u2, u3⟩ := sp_inj k1 k2 (by omega) h1 h2 (by omega) u
        have each : ∀ v, (v = s0 (X i) (X j) (X m) ∨ v = s1 (X i) (X j) (X m) ∨ v = s2 (X i) (X j) (X m)) → ∃ k, k < s ∧ X k = v := fun v hv => by
          have : v = X i ∨ v = X j ∨ v = X m := by
            unfold s0 s1 s2 at hv
            omega
          rcases this with r | r | r
          · exact ⟨i, hi, r.symm⟩
          · exact ⟨j, by omega, r.symm⟩
          · exact ⟨m, by omega, r.symm⟩
        exact q ⟨each x (Or.inl u1.symm), each y (Or.inr (Or.inl u2.symm)), each z (Or.inr (Or.inr u3.symm))⟩
    rcases flat_ref (lns := lns) (lm := lm) (mk := X7_maskOf_v (nI x) (nI y) (nI z)) with ⟨e, r⟩ | ⟨e, l', hl', r⟩
    · rw [e]
      exact ⟨fun _ => rfl, fun _ => ⟨rfl, fun l _ hl => (key l (by omega)).mpr (r l (by omega))⟩⟩
    · rw [e]
      exact ⟨fun q => absurd r ((key l' hl').mp (q.2 l' (Nat.zero_le _) (by omega))), fun q => absurd q (by decide)⟩
  · have l := spN_lt (a := x) (b := y) (c := z) (by omega) (by omega) (by omega) (by omega) (by omega) (by omega)
    unfold X5_startWith_c39
    rw [(st _).2.2, if_pos (by omega)]
    rfl
end TS
