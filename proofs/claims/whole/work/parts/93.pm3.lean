/-! ===== may a point go there: alike in both ===== -/
def WC (f : Nat) (fl ba ori : Nat → Int32) (sp : Nat) : Nat := if fl sp = 0 then (if ori sp = 0 then (if ba sp = 0 then 0 else 2) else if f = 0 then (if ori sp = 1 then 3 else 4) else 2) else 1
def RGT (w : Nat) (x : Int) : Prop := if w = 0 then True else if w = 1 then x = 0 else if w = 2 then x ≠ 0 else if w = 3 then 0 < x else x < 0
theorem iI_0 {x : Int} (h1 : -10000 ≤ x) (h2 : x ≤ 10000) : Int32.ofInt x = 0 ↔ x = 0 := by
  rw [← Int32.toInt_inj, Int32.toInt_ofInt_of_le (by omega) (by omega)]
  exact Iff.rfl
theorem iI_ge {x : Int} (h1 : -10000 ≤ x) (h2 : x ≤ 10000) : 0 ≤ Int32.ofInt x ↔ 0 ≤ x := by
  rw [Jvm.Kit.i32_nonneg, Int32.toInt_ofInt_of_le (by omega) (by omega)]
theorem iI_le {x : Int} (h1 : -10000 ≤ x) (h2 : x ≤ 10000) : Int32.ofInt x ≤ 0 ↔ x ≤ 0 := by
  rw [Int32.le_iff_toInt_le, Int32.toInt_ofInt_of_le (by omega) (by omega)]
  exact Iff.rfl
theorem icmp_0 {x : Int} (h1 : -10000 ≤ x) (h2 : x ≤ 10000) : icmp (Int32.ofInt x) (nI 0) = if x = 0 then 0 else if 0 < x then 1 else -1 := by
  unfold icmp
  show (if 0 ≤ Int32.ofInt x then (if Int32.ofInt x = 0 then (0 : Int32) else 1) else -1) = _
  by_cases c : 0 ≤ x
  · rw [if_pos ((iI_ge h1 h2).mpr c)]
    by_cases d : x = 0
    · rw [if_pos ((iI_0 h1 h2).mpr d), if_pos d]
    · rw [if_neg (fun q => d ((iI_0 h1 h2).mp q)), if_neg d, if_pos (by omega)]
  · rw [if_neg (fun q => c ((iI_ge h1 h2).mp q)), if_neg (by omega), if_neg (by omega)]
section GO
variable {f : Nat} {fl ba ori : Nat → Int32}
theorem WC_0 {sp : Nat} (h : X3_isWanted_v fl ba ori sp = 0) : WC f fl ba ori sp = 0 := by
  unfold X3_isWanted_v at h
  unfold WC
  by_cases c1 : fl sp = 0
  · rw [if_pos c1] at h ⊢
    by_cases c2 : ba sp = 0
    · rw [if_pos c2] at h ⊢
      by_cases c3 : ori sp = 0
      · rw [if_pos c3]
      · rw [if_neg c3] at h
        exact absurd h (by decide)
    · rw [if_neg c2] at h
      exact absurd h (by decide)
  · rw [if_neg c1] at h
    exact absurd h (by decide)
theorem fits_is (hf : f < 1000) {sp : Nat} (ho : ori sp = -1 ∨ ori sp = 0 ∨ ori sp = 1) (hw : ¬ X3_isWanted_v fl ba ori sp = 0) {x : Int} (h1 : -10000 ≤ x) (h2 : x ≤ 10000) :
    (X3_fits_v (Int32.ofInt x) (X3_wantOf_v (nI f) fl ori sp) = nI 1 ∧ RGT (WC f fl ba ori sp) x) ∨ (X3_fits_v (Int32.ofInt x) (X3_wantOf_v (nI f) fl ori sp) = nI 0 ∧ ¬ RGT (WC f fl ba ori sp) x) := by
  unfold X3_fits_v X3_wantOf_v
  rw [icmp_0 h1 h2]
  have zf : nI f = 0 ↔ f = 0 := nI_eq (b := 0) (by omega) (by omega)
  have n2 : (if nI 2 = nI 2 then (if Int32.ofInt x = 0 then nI 0 else nI 1) else (if (if x = 0 then (0 : Int32) else if 0 < x then 1 else -1) = nI 2 then nI 1 else nI 0)) = if x = 0 then nI 0 else nI 1 := by
    rw [if_pos rfl]
    by_cases d : x = 0
    · rw [if_pos ((iI_0 h1 h2).mpr d), if_pos d]
    · rw [if_neg (fun q => d ((iI_0 h1 h2).mp q)), if_neg d]
  have k2 : ((if x = 0 then nI 0 else nI 1) = nI 1 ∧ RGT 2 x) ∨ ((if x = 0 then nI 0 else nI 1) = nI 0 ∧ ¬ RGT 2 x) := by
    by_cases d : x = 0
    · rw [if_pos d]
      exact Or.inr ⟨rfl, fun q => q d⟩
    · rw [if_neg d]
      exact Or.inl ⟨rfl, d⟩
  unfold X3_isWanted_v at hw
  unfold WC
  by_cases c1 : fl sp = 0
  · rw [if_pos c1] at hw
    rw [if_pos c1, if_pos c1]
    by_cases c2 : ori sp = 0
    · rw [if_pos c2, if_pos c2, show (if nI f = 0 then nI 2 else nI 2) = nI 2 from ite_self _, n2]
      have c3 : ¬ ba sp = 0 := fun q => hw (by rw [if_pos q, if_pos c2]; rfl)
      rw [if_neg c3]
      exact k2
    · rw [if_neg c2, if_neg c2]
      by_cases c4 : f = 0
      · rw [if_pos (zf.mpr c4), if_pos c4]
        rcases ho with ho | ho | ho
        · rw [ho, if_neg (show ¬ (-1 : Int32) = nI 2 by decide), if_neg (show ¬ (-1 : Int32) = 1 by decide)]
          by_cases d : x < 0
          · rw [if_neg (show ¬ x = 0 by omega), if_neg (show ¬ 0 < x by omega), if_pos rfl]
            exact Or.inl ⟨rfl, d⟩
          · refine Or.inr ⟨?_, fun q => d q⟩
            by_cases e : x = 0
            · rw [if_pos e]; rfl
            · rw [if_neg e, if_pos (show 0 < x by omega)]; rfl
        · exact absurd ho c2
        · rw [ho, if_neg (show ¬ (1 : Int32) = nI 2 by decide), if_pos rfl]
          by_cases d : 0 < x
          · rw [if_neg (show ¬ x = 0 by omega), if_pos d, if_pos rfl]
            exact Or.inl ⟨rfl, d⟩
          · refine Or.inr ⟨?_, fun q => d q⟩
            by_cases e : x = 0
            · rw [if_pos e]; rfl
            · rw [if_neg e, if_neg d]; rfl
      · rw [if_neg (fun q => c4 (zf.mp q)), if_neg c4, n2]
        exact k2
  · rw [if_neg c1, if_neg c1, if_neg (show ¬ nI 0 = nI 2 by decide)]
    by_cases d : x = 0
    · rw [if_pos d, if_pos (show (0 : Int32) = nI 0 from rfl)]
      exact Or.inl ⟨rfl, d⟩
    · refine Or.inr ⟨?_, fun q => d q⟩
      rw [if_neg d]
      split <;> rfl
/-- the reference's wants -/
def wvE (lns brs ors : Nat) (lm bm om os : Nat → Int32) (fd a b c : Nat) : Int32 := if (X7_orientAt_v ors om (X7_maskOf_v (nI a) (nI b) (nI c))) = (-4) then (if (X7_barAt_v brs bm (X7_maskOf_v (nI a) (nI b) (nI c))) = (-4) then (if (X7_isFlat_v lns lm (X7_maskOf_v (nI a) (nI b) (nI c))) = 0 then nI 0 else nI 1) else (if (X7_isFlat_v lns lm (X7_maskOf_v (nI a) (nI b) (nI c))) = 0 then nI 2 else nI 1)) else (if (nI fd) ≤ 0 then (if (os (X7_orientAt_v ors om (X7_maskOf_v (nI a) (nI b) (nI c))).toNatClampNeg) ≤ 0 then (if (X7_isFlat_v lns lm (X7_maskOf_v (nI a) (nI b) (nI c))) = 0 then nI 4 else nI 1) else (if (X7_isFlat_v lns lm (X7_maskOf_v (nI a) (nI b) (nI c))) = 0 then nI 3 else nI 1)) else (if (X7_isFlat_v lns lm (X7_maskOf_v (nI a) (nI b) (nI c))) = 0 then nI 2 else nI 1))
variable {n lns brs ors : Nat} {lm bm om os : Nat → Int32}
theorem lay32 {a b c : Nat} {g : Nat → Int32} : X7_layWants_L32_F lns brs ors lm bm om os f a b c g = upd g (((100 * a) + (10 * b)) + c) (wvE lns brs ors lm bm om os f a b c) := by
  unfold X7_layWants_L32_F wvE
  repeat' split
  all_goals rfl
theorem layWants0 {wn : Nat → Int32} (hp : n ≤ 10) : ∀ x y z, x < y → y < z → z < n → X7_layWants_c95 n lns brs ors lm bm om os wn f (((100 * x) + (10 * y)) + z) = wvE lns brs ors lm bm om os f x y z := by
  unfold X7_layWants_c95
  have key := zfold_I (n := n) (fun a (g : Nat → Int32) => ∀ x y z, x < y → y < z → z < n → x < a → g (((100 * x) + (10 * y)) + z) = wvE lns brs ors lm bm om os f x y z) (F := X7_layWants_L7_F n lns brs ors lm bm om os f) (fun a g ha hI => ?_) n 0 wn (by omega) (fun x y z _ _ _ h => absurd h (Nat.not_lt_zero x))
  · exact fun x y z h1 h2 h3 => key x y z h1 h2 h3 (by omega)
  · unfold X7_layWants_L7_F
    have k2 := zfold_I (n := n) (fun b (g : Nat → Int32) => a + 1 ≤ b ∧ ∀ x y z, x < y → y < z → z < n → (x < a ∨ (x = a ∧ y < b)) → g (((100 * x) + (10 * y)) + z) = wvE lns brs ors lm bm om os f x y z) (F := X7_layWants_L19_F n lns brs ors lm bm om os f a) (fun b g hb hI2 => ?_) (n - (a + 1)) (a + 1) g (by omega) ⟨Nat.le_refl _, fun x y z h1 h2 h3 h4 => hI x y z h1 h2 h3 (by omega)⟩
    · exact fun x y z h1 h2 h3 h4 => k2.2 x y z h1 h2 h3 (by omega)
    · refine ⟨by omega, ?_⟩
      unfold X7_layWants_L19_F
      have k3 := zfold_I (n := n) (fun c (g : Nat → Int32) => b + 1 ≤ c ∧ ∀ x y z, x < y → y < z → z < n → (x < a ∨ (x = a ∧ (y < b ∨ (y = b ∧ z < c)))) → g (((100 * x) + (10 * y)) + z) = wvE lns brs ors lm bm om os f x y z) (F := X7_layWants_L32_F lns brs ors lm bm om os f a b) (fun c g hc hI3 => ?_) (n - (b + 1)) (b + 1) g (by omega) ⟨Nat.le_refl _, fun x y z h1 h2 h3 h4 => hI2.2 x y z h1 h2 h3 (by omega)⟩
      · exact fun x y z h1 h2 h3 h4 => k3.2 x y z h1 h2 h3 (by omega)
      · refine ⟨by omega, fun x y z h1 h2 h3 h4 => ?_⟩
        rw [lay32]
        simp only [upd]
        by_cases q : x = a ∧ y = b ∧ z = c
        · obtain ⟨rfl, rfl, rfl⟩ := q
          rw [if_pos rfl]
        · rw [if_neg (by omega)]
          exact hI3.2 x y z h1 h2 h3 (by omega)
theorem wants_is (hf : f < 1000) (hp : n ≤ 10) (h : TOLD n lns brs ors fl ba ori lm bm om os) {wn : Nat → Int32} {x y z : Nat} (h1 : x < y) (h2 : y < z) (h3 : z < n) : X7_layWants_c95 n lns brs ors lm bm om os wn f (((100 * x) + (10 * y)) + z) = nI (WC f fl ba ori (spN x y z)) := by
  rw [layWants0 hp x y z h1 h2 h3]
  obtain ⟨q1, q2, q3⟩ := h.2.2 x y z h1 h2 h3
  have q4 := h.2.1 x y z h1 h2 h3
  have zf : nI f ≤ 0 ↔ f = 0 := by
    constructor
    · intro q
      rcases Nat.eq_zero_or_pos f with z | z
      · exact z
      · exact absurd q (nI_nle z (by omega))
    · intro q
      subst q
      decide
  unfold wvE WC
  by_cases c : X7_orientAt_v ors om (X7_maskOf_v (nI x) (nI y) (nI z)) = -4
  · rw [if_pos c, if_pos (q2 c)]
    by_cases d : X7_barAt_v brs bm (X7_maskOf_v (nI x) (nI y) (nI z)) = -4
    · rw [if_pos d, if_pos (q4.mpr d)]
      by_cases e : X7_isFlat_v lns lm (X7_maskOf_v (nI x) (nI y) (nI z)) = 0
      · rw [if_pos e, if_pos (q1.mpr e)]
      · rw [if_neg e, if_neg (fun u => e (q1.mp u))]
    · rw [if_neg d, if_neg (fun u => d (q4.mp u))]
      by_cases e : X7_isFlat_v lns lm (X7_maskOf_v (nI x) (nI y) (nI z)) = 0
      · rw [if_pos e, if_pos (q1.mpr e)]
      · rw [if_neg e, if_neg (fun u => e (q1.mp u))]
  · obtain ⟨p1, p2, p3⟩ := q3 c
    rw [if_neg c, if_neg p3, if_pos (q1.mpr p1), if_pos p1, if_pos p1, if_pos p1, ← p2]
    by_cases d : f = 0
    · rw [if_pos d, if_pos (zf.mpr d)]
      rcases h.1 (spN x y z) with e | e | e
      · rw [e, if_pos (by decide), if_neg (by decide)]
      · exact absurd e p3
      · rw [e, if_neg (by decide), if_pos rfl]
    · rw [if_neg d, if_neg (fun u => d (zf.mp u))]
end GO
theorem right_is {W : Nat} (hW : W ≤ 4) {fs sc th wn : Nat → Int32} {F : Int32} {a b c u v w : Nat} {x : Int} (h1 : -10000 ≤ x) (h2 : x ≤ 10000) (hw : wn (((100 * a) + (10 * b)) + c) = nI W) (hv : X7_valueOf_v fs sc th F u v w = Int32.ofInt x) :
    (X7_isRight_v fs sc th wn F a b c u v w = nI 1 ∧ RGT W x) ∨ (X7_isRight_v fs sc th wn F a b c u v w = nI 0 ∧ ¬ RGT W x) := by
  unfold X7_isRight_v
  rw [hw, hv]
  have z := iI_0 h1 h2
  have g := iI_ge h1 h2
  have l := iI_le h1 h2
  rcases (show W = 0 ∨ W = 1 ∨ W = 2 ∨ W = 3 ∨ W = 4 by omega) with e | e | e | e | e <;> subst e
  · exact Or.inl ⟨if_pos rfl, trivial⟩
  · rw [if_neg (by decide), if_pos rfl]
    by_cases d : x = 0
    · exact Or.inl ⟨if_pos (z.mpr d), d⟩
    · exact Or.inr ⟨if_neg (fun q => d (z.mp q)), d⟩
  · rw [if_neg (by decide), if_neg (by decide), if_pos rfl]
    by_cases d : x = 0
    · exact Or.inr ⟨if_pos (z.mpr d), fun q => q d⟩
    · exact Or.inl ⟨if_neg (fun q => d (z.mp q)), d⟩
  · rw [if_neg (by decide), if_neg (by decide), if_neg (by decide), if_pos rfl]
    by_cases d : x ≤ 0
    · exact Or.inr ⟨if_pos (l.mpr d), fun q => by have : 0 < x := q; omega⟩
    · exact Or.inl ⟨if_neg (fun q => d (l.mp q)), show 0 < x by omega⟩
  · rw [if_neg (by decide), if_neg (by decide), if_neg (by decide), if_neg (by decide)]
    by_cases d : 0 ≤ x
    · exact Or.inr ⟨if_pos (g.mpr d), fun q => by have : x < 0 := q; omega⟩
    · exact Or.inl ⟨if_neg (fun q => d (g.mp q)), show x < 0 by omega⟩
/-- loops that go on while all is well -/
theorem andX0 {B : Nat → Int32 → Option Int32} {F : Nat → Int32 → Int32} (hB : ∀ i, B i (nI 0) = some (nI 0)) : ∀ d i, (zfoldX B F d i (nI 0)).2 = nI 0 := by
  intro d i
  cases d with
  | zero => rfl
  | succ d => simp only [zfoldX, hB]
theorem andX {R : Nat → Prop} {B : Nat → Int32 → Option Int32} {F : Nat → Int32 → Int32} {n : Nat} (hB : ∀ i, B i (nI 0) = some (nI 0)) (hB1 : ∀ i, B i (nI 1) = none) (m : Nat) (hF : ∀ i, m ≤ i → i < n → (F i (nI 1) = nI 1 ∧ R i) ∨ (F i (nI 1) = nI 0 ∧ ¬ R i)) : ∀ d i, m ≤ i → i + d = n →
    ((zfoldX B F d i (nI 1)).2 = nI 1 ∧ ∀ j, i ≤ j → j < n → R j) ∨ ((zfoldX B F d i (nI 1)).2 = nI 0 ∧ ¬ ∀ j, i ≤ j → j < n → R j) := by
  intro d
  induction d with
  | zero => intro i _ h; exact Or.inl ⟨rfl, fun j h1 h2 => by omega⟩
  | succ d ih =>
    intro i hm h
    simp only [zfoldX, hB1]
    rcases hF i hm (by omega) with ⟨e, r⟩ | ⟨e, r⟩
    · rw [e]
      rcases ih (i + 1) (by omega) (by omega) with ⟨e2, r2⟩ | ⟨e2, r2⟩
      · refine Or.inl ⟨e2, fun j h1 h2 => ?_⟩
        by_cases c : j = i
        · subst c; exact r
        · exact r2 j (by omega) h2
      · exact Or.inr ⟨e2, fun q => r2 (fun j h1 h2 => q j (by omega) h2)⟩
    · rw [e, andX0 hB]
      exact Or.inr ⟨rfl, fun q => r (q i (Nat.le_refl _) (by omega))⟩
theorem andB {R : Nat → Prop} {B : Nat → Unit → Option Int32} {F : Nat → Unit → Unit} {n : Nat} (m : Nat) (hB : ∀ i, m ≤ i → i < n → (B i () = none ∧ R i) ∨ (B i () = some (nI 0) ∧ ¬ R i)) : ∀ d i, m ≤ i → i + d = n →
    ((∃ a, zfoldB B F d i () = (none, a)) ∧ ∀ j, i ≤ j → j < n → R j) ∨ ((∃ a, zfoldB B F d i () = (some (nI 0), a)) ∧ ¬ ∀ j, i ≤ j → j < n → R j) := by
  intro d
  induction d with
  | zero => intro i _ h; exact Or.inl ⟨⟨_, rfl⟩, fun j h1 h2 => by omega⟩
  | succ d ih =>
    intro i hm h
    rcases hB i hm (by omega) with ⟨e, r⟩ | ⟨e, r⟩
    · simp only [zfoldB, e]
      rcases ih (i + 1) (by omega) (by omega) with ⟨e2, r2⟩ | ⟨e2, r2⟩
      · refine Or.inl ⟨e2, fun j h1 h2 => ?_⟩
        by_cases c : j = i
        · subst c; exact r
        · exact r2 j (by omega) h2
      · exact Or.inr ⟨e2, fun q => r2 (fun j h1 h2 => q j (by omega) h2)⟩
    · have e3 : zfoldB B F (d + 1) i () = (some (nI 0), ()) := by simp only [zfoldB, e]
      rw [e3]
      exact Or.inr ⟨⟨_, rfl⟩, fun q => r (q i (Nat.le_refl _) (by omega))⟩
/-- a point may go to a place -/
def GO (f : Nat) (W : Nat → Nat → Nat → Nat) (sp : Nat → Nat) (pt pl : Nat) : Prop := ∀ a, a < pt → sp a ≠ pl ∧ ∀ b, a < b → b < pt → RGT (W a b pt) (val f (sp a) (sp b) pl)
theorem WC_le {f : Nat} {fl ba ori : Nat → Int32} {sp : Nat} : WC f fl ba ori sp ≤ 4 := by
  unfold WC
  repeat' split
  all_goals omega
theorem ref_goes {f : Nat} (hf : FLD f) {W : Nat → Nat → Nat → Nat} (hW : ∀ a b c, W a b c ≤ 4) {fs sc th wn spo : Nat → Int32} {sp : Nat → Nat} {pt pl : Nat} (hN : NUM f fs sc th (nPl f)) (hpl : pl < nPl f) (hs : ∀ a, a < pt → spo a = nI (sp a) ∧ sp a < nPl f) (hw : ∀ a b, a < b → b < pt → wn (((100 * a) + (10 * b)) + pt) = nI (W a b pt)) :
    (X7_goes_v fs sc th wn spo (nI f) pt pl = nI 1 ∧ GO f W sp pt pl) ∨ (X7_goes_v fs sc th wn spo (nI f) pt pl = nI 0 ∧ ¬ GO f W sp pt pl) := by
  have h183 := nPl_le hf
  unfold X7_goes_v
  have key := andX (R := fun a => sp a ≠ pl ∧ ∀ b, a < b → b < pt → RGT (W a b pt) (val f (sp a) (sp b) pl)) (B := X7_goes_L6_B spo pl) (F := X7_goes_L6_F fs sc th wn spo (nI f) pt pl) (n := pt) (fun i => by
    unfold X7_goes_L6_B
    rw [if_pos (show nI 0 = 0 from rfl)]) (fun i => by
    unfold X7_goes_L6_B
    rw [if_neg (show ¬ nI 1 = 0 by decide), ite_self]) 0 (fun a _ ha => by
    obtain ⟨s1, s2⟩ := hs a ha
    unfold X7_goes_L6_F
    rw [if_neg (show ¬ nI 1 = 0 by decide), s1]
    by_cases c : sp a = pl
    · rw [if_pos (by rw [c]), andX0 (fun i => by unfold X7_goes_L41_B; rw [if_pos (show nI 0 = 0 from rfl)])]
      exact Or.inr ⟨rfl, fun q => q.1 c⟩
    · rw [if_neg (fun q => c ((nI_eq (by omega) (by omega)).mp q))]
      rcases andX (R := fun b => RGT (W a b pt) (val f (sp a) (sp b) pl)) (B := X7_goes_L41v2_B) (F := X7_goes_L41v2_F fs sc th wn spo (nI f) pt pl a) (n := pt) (fun i => by unfold X7_goes_L41v2_B; rw [if_pos (show nI 0 = 0 from rfl)]) (fun i => by unfold X7_goes_L41v2_B; rw [if_neg (show ¬ nI 1 = 0 by decide)]) (a + 1) (fun b hb1 hb2 => by
        obtain ⟨t1, t2⟩ := hs b hb2
        unfold X7_goes_L41v2_F
        rw [if_neg (show ¬ nI 1 = 0 by decide), s1, t1, nI_clamp (by omega), nI_clamp (by omega)]
        have vb := val_b hf s2 t2 hpl
        exact right_is (hW a b pt) vb.1 vb.2 (hw a b (by omega) hb2) (ref_val hf s2 t2 hpl hN)) (pt - (a + 1)) (a + 1) (Nat.le_refl _) (by omega) with ⟨e, r⟩ | ⟨e, r⟩
      · exact Or.inl ⟨e, c, fun b h1 h2 => r b (by omega) h2⟩
      · exact Or.inr ⟨e, fun q => r (fun b h1 h2 => q.2 b (by omega) h2)⟩) pt 0 (Nat.le_refl _) (by omega)
  rcases key with ⟨e, r⟩ | ⟨e, r⟩
  · exact Or.inl ⟨e, fun a ha => r a (Nat.zero_le _) ha⟩
  · exact Or.inr ⟨e, fun q => r (fun a _ ha => q a ha)⟩
section CG
variable {f : Nat} {fl ba ori : Nat → Int32}
theorem gL2_in {h k a b : Nat} (h1 : a < b) (h2 : b < k) (hw : ¬ X3_isWanted_v fl ba ori (spN a b h) = 0) : (a, b, h) ∈ gL2 fl ba ori h k := by
  unfold gL2 gL3
  simp only [List.mem_flatMap, List.mem_map, List.mem_filter, List.mem_range]
  exact ⟨b, h2, a, ⟨h1, by simpa using hw⟩, rfl⟩
/-- the factors of a point's wants -/
def FAC (f : Nat) (fl ba ori : Nat → Int32) (sp : Nat → Nat) (f0 f1 f2 : Nat → Int32) (j : Nat) : Prop := ∀ w q, gwB fl ba ori j ≤ w → w < gwB fl ba ori (j + 1) → (gL2 fl ba ori j j)[w - gwB fl ba ori j]? = some q → f0 w = Int32.ofInt (rst f (crs f (sp q.1) (sp q.2.1) 0)) ∧ f1 w = Int32.ofInt (rst f (crs f (sp q.1) (sp q.2.1) 1)) ∧ f2 w = Int32.ofInt (rst f (crs f (sp q.1) (sp q.2.1) 2))
theorem FAC_ext {sp sp' : Nat → Nat} {f0 f1 f2 g0 g1 g2 : Nat → Int32} {j : Nat} (h : FAC f fl ba ori sp f0 f1 f2 j) (hs : ∀ k, k < j → sp k = sp' k) (h0 : ∀ w, w < gwB fl ba ori (j + 1) → g0 w = f0 w ∧ g1 w = f1 w ∧ g2 w = f2 w) : FAC f fl ba ori sp' g0 g1 g2 j := by
  intro w q h1 h2 h3
  obtain ⟨-, m2, m3, -⟩ := gL2_mem fl ba ori (List.mem_of_getElem? h3)
  obtain ⟨e0, e1, e2⟩ := h0 w h2
  rw [e0, e1, e2, ← hs q.1 (by omega), ← hs q.2.1 m2]
  exact h w q h1 h2 h3
theorem cls_goes (hf : FLD f) {n : Nat} (ho : ∀ k, ori k = -1 ∨ ori k = 0 ∨ ori k = 1) {n0 n1 n2 f0 f1 f2 plc wt : Nat → Int32} {sp : Nat → Nat} {pt pl : Nat} (hp : pt < n) (hN : NUM f n0 n1 n2 (nPl f)) (hpl : pl < nPl f) (hs : ∀ a, a < pt → plc a = nI (sp a) ∧ sp a < nPl f) (hpp : plc pt = nI pl) (hF : FAC f fl ba ori sp f0 f1 f2 pt)
    (hwt : ∀ w q, (gL1 fl ba ori n)[w]? = some q → wt w = X3_wantOf_v (nI f) fl ori (spN q.1 q.2.1 q.2.2)) :
    (X3_goes_v (nI f) n0 n1 n2 f0 f1 f2 plc wt pt (gwB fl ba ori) = nI 1 ∧ GO f (fun a b c => WC f fl ba ori (spN a b c)) sp pt pl) ∨ (X3_goes_v (nI f) n0 n1 n2 f0 f1 f2 plc wt pt (gwB fl ba ori) = nI 0 ∧ ¬ GO f (fun a b c => WC f fl ba ori (spN a b c)) sp pt pl) := by
  have h183 := nPl_le hf
  have hb := FLD_b hf
  unfold X3_goes_v
  rcases andB (R := fun a => sp a ≠ pl) (B := X3_goes_L9_B plc pt) (F := X3_goes_L9_F plc pt) (n := pt) 0 (fun a _ ha => by
    obtain ⟨s1, s2⟩ := hs a ha
    unfold X3_goes_L9_B
    rw [s1, hpp]
    by_cases c : sp a = pl
    · rw [if_pos (by rw [c])]
      exact Or.inr ⟨rfl, fun q => q c⟩
    · rw [if_neg (fun q => c ((nI_eq (by omega) (by omega)).mp q))]
      exact Or.inl ⟨rfl, c⟩) pt 0 (Nat.le_refl _) (by omega) with ⟨⟨z, e⟩, r⟩ | ⟨⟨z, e⟩, r⟩
  · rw [e]
    simp only [zpick]
    have mono := gwB_s fl ba ori pt
    rcases andB (R := fun w => ∀ q, (gL2 fl ba ori pt pt)[w - gwB fl ba ori pt]? = some q → RGT (WC f fl ba ori (spN q.1 q.2.1 q.2.2)) (val f (sp q.1) (sp q.2.1) pl)) (B := X3_goes_L78_B (nI f) n0 n1 n2 f0 f1 f2 plc wt pt) (F := X3_goes_L78_F (nI f) n0 n1 n2 f0 f1 f2 plc wt pt) (n := gwB fl ba ori (pt + 1)) (gwB fl ba ori pt) (fun w h1 h2 => by
      obtain ⟨q, q1, q2⟩ := gL1_at fl ba ori (p := n) hp h1 h2
      obtain ⟨m1, m2, m3, m4⟩ := gL2_mem fl ba ori (List.mem_of_getElem? q2)
      obtain ⟨g0, g1, g2⟩ := hF w q h1 h2 q2
      obtain ⟨a1, a2⟩ := hs q.1 (by omega)
      obtain ⟨b1, b2⟩ := hs q.2.1 m2
      obtain ⟨c0, c1, c2⟩ := hN pl hpl
      unfold X3_goes_L78_B
      rw [hpp, nI_clamp (by omega), c0, c1, c2, g0, g1, g2, hwt w q q1, cls_val hf a2 b2 hpl]
      have vb := val_b hf a2 b2 hpl
      rcases fits_is (f := f) (by omega) (ho (spN q.1 q.2.1 q.2.2)) m4 vb.1 vb.2 with ⟨u1, u2⟩ | ⟨u1, u2⟩
      · rw [u1, if_neg (show ¬ nI 1 = 0 by decide)]
        refine Or.inl ⟨rfl, fun q' hq' => ?_⟩
        rw [q2] at hq'
        cases hq'
        exact u2
      · rw [u1, if_pos (show nI 0 = 0 from rfl)]
        exact Or.inr ⟨rfl, fun k => u2 (k q q2)⟩) (gwB fl ba ori (pt + 1) - gwB fl ba ori pt) (gwB fl ba ori pt) (Nat.le_refl _) (by omega) with ⟨⟨z2, e2⟩, r2⟩ | ⟨⟨z2, e2⟩, r2⟩
    · rw [e2]
      refine Or.inl ⟨rfl, fun a ha => ⟨r a (Nat.zero_le _) ha, fun b h1 h2 => ?_⟩⟩
      by_cases c : X3_isWanted_v fl ba ori (spN a b pt) = 0
      · show RGT (WC f fl ba ori (spN a b pt)) _
        rw [WC_0 c]
        exact trivial
      · obtain ⟨i, hi⟩ := List.getElem?_of_mem (gL2_in h1 h2 c)
        have hl : i < (gL2 fl ba ori pt pt).length := by
          rcases Nat.lt_or_ge i (gL2 fl ba ori pt pt).length with q | q
          · exact q
          · rw [List.getElem?_eq_none q] at hi
            cases hi
        exact r2 (gwB fl ba ori pt + i) (by omega) (by omega) (a, b, pt) (by rw [Nat.add_sub_cancel_left]; exact hi)
    · rw [e2]
      refine Or.inr ⟨rfl, fun k => r2 (fun w h1 h2 q hq => ?_)⟩
      obtain ⟨m1, m2, m3, m4⟩ := gL2_mem fl ba ori (List.mem_of_getElem? hq)
      have := (k q.1 (by omega)).2 q.2.1 m3 m2
      rw [m1]
      exact this
  · rw [e]
    exact Or.inr ⟨rfl, fun q => r (fun a _ ha => (q a ha).1)⟩
/-- what prepare lays down -/
theorem prep_is (hf : FLD f) {n : Nat} {n0 n1 n2 f0 f1 f2 plc lw md p1 p2 l1 : Nat → Int32} {sp : Nat → Nat} {pt : Nat} (hp : pt < n) (hN : NUM f n0 n1 n2 (nPl f)) (hs : ∀ a, a < pt → plc a = nI (sp a) ∧ sp a < nPl f)
    (hlw : ∀ w q, (gL1 fl ba ori n)[w]? = some q → lw w = nI q.1 ∧ md w = nI q.2.1) (hn : n ≤ 10) :
    FAC f fl ba ori sp (X3_prepare_c52 (nI f) n0 n1 n2 f0 f1 f2 plc lw md p1 p2 l1 pt (gwB fl ba ori)) (X3_prepare_c53 (nI f) n0 n1 n2 f0 f1 f2 plc lw md p1 p2 l1 pt (gwB fl ba ori)) (X3_prepare_c54 (nI f) n0 n1 n2 f0 f1 f2 plc lw md p1 p2 l1 pt (gwB fl ba ori)) pt ∧
    ∀ w, w < gwB fl ba ori pt → X3_prepare_c52 (nI f) n0 n1 n2 f0 f1 f2 plc lw md p1 p2 l1 pt (gwB fl ba ori) w = f0 w ∧ X3_prepare_c53 (nI f) n0 n1 n2 f0 f1 f2 plc lw md p1 p2 l1 pt (gwB fl ba ori) w = f1 w ∧ X3_prepare_c54 (nI f) n0 n1 n2 f0 f1 f2 plc lw md p1 p2 l1 pt (gwB fl ba ori) w = f2 w := by
  have h183 := nPl_le hf
  have mono := gwB_s fl ba ori pt
  unfold X3_prepare_c52 X3_prepare_c53 X3_prepare_c54
  have key := zfold_I (n := gwB fl ba ori (pt + 1)) (fun k (a : (Nat → Int32) × (Nat → Int32) × (Nat → Int32) × (Nat → Int32) × (Nat → Int32) × (Nat → Int32)) => gwB fl ba ori pt ≤ k ∧ (∀ w q, gwB fl ba ori pt ≤ w → w < k → (gL2 fl ba ori pt pt)[w - gwB fl ba ori pt]? = some q → a.1 w = Int32.ofInt (rst f (crs f (sp q.1) (sp q.2.1) 0)) ∧ a.2.1 w = Int32.ofInt (rst f (crs f (sp q.1) (sp q.2.1) 1)) ∧ a.2.2.1 w = Int32.ofInt (rst f (crs f (sp q.1) (sp q.2.1) 2))) ∧ ∀ w, w < gwB fl ba ori pt → a.1 w = f0 w ∧ a.2.1 w = f1 w ∧ a.2.2.1 w = f2 w) (F := X3_prepare_L7_F (nI f) n0 n1 n2 plc lw md) (fun k a hk ha => by
    obtain ⟨i1, i2, i3⟩ := ha
    obtain ⟨q0, q1, q2⟩ := gL1_at fl ba ori (p := n) hp i1 hk
    obtain ⟨m1, m2, m3, m4⟩ := gL2_mem fl ba ori (List.mem_of_getElem? q2)
    obtain ⟨a1, a2⟩ := hs q0.1 (by omega)
    obtain ⟨b1, b2⟩ := hs q0.2.1 m2
    obtain ⟨l1', l2'⟩ := hlw k q0 q1
    obtain ⟨x0, x1, x2⟩ := hN (sp q0.1) a2
    obtain ⟨y0, y1, y2⟩ := hN (sp q0.2.1) b2
    have cr : ∀ i, i < 3 → X3_joinPoints_c57_57 (nI f) n0 n1 n2 plc a.2.2.2.1 a.2.2.2.2.1 a.2.2.2.2.2 ((lw k).toNatClampNeg) ((md k).toNatClampNeg) i = Int32.ofInt (rst f (crs f (sp q0.1) (sp q0.2.1) i)) := by
      unfold X3_joinPoints_c57_57
      refine cross_is hf a2 b2 (fun i hi => ?_) (fun i hi => ?_)
      · unfold X3_numbersOf_c55_55
        rw [l1', nI_clamp (by omega), a1, nI_clamp (by omega), x0, x1, x2]
        rcases (show i = 0 ∨ i = 1 ∨ i = 2 by omega) with rfl | rfl | rfl <;> simp [upd]
      · unfold X3_numbersOf_c56_56
        rw [l2', nI_clamp (by omega), b1, nI_clamp (by omega), y0, y1, y2]
        rcases (show i = 0 ∨ i = 1 ∨ i = 2 by omega) with rfl | rfl | rfl <;> simp [upd]
    unfold X3_prepare_L7_F
    rw [cr 0 (by decide), cr 1 (by decide), cr 2 (by decide)]
    refine ⟨by omega, fun w q h1 h2 h3 => ?_, fun w h => ?_⟩
    · show upd a.1 k _ w = _ ∧ upd a.2.1 k _ w = _ ∧ upd a.2.2.1 k _ w = _
      unfold upd
      by_cases c : w = k
      · subst c
        rw [q2] at h3
        cases h3
        rw [if_pos rfl, if_pos rfl, if_pos rfl]
        exact ⟨rfl, rfl, rfl⟩
      · rw [if_neg c, if_neg c, if_neg c]
        exact i2 w q h1 (by omega) h3
    · show upd a.1 k _ w = _ ∧ upd a.2.1 k _ w = _ ∧ upd a.2.2.1 k _ w = _
      unfold upd
      rw [if_neg (by omega), if_neg (by omega), if_neg (by omega)]
      exact i3 w h) (gwB fl ba ori (pt + 1) - gwB fl ba ori pt) (gwB fl ba ori pt) (f0, f1, f2, p1, p2, l1) (by omega) ⟨Nat.le_refl _, fun w q h1 h2 => by omega, fun w h => ⟨rfl, rfl, rfl⟩⟩
  exact ⟨fun w q h1 h2 h3 => key.2.1 w q h1 h2 h3, key.2.2⟩
end CG
