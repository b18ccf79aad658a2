/-! ===== coordinate, check, canonical, orbit: alike in both ===== -/
theorem andF {R : Nat → Prop} {F : Nat → Int32 → Int32} {n : Nat} (h0 : ∀ i, F i (nI 0) = nI 0) (m : Nat) (h1 : ∀ i, m ≤ i → i < n → (F i (nI 1) = nI 1 ∧ R i) ∨ (F i (nI 1) = nI 0 ∧ ¬ R i)) : ∀ d i, m ≤ i → i + d = n →
    (zfold F d i (nI 1) = nI 1 ∧ ∀ j, i ≤ j → j < n → R j) ∨ (zfold F d i (nI 1) = nI 0 ∧ ¬ ∀ j, i ≤ j → j < n → R j) := by
  have z : ∀ d i, zfold F d i (nI 0) = nI 0 := by
    intro d
    induction d with
    | zero => intro i; rfl
    | succ d ih => intro i; show zfold F d (i + 1) (F i (nI 0)) = _; rw [h0]; exact ih (i + 1)
  intro d
  induction d with
  | zero => intro i _ h; exact Or.inl ⟨rfl, fun j h1 h2 => by omega⟩
  | succ d ih =>
    intro i hm h
    show (zfold F d (i + 1) (F i (nI 1)) = _ ∧ _) ∨ (zfold F d (i + 1) (F i (nI 1)) = _ ∧ _)
    rcases h1 i hm (by omega) with ⟨e, r⟩ | ⟨e, r⟩
    · rw [e]
      rcases ih (i + 1) (by omega) (by omega) with ⟨e2, r2⟩ | ⟨e2, r2⟩
      · refine Or.inl ⟨e2, fun j h1 h2 => ?_⟩
        by_cases c : j = i
        · subst c; exact r
        · exact r2 j (by omega) h2
      · exact Or.inr ⟨e2, fun q => r2 (fun j h1 h2 => q j (by omega) h2)⟩
    · rw [e, z]
      exact Or.inr ⟨rfl, fun q => r (q i (Nat.le_refl _) (by omega))⟩
section CK
variable {n lns brs ors : Nat} {fl ba ori lm bm om os : Nat → Int32} {n0 n1 n2 f0 f1 f2 plc bg lw md wt p1 p2 l1 : Nat → Int32} {laid fld hasP fnd : Int32} {fs sc th wn po : Nat → Int32} {fd : Nat}
theorem coordinate_same (hn : n ≤ 10) (hS : SRC n fnd fd n0 n1 n2 plc hasP fld laid fs sc th po) (p i : Int32) : X6_coordinate_v n fnd n0 n1 n2 plc p i = X7_coordinate_v n hasP fld po p i ∧ X7_coordinate_p76_0 n hasP p i = 0 := by
  obtain ⟨rfl, hf, -, -, hF⟩ := hS
  refine ⟨?_, by unfold X7_coordinate_p76_0; simp only [ite_self]⟩
  unfold X6_coordinate_v X7_coordinate_v
  by_cases c1 : vp_in p n
  · have e1 : ¬ X4_hasPoint_v n p = 0 := fun q => (hasP_iff (by omega)).mp q c1
    have e2 : ¬ X7_isIn_v p (nI 0) (nI n - nI 1) = 0 := fun q => (isIn_iff (by omega)).mp q c1
    rw [if_neg e1, if_neg e2]
    by_cases c2 : i < 0
    · rw [if_pos c2, if_pos (show X7_isIn_v i (nI 0) (nI 3) = 0 from isIn_b.mpr (Or.inl c2))]
    · by_cases c3 : i ≤ nI 3
      · rw [if_neg c2, if_pos c3, if_neg (show ¬ X7_isIn_v i (nI 0) (nI 3) = 0 from fun q => by
          rcases isIn_b.mp q with q | q
          · exact c2 q
          · exact absurd c3 (Int32.not_le.mpr q))]
        by_cases c4 : fnd = 0
        · rw [if_pos c4, if_pos c4]
        · rw [if_neg c4, if_neg c4]
          obtain ⟨rfl, hN, hp, -⟩ := hF c4
          obtain ⟨e, s, hs, es⟩ := hp p.toNatClampNeg (zvlt c1)
          obtain ⟨j, hj, rfl⟩ := nI_of (x := i) c2
          have hj3 : j ≤ 3 := (nI_le31 hj (by omega)).mp c3
          obtain ⟨x0, x1, x2⟩ := hN s hs
          have h183 := nPl_le hf
          rw [nI_clamp (by omega)]
          unfold numN X3_numberOf_v_0 X3_numberOf_v_1 X3_numberOf_v_2 X3_numberOf_v_3
          rw [e, es, nI_clamp (show s < 2 ^ 31 by omega)]
          rcases (show j = 0 ∨ j = 1 ∨ j = 2 ∨ j = 3 by omega) with rfl | rfl | rfl | rfl
          · rw [if_neg (show ¬ nI 0 = nI 3 by decide), part_pn hf (by omega) (by decide)]
            exact x0
          · rw [if_neg (show ¬ nI 1 = nI 3 by decide), part_pn hf (by omega) (by decide)]
            exact x1
          · rw [if_neg (show ¬ nI 2 = nI 3 by decide), part_pn hf (by omega) (by decide)]
            exact x2
          · rw [if_pos rfl]
            rfl
      · rw [if_neg c2, if_neg c3, if_pos (isIn_b.mpr (Or.inr (Int32.not_le.mp c3)))]
  · rw [if_pos ((hasP_iff (by omega)).mpr c1), if_pos ((isIn_iff (by omega)).mpr c1)]
/-- all is well with a picture -/
def ALL (f n : Nat) (W : Nat → Nat → Nat → Nat) (sp : Nat → Nat) : Prop := ∀ pt, pt < n → GO f W sp pt (sp pt)
theorem cls_holds {f : Nat} (hf : FLD f) (hn : n ≤ 10) (ho : ∀ k, ori k = -1 ∨ ori k = 0 ∨ ori k = 1) {sp : Nat → Nat} (hN : NUM f n0 n1 n2 (nPl f)) (hs : ∀ a, a < n → plc a = nI (sp a) ∧ sp a < nPl f) :
    (X3_stillHolds_v (nI f) n0 n1 n2 f0 f1 f2 plc bg lw md wt p1 p2 l1 fl ba ori n = nI 1 ∧ ALL f n (fun a b c => WC f fl ba ori (spN a b c)) sp) ∨ (X3_stillHolds_v (nI f) n0 n1 n2 f0 f1 f2 plc bg lw md wt p1 p2 l1 fl ba ori n = nI 0 ∧ ¬ ALL f n (fun a b c => WC f fl ba ori (spN a b c)) sp) := by
  have hgw := gw_all fl ba ori (nI f) bg lw md wt n
  unfold X3_stillHolds_v
  have key : ∀ (d i : Nat) (a : (Nat → Int32) × (Nat → Int32) × (Nat → Int32) × (Nat → Int32) × (Nat → Int32) × (Nat → Int32)), i + d = n → (zpick (zfoldB (X3_stillHolds_L7_B (nI f) n0 n1 n2 plc bg lw md wt fl ba ori n) (X3_stillHolds_L7_F (nI f) n0 n1 n2 plc bg lw md wt fl ba ori n) d i a) (fun b => b.1) (fun am7 => nI 1) = nI 1 ∧ ∀ pt, i ≤ pt → pt < n → GO f (fun a b c => WC f fl ba ori (spN a b c)) sp pt (sp pt)) ∨ (zpick (zfoldB (X3_stillHolds_L7_B (nI f) n0 n1 n2 plc bg lw md wt fl ba ori n) (X3_stillHolds_L7_F (nI f) n0 n1 n2 plc bg lw md wt fl ba ori n) d i a) (fun b => b.1) (fun am7 => nI 1) = nI 0 ∧ ¬ ∀ pt, i ≤ pt → pt < n → GO f (fun a b c => WC f fl ba ori (spN a b c)) sp pt (sp pt)) := by
    intro d
    induction d with
    | zero => intro i a h; exact Or.inl ⟨rfl, fun pt h1 h2 => by omega⟩
    | succ d ih =>
      intro i a h
      have P := prep_is (fl := fl) (ba := ba) (ori := ori) hf (f0 := a.1) (f1 := a.2.1) (f2 := a.2.2.1) (p1 := a.2.2.2.1) (p2 := a.2.2.2.2.1) (l1 := a.2.2.2.2.2) (show i < n by omega) hN (fun k hk => hs k (by omega)) (fun w q hq => ⟨(hgw.2 w q hq).1, (hgw.2 w q hq).2.1⟩) hn
      have G := cls_goes (fl := fl) (ba := ba) (ori := ori) hf ho (show i < n by omega) hN (hs i (by omega)).2 (fun k hk => hs k (by omega)) (hs i (by omega)).1 P.1 (fun w q hq => (hgw.2 w q hq).2.2)
      rcases G with ⟨g, hg⟩ | ⟨g, hg⟩
      · have eB : X3_stillHolds_L7_B (nI f) n0 n1 n2 plc bg lw md wt fl ba ori n i a = none := by
          unfold X3_stillHolds_L7_B
          rw [g, if_neg (show ¬ nI 1 = 0 by decide)]
        simp only [zfoldB, eB]
        rcases ih (i + 1) (X3_stillHolds_L7_F (nI f) n0 n1 n2 plc bg lw md wt fl ba ori n i a) (by omega) with ⟨e, r⟩ | ⟨e, r⟩
        · refine Or.inl ⟨e, fun pt h1 h2 => ?_⟩
          by_cases c : pt = i
          · subst c; exact hg
          · exact r pt (by omega) h2
        · exact Or.inr ⟨e, fun q => r (fun pt h1 h2 => q pt (by omega) h2)⟩
      · have eB : ∃ b, X3_stillHolds_L7_B (nI f) n0 n1 n2 plc bg lw md wt fl ba ori n i a = some b ∧ b.1 = nI 0 := by
          unfold X3_stillHolds_L7_B
          rw [g, if_pos (show nI 0 = 0 from rfl)]
          exact ⟨_, rfl, rfl⟩
        obtain ⟨b, eB, eb⟩ := eB
        simp only [zfoldB, eB, zpick]
        exact Or.inr ⟨eb, fun q => hg (q i (Nat.le_refl _) (by omega))⟩
  rcases key n 0 (f0, f1, f2, p1, p2, l1) (by omega) with ⟨e, r⟩ | ⟨e, r⟩
  · exact Or.inl ⟨e, fun pt h => r pt (Nat.zero_le _) h⟩
  · exact Or.inr ⟨e, fun q => r (fun pt _ h => q pt h)⟩
theorem ref_holds {f : Nat} (hf : FLD f) (hn : n ≤ 10) (hT : TOLD n lns brs ors fl ba ori lm bm om os) {sp : Nat → Nat} (hL : LAID laid fs sc th) (hs : ∀ a, a < n → po a = nI (sp a) ∧ sp a < nPl f) :
    (zfold (X7_check_L27_F n lns brs ors f laid lm bm om os fs sc th wn po) n 0 (nI 1) = nI 1 ∧ ALL f n (fun a b c => WC f fl ba ori (spN a b c)) sp) ∨ (zfold (X7_check_L27_F n lns brs ors f laid lm bm om os fs sc th wn po) n 0 (nI 1) = nI 0 ∧ ¬ ALL f n (fun a b c => WC f fl ba ori (spN a b c)) sp) := by
  have hb := FLD_b hf
  have h183 := nPl_le hf
  have lN : NUM f (X7_layWants_c92 laid fs sc th f) (X7_layWants_c93 laid fs sc th f) (X7_layWants_c94 laid fs sc th f) (nPl f) := layField_is hf hL
  have n00 : nI 0 &&& nI 0 = nI 0 := rfl
  have n01 : nI 0 &&& nI 1 = nI 0 := rfl
  have n10 : nI 1 &&& nI 0 = nI 0 := rfl
  have n11 : nI 1 &&& nI 1 = nI 1 := rfl
  have z75 : ∀ a b d i, (zfoldX (X7_check_L75_B) (X7_check_L75_F n lns brs ors f laid lm bm om os fs sc th wn po a b) d i (nI 0)).2 = nI 0 := fun a b d i => andX0 (fun i => by unfold X7_check_L75_B; rw [if_pos (show nI 0 = 0 from rfl)]) d i
  have z75v : ∀ a b d i, (zfoldX (X7_check_L75v2_B) (X7_check_L75v2_F n lns brs ors f laid lm bm om os fs sc th wn po a b) d i (nI 0)).2 = nI 0 := fun a b d i => andX0 (fun i => by unfold X7_check_L75v2_B; rw [if_pos (show nI 0 = 0 from rfl)]) d i
  have z39 : ∀ a b, X7_check_L39_F n lns brs ors f laid lm bm om os fs sc th wn po a b (nI 0) = nI 0 := fun a b => by
    unfold X7_check_L39_F
    rw [n00, n01, z75, z75v, ite_self]
  have key := andF (R := fun a => ∀ b, a < b → b < n → sp a ≠ sp b ∧ ∀ c, b < c → c < n → RGT (WC f fl ba ori (spN a b c)) (val f (sp a) (sp b) (sp c))) (F := X7_check_L27_F n lns brs ors f laid lm bm om os fs sc th wn po) (n := n) (fun a => by
    unfold X7_check_L27_F
    generalize n - (a + 1) = d
    generalize a + 1 = i
    revert i
    induction d with
    | zero => intro i; rfl
    | succ d ih => intro i; show zfold _ d (i + 1) (X7_check_L39_F n lns brs ors f laid lm bm om os fs sc th wn po a i (nI 0)) = _; rw [z39]; exact ih (i + 1)) 0 (fun a _ ha => by
    obtain ⟨sa, la⟩ := hs a ha
    unfold X7_check_L27_F
    rcases andF (R := fun b => sp a ≠ sp b ∧ ∀ c, b < c → c < n → RGT (WC f fl ba ori (spN a b c)) (val f (sp a) (sp b) (sp c))) (F := X7_check_L39_F n lns brs ors f laid lm bm om os fs sc th wn po a) (n := n) (z39 a) (a + 1) (fun b h1 h2 => by
      obtain ⟨sb, lb⟩ := hs b h2
      unfold X7_check_L39_F
      rw [n10, n11, z75]
      by_cases c : sp a = sp b
      · rw [if_pos (by rw [sa, sb, c])]
        exact Or.inr ⟨rfl, fun q => q.1 c⟩
      · rw [if_neg (fun q => c (by rw [sa, sb] at q; exact (nI_eq (by omega) (by omega)).mp q))]
        rcases andX (R := fun c => RGT (WC f fl ba ori (spN a b c)) (val f (sp a) (sp b) (sp c))) (B := X7_check_L75v2_B) (F := X7_check_L75v2_F n lns brs ors f laid lm bm om os fs sc th wn po a b) (n := n) (fun i => by unfold X7_check_L75v2_B; rw [if_pos (show nI 0 = 0 from rfl)]) (fun i => by unfold X7_check_L75v2_B; rw [if_neg (show ¬ nI 1 = 0 by decide)]) (b + 1) (fun k h3 h4 => by
          obtain ⟨sk, lk⟩ := hs k h4
          unfold X7_check_L75v2_F
          rw [if_neg (show ¬ nI 1 = 0 by decide), sa, sb, sk, nI_clamp (by omega), nI_clamp (by omega), nI_clamp (by omega)]
          have vb := val_b hf la lb lk
          exact right_is WC_le vb.1 vb.2 (wants_is (by omega) hn hT (by omega) (by omega) h4) (ref_val hf la lb lk lN)) (n - (b + 1)) (b + 1) (Nat.le_refl _) (by omega) with ⟨e, r⟩ | ⟨e, r⟩
        · exact Or.inl ⟨e, c, fun k h5 h6 => r k (by omega) h6⟩
        · exact Or.inr ⟨e, fun q => r (fun k h5 h6 => q.2 k (by omega) h6)⟩) (n - (a + 1)) (a + 1) (Nat.le_refl _) (by omega) with ⟨e, r⟩ | ⟨e, r⟩
    · exact Or.inl ⟨e, fun b h1 h2 => r b (by omega) h2⟩
    · exact Or.inr ⟨e, fun q => r (fun b h1 h2 => q b (by omega) h2)⟩) n 0 (Nat.le_refl _) (by omega)
  rcases key with ⟨e, r⟩ | ⟨e, r⟩
  · exact Or.inl ⟨e, fun pt hp a ha => ⟨(r a (Nat.zero_le _) (by omega) pt ha hp).1, fun b h1 h2 => (r a (Nat.zero_le _) (by omega) b h1 (by omega)).2 pt h2 hp⟩⟩
  · exact Or.inr ⟨e, fun q => r (fun a _ ha b h1 h2 => ⟨(q b h2 a h1).1, fun c h3 h4 => (q c h4 a (by omega)).2 b h1 h3⟩)⟩
theorem check_same (hn : n ≤ 10) (hT : TOLD n lns brs ors fl ba ori lm bm om os) {fr : Nat} (hfr : FLD fr) (hS : SRC n fnd fd n0 n1 n2 plc hasP (nI fr) laid fs sc th po) :
    X6_check_v n fl ba ori fnd fd n0 n1 n2 f0 f1 f2 plc bg lw md wt p1 p2 l1 = X7_check_v n lns brs ors hasP fr laid lm bm om os fs sc th wn po ∧ X7_check_p76_0 n lns brs ors hasP fr laid lm bm om os fs sc th wn po = 0 ∧
    SRC n fnd fd n0 n1 n2 plc hasP (nI fr) (X7_check_p76_10 n lns brs ors hasP fr laid lm bm om os fs sc th wn po) (X7_check_c92 n lns brs ors hasP fr laid lm bm om os fs sc th wn po) (X7_check_c93 n lns brs ors hasP fr laid lm bm om os fs sc th wn po) (X7_check_c94 n lns brs ors hasP fr laid lm bm om os fs sc th wn po) po := by
  obtain ⟨rfl, hf, hr, hL, hF⟩ := hS
  unfold X6_check_v X7_check_v X7_check_p76_0 X7_check_p76_10 X7_check_c92 X7_check_c93 X7_check_c94
  simp only [ite_self]
  by_cases c : fnd = 0
  · simp only [if_pos c]
    exact ⟨trivial, trivial, rfl, hf, hr, hL, fun q => absurd c q⟩
  · simp only [if_neg c]
    obtain ⟨e, hN, hp, hd⟩ := hF c
    have e2 : fr = fd := (nI_eq (by have := FLD_b hfr; omega) (by have := FLD_b hf; omega)).mp e
    subst e2
    have hsp : ∃ sp : Nat → Nat, ∀ a, a < n → po a = nI (sp a) ∧ sp a < nPl fr := ⟨fun a => (po a).toNatClampNeg, fun a ha => by
      obtain ⟨-, s, hs, es⟩ := hp a ha
      have := nPl_le hf
      show po a = nI (po a).toNatClampNeg ∧ (po a).toNatClampNeg < nPl fr
      rw [es, nI_clamp (by omega)]
      exact ⟨rfl, hs⟩⟩
    obtain ⟨sp, hsp⟩ := hsp
    refine ⟨?_, trivial, rfl, hf, hr, Or.inr ⟨fr, hf, rfl, layField_is hf hL⟩, fun _ => ⟨rfl, hN, hp, hd⟩⟩
    rcases cls_holds (f0 := f0) (f1 := f1) (f2 := f2) (bg := bg) (lw := lw) (md := md) (wt := wt) (p1 := p1) (p2 := p2) (l1 := l1) (fl := fl) (ba := ba) (ori := ori) hf hn hT.1 hN (fun a ha => ⟨(hp a ha).1.trans (hsp a ha).1, (hsp a ha).2⟩) with ⟨a1, a2⟩ | ⟨a1, a2⟩ <;> rcases ref_holds (wn := wn) hf hn hT hL hsp with ⟨b1, b2⟩ | ⟨b1, b2⟩
    · rw [a1, b1, if_neg (show ¬ nI 1 = 0 by decide)]
    · exact absurd a2 b2
    · exact absurd b2 a2
    · rw [a1, b1, if_pos (show nI 0 = 0 from rfl)]
end CK
/-- forms, both sides -/
def FRM (n L : Nat) (msk : Nat → Int32) (sd : Int32) (lea kee : Nat → Int32) (isN : Int32) (bs kp : Nat → Int32) : Prop :=
  (¬ sd = 0 → (∀ j, j < L → lea j = LEAST n L msk j) ∧ ∀ j, j < 13 → kee j = KEEPS n L msk j) ∧ (¬ isN = 0 → (∀ j, j < L → bs j = LEAST n L msk j) ∧ ∀ j, j < 13 → kp j = KEEPS n L msk j)
section CN
variable {n L : Nat} {msk lm lea kee own im ren mv nm ag fr fm bs ow kp : Nat → Int32} {sd isN : Int32}
theorem ren_same (hn : n ≤ 10) (hL : L ≤ 12) : (X6_renamable_v n L = 0 ∧ X7_mayName_v n L isN = 0) ∨ (¬ X6_renamable_v n L = 0 ∧ ¬ X7_mayName_v n L isN = 0 ∧ ¬ nI L = 0 ∧ nI n ≤ nI 7 ∧ 1 ≤ L ∧ n ≤ 7) := by
  unfold X6_renamable_v X7_mayName_v
  by_cases c : L = 0
  · subst c
    exact Or.inl ⟨rfl, rfl⟩
  · have e1 : ¬ nI L ≤ 0 := nI_nle (by omega) (by omega)
    have e2 : ¬ nI L = 0 := nI_ne0 (by omega) (by omega)
    rw [if_neg e1, if_neg e2, ite_self]
    by_cases d : n ≤ 7
    · have e3 : nI n ≤ nI 7 := (nI_le31 (by omega) (by omega)).mpr d
      rw [if_neg (Int32.not_lt.mpr e3), if_pos e3]
      exact Or.inr ⟨by decide, by decide, e2, e3, by omega, d⟩
    · have e3 : ¬ nI n ≤ nI 7 := fun q => d ((nI_le31 (by omega) (by omega)).mp q)
      rw [if_pos (Int32.not_le.mp e3), if_neg e3]
      exact Or.inl ⟨rfl, rfl⟩
theorem st_is (h2 : 2 ≤ n) (hn : n ≤ 7) (hm : ∀ j, j < L → MB n (msk j)) (hF : FRM n L msk sd lea kee isN bs kp) : (∀ j, j < L → X1_study_c68 sd n L msk lea kee own im ren mv j = LEAST n L msk j) ∧ ∀ j, j < 13 → X1_study_c69 sd n L msk lea kee own im ren mv j = KEEPS n L msk j := by
  by_cases c : sd = 0
  · subst c
    exact study_is h2 hn hm
  · have q := hF.1 c
    unfold X1_study_c68 X1_study_c69
    rw [if_neg c, if_neg c]
    exact q
theorem na_is (h2 : 2 ≤ n) (hn : n ≤ 7) (hl : ¬ nI L = 0) (h7 : nI n ≤ nI 7) (hlm : ∀ j, j < L → lm j = msk j) (hm : ∀ j, j < L → MB n (msk j)) (hF : FRM n L msk sd lea kee isN bs kp) : (∀ j, j < L → X7_mayName_c106 n L isN lm nm ag fr fm bs ow kp j = LEAST n L msk j) ∧ ∀ j, j < 13 → X7_mayName_c108 n L isN lm nm ag fr fm bs ow kp j = KEEPS n L msk j := by
  unfold X7_mayName_c106 X7_mayName_c108
  rw [if_neg hl, if_pos h7, if_neg hl, if_pos h7]
  by_cases c : isN = 0
  · rw [if_pos c, if_pos c]
    exact names_is h2 hn hlm hm
  · rw [if_neg c, if_neg c]
    exact hF.2 c
theorem canonical_same (hn : n ≤ 10) (hL : L ≤ 12) (h2 : 1 ≤ L → 2 ≤ n) (hlm : ∀ j, j < L → lm j = msk j) (hm : ∀ j, j < L → MB n (msk j)) (hF : FRM n L msk sd lea kee isN bs kp) (i : Int32) :
    X6_canonical_v n L msk sd lea kee own im ren mv i = X7_canonical_v n L isN lm nm ag fr fm bs ow kp i ∧ X7_canonical_p76_0 n L isN i = 0 ∧
    FRM n L msk (X6_canonical_p67_0 n L sd i) (X6_canonical_c68 n L msk sd lea kee own im ren mv i) (X6_canonical_c69 n L msk sd lea kee own im ren mv i) (X7_canonical_p76_16 n L isN lm fm bs ow i) (X7_canonical_c106 n L isN lm nm ag fr fm bs ow kp i) (X7_canonical_c108 n L isN lm nm ag fr fm bs ow kp i) := by
  unfold X6_canonical_v X7_canonical_v X7_canonical_p76_0 X6_canonical_p67_0 X6_canonical_c68 X6_canonical_c69 X7_canonical_p76_16 X7_canonical_c106 X7_canonical_c108
  simp only [ite_self]
  rcases ren_same (isN := isN) hn hL with ⟨c1, c2⟩ | ⟨c1, c2, c3, c4, c5, c6⟩
  · simp only [if_pos c1, if_pos c2]
    refine ⟨trivial, trivial, hF.1, fun q => ?_⟩
    unfold X7_mayName_v at c2
    unfold X7_mayName_p76_16 at q
    unfold X7_mayName_c106 X7_mayName_c108
    by_cases d1 : nI L = 0
    · rw [if_pos d1] at q
      rw [if_pos d1, if_pos d1]
      exact hF.2 q
    · rw [if_neg d1] at c2 q
      rw [if_neg d1, if_neg d1]
      by_cases d2 : nI n ≤ nI 7
      · rw [if_pos d2, ite_self] at c2
        exact absurd c2 (by decide)
      · rw [if_neg d2] at q
        rw [if_neg d2, if_neg d2]
        exact hF.2 q
  · simp only [if_neg c1, if_neg c2]
    have s := st_is (own := own) (im := im) (ren := ren) (mv := mv) (h2 c5) c6 hm hF
    have t := na_is (nm := nm) (ag := ag) (fr := fr) (fm := fm) (ow := ow) (h2 c5) c6 c3 c4 hlm hm hF
    by_cases d : vp_in i L
    · have lt := zvlt d
      have d0 : ¬ i < 0 := fun q => d (Or.inl q)
      have d1 : i < nI L := by
        rw [zvin d]
        exact nI_lt lt (by omega)
      have d2 : ¬ X7_isIn_v i (nI 0) (nI L - nI 1) = 0 := fun q => (isIn_iff (by omega)).mp q d
      simp only [if_neg d0, if_pos d1, if_neg d2]
      exact ⟨by rw [s.1 _ lt, t.1 _ lt], trivial, fun _ => s, fun _ => t⟩
    · have d2 : X7_isIn_v i (nI 0) (nI L - nI 1) = 0 := (isIn_iff (by omega)).mpr d
      simp only [if_pos d2]
      by_cases d0 : i < 0
      · simp only [if_pos d0]
        exact ⟨trivial, trivial, hF.1, fun _ => t⟩
      · have d1 : ¬ i < nI L := fun q => d (by
          obtain ⟨j, hj, rfl⟩ := nI_of d0
          exact vp_in_nI (by
            rcases Nat.lt_or_ge j L with u | u
            · exact u
            · exact absurd q (nI_nlt u hj)) (by omega))
        simp only [if_neg d0, if_neg d1]
        exact ⟨trivial, trivial, hF.1, fun _ => t⟩
theorem orbit_same (hn : n ≤ 10) (hL : L ≤ 12) (h2 : 1 ≤ L → 2 ≤ n) (hlm : ∀ j, j < L → lm j = msk j) (hm : ∀ j, j < L → MB n (msk j)) (hF : FRM n L msk sd lea kee isN bs kp) (i : Int32) :
    X6_orbit_v n L msk sd lea kee own im ren mv i = X7_orbit_v n L isN lm nm ag fr fm bs ow kp i ∧ X7_orbit_p76_0 n L isN i = 0 ∧
    FRM n L msk (X6_orbit_p67_0 n L sd i) (X6_orbit_c68 n L msk sd lea kee own im ren mv i) (X6_orbit_c69 n L msk sd lea kee own im ren mv i) (X7_orbit_p76_16 n L isN lm fm bs ow i) (X7_orbit_c106 n L isN lm nm ag fr fm bs ow kp i) (X7_orbit_c108 n L isN lm nm ag fr fm bs ow kp i) := by
  unfold X6_orbit_v X7_orbit_v X7_orbit_p76_0 X6_orbit_p67_0 X6_orbit_c68 X6_orbit_c69 X7_orbit_p76_16 X7_orbit_c106 X7_orbit_c108
  simp only [ite_self]
  by_cases ci : 0 ≤ i
  · simp only [if_pos ci]
    rcases ren_same (isN := isN) hn hL with ⟨c1, c2⟩ | ⟨c1, c2, c3, c4, c5, c6⟩
    · simp only [if_pos c1, if_pos c2]
      refine ⟨trivial, trivial, hF.1, fun q => ?_⟩
      unfold X7_mayName_v at c2
      unfold X7_mayName_p76_16 at q
      unfold X7_mayName_c106 X7_mayName_c108
      by_cases d1 : nI L = 0
      · rw [if_pos d1] at q
        rw [if_pos d1, if_pos d1]
        exact hF.2 q
      · rw [if_neg d1] at c2 q
        rw [if_neg d1, if_neg d1]
        by_cases d2 : nI n ≤ nI 7
        · rw [if_pos d2, ite_self] at c2
          exact absurd c2 (by decide)
        · rw [if_neg d2] at q
          rw [if_neg d2, if_neg d2]
          exact hF.2 q
    · simp only [if_neg c1, if_neg c2]
      have s := st_is (own := own) (im := im) (ren := ren) (mv := mv) (h2 c5) c6 hm hF
      have t := na_is (nm := nm) (ag := ag) (fr := fr) (fm := fm) (ow := ow) (h2 c5) c6 c3 c4 hlm hm hF
      obtain ⟨j, hj, rfl⟩ := nI_of (x := i) (Int32.not_lt.mpr ci)
      by_cases d : j ≤ 12
      · have d1 : nI j ≤ nI 12 := (nI_le31 hj (by omega)).mpr d
        have d2 : ¬ nI 13 ≤ nI j := fun q => by have := (nI_le31 (by omega) hj).mp q; omega
        simp only [if_pos d1, if_neg d2, nI_clamp hj]
        exact ⟨by rw [s.2 _ (by omega), t.2 _ (by omega)], trivial, fun _ => s, fun _ => t⟩
      · have d1 : ¬ nI j ≤ nI 12 := fun q => d ((nI_le31 hj (by omega)).mp q)
        have d2 : nI 13 ≤ nI j := (nI_le31 (by omega) hj).mpr (by omega)
        simp only [if_neg d1, if_pos d2]
        exact ⟨trivial, trivial, hF.1, fun _ => t⟩
  · simp only [if_neg ci]
    exact ⟨trivial, trivial, hF⟩
end CN
