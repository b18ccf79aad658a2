/-! ===== the search, alike in both ===== -/
theorem popX {P : Nat → Prop} {B : Nat → Unit → Option Unit} {F : Nat → Unit → Unit} {pc : Nat} (hB : ∀ c, c < pc → (B c () = some () ∧ P (pc - c - 1)) ∨ (B c () = none ∧ ¬ P (pc - c - 1))) : ∀ d i, i + d = pc → (∀ j, j < i → ¬ P (pc - j - 1)) → ∃ c, c ≤ pc ∧ (zfoldX B F d i ()).1 = c ∧ (∀ j, j < c → ¬ P (pc - j - 1)) ∧ (c < pc → P (pc - c - 1)) := by
  intro d
  induction d with
  | zero => intro i h hj; exact ⟨i, by omega, rfl, hj, fun q => by omega⟩
  | succ d ih =>
    intro i h hj
    rcases hB i (by omega) with ⟨e, p⟩ | ⟨e, p⟩
    · refine ⟨i, by omega, ?_, hj, fun _ => p⟩
      simp only [zfoldX, e]
    · simp only [zfoldX, e]
      refine ih (i + 1) (by omega) (fun j q => ?_)
      by_cases c : j = i
      · subst c; exact p
      · exact hj j (by omega)
abbrev SA := Nat × Nat × (Nat → Int32) × (Nat → Int32) × (Nat → Int32) × (Nat → Int32) × (Nat → Int32) × (Nat → Int32) × (Nat → Int32)
abbrev RA := Nat × Nat × (Nat → Int32) × (Nat → Int32)
abbrev SCB := (Int32) × (Nat) × (Nat) × (Nat) × (Nat) × (Nat → Int32) × (Nat → Int32) × (Nat → Int32) × (Nat → Int32) × (Nat → Int32) × (Nat → Int32) × (Nat → Int32) × (Nat → Int32) × (Nat → Int32) × (Nat → Int32) × (Nat → Int32) × (Nat → Int32) × (Nat → Int32) × (Nat → Int32)
abbrev SRB := (Int32) × (Nat) × (Int32) × (Int32) × (Int32) × (Int32) × (Nat → Int32) × (Nat → Int32) × (Nat → Int32) × (Nat → Int32) × (Nat → Int32) × (Nat → Int32) × (Nat → Int32)
/-- both searches at the head of a step -/
def SREL (f n : Nat) (fl ba ori : Nat → Int32) (i : Nat) (a : SA) (b : RA) : Prop :=
  a.1 = i ∧ b.1 = i ∧ a.2.1 < n ∧ b.2.1 = a.2.1 + 1 ∧ ∃ (t : Nat) (sp : Nat → Nat), (∀ k, k < a.2.1 → a.2.2.1 k = nI (sp k) ∧ b.2.2.2 k = nI (sp k) ∧ sp k < nPl f ∧ b.2.2.1 k = nI (sp k + 1)) ∧ a.2.2.1 a.2.1 + nI 1 = nI t ∧ b.2.2.1 a.2.1 = nI t ∧ t < nPl f ∧ (∀ j, j ≤ a.2.1 → FAC f fl ba ori sp a.2.2.2.1 a.2.2.2.2.1 a.2.2.2.2.2.1 j) ∧ ∀ x y, x < y → y < a.2.1 → sp x ≠ sp y
section SK
variable {f n lns brs ors : Nat} {fl ba ori lm bm om os : Nat → Int32} {n0 n1 n2 bg lw md wt : Nat → Int32}
theorem enter_pl {plc : Nat → Int32} {pt k : Nat} : X3_enter_c46 plc pt k = if k = pt then -1 else plc k := rfl
/-- one step of the class -/
theorem cls_step (hf : FLD f) (hn : n ≤ 10) (ho : ∀ k, ori k = -1 ∨ ori k = 0 ∨ ori k = 1) {i : Nat} {a : SA} {t : Nat} {sp : Nat → Nat} (hpt : a.2.1 < n) (hs : ∀ k, k < a.2.1 → a.2.2.1 k = nI (sp k) ∧ sp k < nPl f) (ht : a.2.2.1 a.2.1 + nI 1 = nI t) (htl : t < nPl f) (hF : ∀ j, j ≤ a.2.1 → FAC f fl ba ori sp a.2.2.2.1 a.2.2.2.2.1 a.2.2.2.2.2.1 j) :
    (¬ GO f (fun a b c => WC f fl ba ori (spN a b c)) sp a.2.1 t ∧ ∃ c, c ≤ a.2.1 + 1 ∧ (∀ j, j < c → (if a.2.1 - j = a.2.1 then t + 1 else sp (a.2.1 - j) + 1) = nPl f) ∧ (c < a.2.1 + 1 → (if a.2.1 - c = a.2.1 then t + 1 else sp (a.2.1 - c) + 1) < nPl f) ∧
      ((c < a.2.1 + 1 ∧ X3_seek_L26_B n0 n1 n2 bg lw md wt fl ba ori n f i a = none ∧ X3_seek_L26_F n0 n1 n2 bg lw md wt fl ba ori n f i a = (a.1 + 1, a.2.1 - c, upd a.2.2.1 a.2.1 (nI t), a.2.2.2.1, a.2.2.2.2.1, a.2.2.2.2.2.1, a.2.2.2.2.2.2.1, a.2.2.2.2.2.2.2.1, a.2.2.2.2.2.2.2.2)) ∨
       (c = a.2.1 + 1 ∧ ∃ bc : SCB, X3_seek_L26_B n0 n1 n2 bg lw md wt fl ba ori n f i a = some bc ∧ bc.1 = nI 0 ∧ bc.2.1 = 0 ∧ bc.2.2.1 = a.1 + 1 ∧ bc.2.2.2.1 = X2_choose_p41_0 n0 n1 n2 f ∧ bc.2.2.2.2.1 = X2_choose_p41_1 n0 n1 n2 f ∧ bc.2.2.2.2.2.1 = X2_choose_c43 n0 n1 n2 f ∧ bc.2.2.2.2.2.2.1 = X2_choose_c44 n0 n1 n2 f ∧ bc.2.2.2.2.2.2.2.1 = X2_choose_c45 n0 n1 n2 f))) ∨
    (GO f (fun a b c => WC f fl ba ori (spN a b c)) sp a.2.1 t ∧
      ((a.2.1 + 1 < n ∧ X3_seek_L26_B n0 n1 n2 bg lw md wt fl ba ori n f i a = none ∧ ∃ g0 g1 g2 r1 r2 r3, X3_seek_L26_F n0 n1 n2 bg lw md wt fl ba ori n f i a = (a.1 + 1, a.2.1 + 1, X3_enter_c46 (upd a.2.2.1 a.2.1 (nI t)) (a.2.1 + 1), g0, g1, g2, r1, r2, r3) ∧ ∀ j, j ≤ a.2.1 + 1 → FAC f fl ba ori (fun k => if k = a.2.1 then t else sp k) g0 g1 g2 j) ∨
       (a.2.1 + 1 = n ∧ ∃ bc : SCB, X3_seek_L26_B n0 n1 n2 bg lw md wt fl ba ori n f i a = some bc ∧ bc.1 = nI 1 ∧ bc.2.1 = 1 ∧ bc.2.2.1 = a.1 + 1 ∧ bc.2.2.2.1 = X2_choose_p41_0 n0 n1 n2 f ∧ bc.2.2.2.2.1 = X2_choose_p41_1 n0 n1 n2 f ∧ bc.2.2.2.2.2.1 = X2_choose_c43 n0 n1 n2 f ∧ bc.2.2.2.2.2.2.1 = X2_choose_c44 n0 n1 n2 f ∧ bc.2.2.2.2.2.2.2.1 = X2_choose_c45 n0 n1 n2 f ∧ bc.2.2.2.2.2.2.2.2.1 = upd a.2.2.1 a.2.1 (nI t)))) := by
  obtain ⟨c0, c1, cN⟩ := choose_is hf n0 n1 n2
  have h183 := nPl_le hf
  have hgw := gw_all fl ba ori (nI f) bg lw md wt n
  have pos := nPl_pos f
  generalize hpt9 : a.2.1 = pt at *
  have hs1 : ∀ k, k < pt → upd a.2.2.1 pt (nI t) k = nI (sp k) ∧ sp k < nPl f := fun k hk => by
    unfold upd
    rw [if_neg (by omega)]
    exact hs k hk
  have hpp : upd a.2.2.1 pt (nI t) pt = nI t := by unfold upd; rw [if_pos rfl]
  have G := cls_goes (fl := fl) (ba := ba) (ori := ori) hf ho hpt cN htl hs1 hpp (hF pt (Nat.le_refl _)) (fun w q hq => (hgw.2 w q hq).2.2)
  rcases G with ⟨g, hg⟩ | ⟨g, hg⟩
  · refine Or.inr ⟨hg, ?_⟩
    have nz : ¬ nI 1 = 0 := by decide
    by_cases c : pt + 1 < n
    · refine Or.inl ⟨c, ?_⟩
      have lt1 : nI (pt + 1) < nI n := nI_lt c (by omega)
      have hs2 : ∀ k, k < pt + 1 → X3_enter_c46 (upd a.2.2.1 pt (nI t)) (pt + 1) k = nI (if k = pt then t else sp k) ∧ (if k = pt then t else sp k) < nPl f := fun k hk => by
        rw [enter_pl, if_neg (by omega)]
        by_cases e : k = pt
        · subst e
          rw [hpp, if_pos rfl]
          exact ⟨rfl, htl⟩
        · rw [if_neg e]
          exact hs1 k (by omega)
      have ec : (zfoldX (X3_seek_L86v2_B n0 n1 n2 f pt a.2.2.1) (X3_seek_L86v2_F n0 n1 n2 f pt a.2.2.1) (pt + 1 + 1) 0 ()).1 = 0 := by
        have eB : X3_seek_L86v2_B n0 n1 n2 f pt a.2.2.1 0 () = some () := by
          unfold X3_seek_L86v2_B
          rw [ht, show pt + 1 + 1 - 0 - 1 = pt + 1 by omega, enter_pl, if_pos rfl, c1, if_pos (show (-1 : Int32) + nI 1 < nI (nPl f) from nI_lt (a := 0) pos (by omega))]
        simp only [zfoldX, eB]
      have ge : (0 : Int32) ≤ nI (pt + 1 + 1 - 0) - nI 1 := by
        rw [zq_sub rfl rfl (by omega)]
        exact nI_pos' (by omega)
      have P := prep_is (fl := fl) (ba := ba) (ori := ori) hf (f0 := a.2.2.2.1) (f1 := a.2.2.2.2.1) (f2 := a.2.2.2.2.2.1) (p1 := a.2.2.2.2.2.2.1) (p2 := a.2.2.2.2.2.2.2.1) (l1 := a.2.2.2.2.2.2.2.2) c cN hs2 (fun w q hq => ⟨(hgw.2 w q hq).1, (hgw.2 w q hq).2.1⟩) hn
      refine ⟨?_, X3_enter_c52 (nI f) (X2_choose_c43 n0 n1 n2 f) (X2_choose_c44 n0 n1 n2 f) (X2_choose_c45 n0 n1 n2 f) a.2.2.2.1 a.2.2.2.2.1 a.2.2.2.2.2.1 (upd a.2.2.1 pt (nI t)) (X3_gatherWants_c48 (nI f) bg lw md wt fl ba ori n) (X3_gatherWants_c49 (nI f) bg lw md wt fl ba ori n) a.2.2.2.2.2.2.1 a.2.2.2.2.2.2.2.1 a.2.2.2.2.2.2.2.2 (pt + 1) (gwB fl ba ori), X3_enter_c53 (nI f) (X2_choose_c43 n0 n1 n2 f) (X2_choose_c44 n0 n1 n2 f) (X2_choose_c45 n0 n1 n2 f) a.2.2.2.1 a.2.2.2.2.1 a.2.2.2.2.2.1 (upd a.2.2.1 pt (nI t)) (X3_gatherWants_c48 (nI f) bg lw md wt fl ba ori n) (X3_gatherWants_c49 (nI f) bg lw md wt fl ba ori n) a.2.2.2.2.2.2.1 a.2.2.2.2.2.2.2.1 a.2.2.2.2.2.2.2.2 (pt + 1) (gwB fl ba ori), X3_enter_c54 (nI f) (X2_choose_c43 n0 n1 n2 f) (X2_choose_c44 n0 n1 n2 f) (X2_choose_c45 n0 n1 n2 f) a.2.2.2.1 a.2.2.2.2.1 a.2.2.2.2.2.1 (upd a.2.2.1 pt (nI t)) (X3_gatherWants_c48 (nI f) bg lw md wt fl ba ori n) (X3_gatherWants_c49 (nI f) bg lw md wt fl ba ori n) a.2.2.2.2.2.2.1 a.2.2.2.2.2.2.2.1 a.2.2.2.2.2.2.2.2 (pt + 1) (gwB fl ba ori), X3_enter_c55 (nI f) (X2_choose_c43 n0 n1 n2 f) (X2_choose_c44 n0 n1 n2 f) (X2_choose_c45 n0 n1 n2 f) a.2.2.2.1 a.2.2.2.2.1 a.2.2.2.2.2.1 (upd a.2.2.1 pt (nI t)) (X3_gatherWants_c48 (nI f) bg lw md wt fl ba ori n) (X3_gatherWants_c49 (nI f) bg lw md wt fl ba ori n) a.2.2.2.2.2.2.1 a.2.2.2.2.2.2.2.1 a.2.2.2.2.2.2.2.2 (pt + 1) (gwB fl ba ori), X3_enter_c56 (nI f) (X2_choose_c43 n0 n1 n2 f) (X2_choose_c44 n0 n1 n2 f) (X2_choose_c45 n0 n1 n2 f) a.2.2.2.1 a.2.2.2.2.1 a.2.2.2.2.2.1 (upd a.2.2.1 pt (nI t)) (X3_gatherWants_c48 (nI f) bg lw md wt fl ba ori n) (X3_gatherWants_c49 (nI f) bg lw md wt fl ba ori n) a.2.2.2.2.2.2.1 a.2.2.2.2.2.2.2.1 a.2.2.2.2.2.2.2.2 (pt + 1) (gwB fl ba ori), X3_enter_c57 (nI f) (X2_choose_c43 n0 n1 n2 f) (X2_choose_c44 n0 n1 n2 f) (X2_choose_c45 n0 n1 n2 f) a.2.2.2.1 a.2.2.2.2.1 a.2.2.2.2.2.1 (upd a.2.2.1 pt (nI t)) (X3_gatherWants_c48 (nI f) bg lw md wt fl ba ori n) (X3_gatherWants_c49 (nI f) bg lw md wt fl ba ori n) a.2.2.2.2.2.2.1 a.2.2.2.2.2.2.2.1 a.2.2.2.2.2.2.2.2 (pt + 1) (gwB fl ba ori), ?_, ?_⟩
      · unfold X3_seek_L26_B
        rw [hpt9, ht, c0, g, if_neg nz, if_pos lt1]
        simp only [zlet, ec]
        rw [if_pos ge]
      · unfold X3_seek_L26_F
        rw [hpt9, ht, c0, g, if_neg nz, if_pos lt1]
        simp only [zlet, ec]
        rw [if_pos ge, show pt + 1 + 1 - 0 - 1 = pt + 1 by omega]
      · intro j hj
        by_cases e : j = pt + 1
        · subst e
          exact P.1
        · refine FAC_ext (hF j (by omega)) (fun k hk => (if_neg (by omega)).symm) (fun w hw => P.2 w (Nat.lt_of_lt_of_le hw (gwB_mono fl ba ori (by omega))))
    · refine Or.inr ⟨by omega, ?_⟩
      have nlt : ¬ nI (pt + 1) < nI n := nI_nlt (by omega) (by omega)
      unfold X3_seek_L26_B
      rw [hpt9, ht, c0, g, if_neg nz, if_neg nlt]
      exact ⟨_, rfl, rfl, rfl, rfl, rfl, rfl, rfl, rfl, rfl, rfl⟩
  · refine Or.inl ⟨hg, ?_⟩
    obtain ⟨c, hc, ec, p1, p2⟩ := popX (P := fun k => (if k = pt then t + 1 else sp k + 1) < nPl f) (B := X3_seek_L86_B n0 n1 n2 f pt a.2.2.1) (F := X3_seek_L86_F n0 n1 n2 f pt a.2.2.1) (pc := pt + 1) (fun c hc => by
      have e0 : pt + 1 - c - 1 = pt - c := by omega
      have tl : (if pt - c = pt then t + 1 else sp (pt - c) + 1) ≤ nPl f := by
        by_cases e : pt - c = pt
        · rw [if_pos e]; omega
        · rw [if_neg e]
          have := (hs (pt - c) (by omega)).2
          omega
      have e1 : upd a.2.2.1 pt (nI t) (pt - c) + nI 1 = nI (if pt - c = pt then t + 1 else sp (pt - c) + 1) := by
        by_cases e : pt - c = pt
        · rw [if_pos e, e, hpp, nI_add]
        · rw [if_neg e, (hs1 (pt - c) (by omega)).1, nI_add]
      unfold X3_seek_L86_B
      rw [ht, e0, e1, c1]
      by_cases e : (if pt - c = pt then t + 1 else sp (pt - c) + 1) < nPl f
      · rw [if_pos (nI_lt e (by omega))]
        exact Or.inl ⟨rfl, e⟩
      · rw [if_neg (nI_nlt (by omega) (by omega))]
        exact Or.inr ⟨rfl, e⟩) (pt + 1) 0 (by omega) (fun j hj => absurd hj (Nat.not_lt_zero j))
    refine ⟨c, hc, fun j hj => ?_, fun h => ?_, ?_⟩
    · have q := p1 j hj
      rw [show pt + 1 - j - 1 = pt - j by omega] at q
      have tl : (if pt - j = pt then t + 1 else sp (pt - j) + 1) ≤ nPl f := by
        by_cases e : pt - j = pt
        · rw [if_pos e]; omega
        · rw [if_neg e]
          have := (hs (pt - j) (by omega)).2
          omega
      omega
    · have q := p2 h
      rw [show pt + 1 - c - 1 = pt - c by omega] at q
      exact q
    · have nz : nI 0 = 0 := rfl
      by_cases e : c < pt + 1
      · have ge : (0 : Int32) ≤ nI (pt + 1 - c) - nI 1 := by
          rw [zq_sub rfl rfl (by omega)]
          exact nI_pos' (by omega)
        refine Or.inl ⟨e, ?_, ?_⟩
        · unfold X3_seek_L26_B
          rw [hpt9, ht, c0, g, if_pos nz]
          simp only [zlet, ec]
          rw [if_pos ge]
        · unfold X3_seek_L26_F
          rw [hpt9, ht, c0, g, if_pos nz]
          simp only [zlet, ec]
          rw [if_pos ge, show pt + 1 - c - 1 = pt - c by omega]
      · have e2 : c = pt + 1 := by omega
        have lt : ¬ (0 : Int32) ≤ nI (pt + 1 - c) - nI 1 := by
          rw [e2, Nat.sub_self]
          decide
        refine Or.inr ⟨e2, ?_⟩
        unfold X3_seek_L26_B
        rw [hpt9, ht, c0, g, if_pos nz]
        simp only [zlet, ec]
        rw [if_neg lt]
        exact ⟨_, rfl, rfl, rfl, rfl, rfl, rfl, rfl, rfl, rfl⟩
variable {laid fld : Int32} {fs sc th wn po : Nat → Int32} {lim : Nat}
theorem ref_pop (hf : FLD f) : ∀ (c D t : Nat) (b : RA), c ≤ b.2.1 → b.2.1 ≤ 20 → (∀ j, j < c → b.2.2.1 (b.2.1 - j - 1) = nI (nPl f)) → zfoldB (X7_realise_L70_B n lns brs ors fld laid lm bm om os fs sc th wn po (nI f) (nI lim)) (X7_realise_L70_F n lns brs ors laid lm bm om os fs sc th wn (nI f) (nI lim)) (D + c) t b = zfoldB (X7_realise_L70_B n lns brs ors fld laid lm bm om os fs sc th wn po (nI f) (nI lim)) (X7_realise_L70_F n lns brs ors laid lm bm om os fs sc th wn (nI f) (nI lim)) D (t + c) (b.1, b.2.1 - c, b.2.2.1, b.2.2.2) := by
  have hb := FLD_b hf
  intro c
  induction c with
  | zero => intro D t b _ _ _; rfl
  | succ c ih =>
    intro D t b h1 h3 h2
    have e0 : ¬ nI b.2.1 - nI 1 < 0 := by
      rw [zq_sub rfl rfl (by omega)]
      exact nI_pos (by omega)
    have e1 : b.2.2.1 (b.2.1 - 1) = nI (nPl f) := h2 0 (by omega)
    have eB : X7_realise_L70_B n lns brs ors fld laid lm bm om os fs sc th wn po (nI f) (nI lim) t b = none := by
      unfold X7_realise_L70_B
      rw [if_neg e0, nI_clamp (show f < 2 ^ 31 by omega), nPl_ref hf, if_pos e1]
    have eF : X7_realise_L70_F n lns brs ors laid lm bm om os fs sc th wn (nI f) (nI lim) t b = (b.1, b.2.1 - 1, b.2.2.1, b.2.2.2) := by
      unfold X7_realise_L70_F
      rw [if_neg e0, nI_clamp (show f < 2 ^ 31 by omega), nPl_ref hf, if_pos e1]
    rw [← Nat.add_assoc]
    simp only [zfoldB, eB, eF]
    rw [ih D (t + 1) _ (by show c ≤ b.2.1 - 1; omega) (by show b.2.1 - 1 ≤ 20; omega) (fun j hj => by
      show b.2.2.1 (b.2.1 - 1 - j - 1) = _
      rw [show b.2.1 - 1 - j - 1 = b.2.1 - (j + 1) - 1 by omega]
      exact h2 (j + 1) (by omega))]
    show zfoldB _ _ D (t + 1 + c) (b.1, b.2.1 - 1 - c, b.2.2.1, b.2.2.2) = _
    rw [show t + 1 + c = t + (c + 1) by omega, show b.2.1 - 1 - c = b.2.1 - (c + 1) by omega]
end SK
