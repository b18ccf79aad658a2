/-! ===== realise, coordinate, check: alike in both ===== -/
/-- the search and its picture, both sides -/
def SRC (n : Nat) (fnd : Int32) (fd : Nat) (n0 n1 n2 plc : Nat → Int32) (hasP fld laid : Int32) (fs sc th po : Nat → Int32) : Prop :=
  fnd = hasP ∧ FLD fd ∧ (∃ fr, FLD fr ∧ fld = nI fr) ∧ LAID laid fs sc th ∧ (¬ fnd = 0 → fld = nI fd ∧ NUM fd n0 n1 n2 (nPl fd) ∧ (∀ k, k < n → plc k = po k ∧ ∃ s, s < nPl fd ∧ po k = nI s) ∧ ∀ x y, x < y → y < n → ¬ po x = po y)
section RL
variable {f n lns brs ors : Nat} {fl ba ori lm bm om os : Nat → Int32} {n0 n1 n2 f0 f1 f2 plc bg lw md wt p1 p2 l1 : Nat → Int32} {laid fld : Int32} {fs sc th wn po spo trs9 : Nat → Int32} {lim : Nat}
theorem real_go (hf : FLD f) (h1 : 1 ≤ n) (hn : n ≤ 10) (hT : TOLD n lns brs ors fl ba ori lm bm om os) (hL : LAID laid fs sc th) (hm : lim ≤ 20000) :
    SOUT f n n0 n1 n2 fld laid po fs sc th (zfoldB (X3_seek_L26_B n0 n1 n2 bg lw md wt fl ba ori n f) (X3_seek_L26_F n0 n1 n2 bg lw md wt fl ba ori n f) lim 0 (X3_forget_p40_1 , 0, X3_enter_c46 plc 0, X3_enter_c52 (nI (X2_choose_p41_0 n0 n1 n2 f)) (X2_choose_c43 n0 n1 n2 f) (X2_choose_c44 n0 n1 n2 f) (X2_choose_c45 n0 n1 n2 f) f0 f1 f2 plc (X3_gatherWants_c48 (nI (X2_choose_p41_0 n0 n1 n2 f)) bg lw md wt fl ba ori n) (X3_gatherWants_c49 (nI (X2_choose_p41_0 n0 n1 n2 f)) bg lw md wt fl ba ori n) p1 p2 l1 0 (gwB fl ba ori), X3_enter_c53 (nI (X2_choose_p41_0 n0 n1 n2 f)) (X2_choose_c43 n0 n1 n2 f) (X2_choose_c44 n0 n1 n2 f) (X2_choose_c45 n0 n1 n2 f) f0 f1 f2 plc (X3_gatherWants_c48 (nI (X2_choose_p41_0 n0 n1 n2 f)) bg lw md wt fl ba ori n) (X3_gatherWants_c49 (nI (X2_choose_p41_0 n0 n1 n2 f)) bg lw md wt fl ba ori n) p1 p2 l1 0 (gwB fl ba ori), X3_enter_c54 (nI (X2_choose_p41_0 n0 n1 n2 f)) (X2_choose_c43 n0 n1 n2 f) (X2_choose_c44 n0 n1 n2 f) (X2_choose_c45 n0 n1 n2 f) f0 f1 f2 plc (X3_gatherWants_c48 (nI (X2_choose_p41_0 n0 n1 n2 f)) bg lw md wt fl ba ori n) (X3_gatherWants_c49 (nI (X2_choose_p41_0 n0 n1 n2 f)) bg lw md wt fl ba ori n) p1 p2 l1 0 (gwB fl ba ori), X3_enter_c55 (nI (X2_choose_p41_0 n0 n1 n2 f)) (X2_choose_c43 n0 n1 n2 f) (X2_choose_c44 n0 n1 n2 f) (X2_choose_c45 n0 n1 n2 f) f0 f1 f2 plc (X3_gatherWants_c48 (nI (X2_choose_p41_0 n0 n1 n2 f)) bg lw md wt fl ba ori n) (X3_gatherWants_c49 (nI (X2_choose_p41_0 n0 n1 n2 f)) bg lw md wt fl ba ori n) p1 p2 l1 0 (gwB fl ba ori), X3_enter_c56 (nI (X2_choose_p41_0 n0 n1 n2 f)) (X2_choose_c43 n0 n1 n2 f) (X2_choose_c44 n0 n1 n2 f) (X2_choose_c45 n0 n1 n2 f) f0 f1 f2 plc (X3_gatherWants_c48 (nI (X2_choose_p41_0 n0 n1 n2 f)) bg lw md wt fl ba ori n) (X3_gatherWants_c49 (nI (X2_choose_p41_0 n0 n1 n2 f)) bg lw md wt fl ba ori n) p1 p2 l1 0 (gwB fl ba ori), X3_enter_c57 (nI (X2_choose_p41_0 n0 n1 n2 f)) (X2_choose_c43 n0 n1 n2 f) (X2_choose_c44 n0 n1 n2 f) (X2_choose_c45 n0 n1 n2 f) f0 f1 f2 plc (X3_gatherWants_c48 (nI (X2_choose_p41_0 n0 n1 n2 f)) bg lw md wt fl ba ori n) (X3_gatherWants_c49 (nI (X2_choose_p41_0 n0 n1 n2 f)) bg lw md wt fl ba ori n) p1 p2 l1 0 (gwB fl ba ori)))
      (zfoldB (X7_realise_L70_B n lns brs ors fld laid lm bm om os fs sc th wn po (nI f) (nI lim)) (X7_realise_L70_F n lns brs ors laid lm bm om os fs sc th wn (nI f) (nI lim)) (2 * lim + 2) 0 (0, 1, upd trs9 0 (nI 0), spo)) := by
  obtain ⟨c0, c1, cN⟩ := choose_is hf n0 n1 n2
  have hgw := gw_all fl ba ori (nI f) bg lw md wt n
  rw [c0]
  refine seek_sim hf hn hT hL hm lim 0 _ _ (by omega) ⟨rfl, rfl, by show 0 < n; omega, rfl, 0, fun _ => 0, fun k hk => absurd hk (Nat.not_lt_zero k), ?_, ?_, nPl_pos f, fun j hj => ?_, fun x y _ h => absurd h (Nat.not_lt_zero y)⟩ _ _ (by show 2 * lim + 1 + 1 ≤ 2 * lim + 2; omega)
  · show X3_enter_c46 plc 0 0 + nI 1 = nI 0
    rw [enter_pl, if_pos rfl]
    rfl
  · show upd trs9 0 (nI 0) 0 = nI 0
    unfold upd
    rw [if_pos rfl]
  · have hj' : j ≤ 0 := hj
    have e : j = 0 := by omega
    subst e
    have P := prep_is (fl := fl) (ba := ba) (ori := ori) (f0 := f0) (f1 := f1) (f2 := f2) (plc := upd plc 0 (-1)) (p1 := p1) (p2 := p2) (l1 := l1) (sp := fun _ => 0) (pt := 0) hf (show 0 < n by omega) cN (fun a ha => absurd ha (Nat.not_lt_zero a)) (fun w q hq => ⟨(hgw.2 w q hq).1, (hgw.2 w q hq).2.1⟩) hn
    exact P.1
theorem realise_same (hn : n ≤ 10) (hl : lns ≤ 12) (hnl : 1 ≤ lns → 1 ≤ n) (hT : TOLD n lns brs ors fl ba ori lm bm om os) {fnd hasP : Int32} {fd psz stp : Nat} (hst : stp ≤ 20000) (hS : SRC n fnd fd n0 n1 n2 plc hasP fld laid fs sc th po) (tps wds : Nat) (told : Int32) (rws : Nat) (cms : Int32) (cmT : Nat) (cmS isN : Int32) (trs : Nat) (F S : Int32) :
    X6_realise_v n lns fl ba ori n0 n1 n2 f0 f1 f2 plc bg lw md wt p1 p2 l1 F S = X7_realise_v tps n lns wds brs ors fld laid told rws cms cmT cmS isN trs lm bm om os fs sc th wn po spo trs9 F S ∧
    X7_realise_p76_0 tps n lns wds brs ors fld laid told rws cms cmT cmS isN trs lm bm om os fs sc th wn po spo trs9 F S = 0 ∧
    nI (X6_realise_p40_1 n lns fl ba ori stp n0 n1 n2 f0 f1 f2 plc bg lw md wt p1 p2 l1 F S) = X7_realise_p76_7 tps n lns wds brs ors (nI stp) fld laid told rws cms cmT cmS isN trs lm bm om os fs sc th wn po spo trs9 F S ∧
    X6_realise_p40_1 n lns fl ba ori stp n0 n1 n2 f0 f1 f2 plc bg lw md wt p1 p2 l1 F S ≤ 20000 ∧
    SRC n (X6_realise_p40_0 n lns fl ba ori fnd n0 n1 n2 f0 f1 f2 plc bg lw md wt p1 p2 l1 F S) (X6_realise_p41_0 n lns fl ba ori fd n0 n1 n2 f0 f1 f2 plc bg lw md wt p1 p2 l1 F S) (X6_realise_c43 n lns fl ba ori n0 n1 n2 f0 f1 f2 plc bg lw md wt p1 p2 l1 F S) (X6_realise_c44 n lns fl ba ori n0 n1 n2 f0 f1 f2 plc bg lw md wt p1 p2 l1 F S) (X6_realise_c45 n lns fl ba ori n0 n1 n2 f0 f1 f2 plc bg lw md wt p1 p2 l1 F S) (X6_realise_c46 n lns fl ba ori n0 n1 n2 f0 f1 f2 plc bg lw md wt p1 p2 l1 F S)
      (X7_realise_p76_8 tps n lns wds brs ors hasP fld laid told rws cms cmT cmS isN trs lm bm om os fs sc th wn po spo trs9 F S) (X7_realise_p76_9 tps n lns wds brs ors fld laid told rws cms cmT cmS isN trs lm bm om os fs sc th wn po spo trs9 F S) (X7_realise_p76_10 tps n lns wds brs ors fld laid told rws cms cmT cmS isN trs lm bm om os fs sc th wn po spo trs9 F S) (X7_realise_c92 tps n lns wds brs ors fld laid told rws cms cmT cmS isN trs lm bm om os fs sc th wn po spo trs9 F S) (X7_realise_c93 tps n lns wds brs ors fld laid told rws cms cmT cmS isN trs lm bm om os fs sc th wn po spo trs9 F S) (X7_realise_c94 tps n lns wds brs ors fld laid told rws cms cmT cmS isN trs lm bm om os fs sc th wn po spo trs9 F S) (X7_realise_c89 tps n lns wds brs ors fld laid told rws cms cmT cmS isN trs lm bm om os fs sc th wn po spo trs9 F S) := by
  unfold X6_realise_v X7_realise_v X7_realise_p76_0 X6_realise_p40_1 X7_realise_p76_7 X6_realise_p40_0 X6_realise_p41_0 X6_realise_c43 X6_realise_c44 X6_realise_c45 X6_realise_c46 X7_realise_p76_8 X7_realise_p76_9 X7_realise_p76_10 X7_realise_c92 X7_realise_c93 X7_realise_c94 X7_realise_c89
  have ev2B : ∀ F S, X7_realise_L70v2_B n lns brs ors fld laid lm bm om os fs sc th wn po F S = X7_realise_L70_B n lns brs ors fld laid lm bm om os fs sc th wn po F S := fun _ _ => rfl
  have ev2F : ∀ F S, X7_realise_L70v2_F n lns brs ors laid lm bm om os fs sc th wn F S = X7_realise_L70_F n lns brs ors laid lm bm om os fs sc th wn F S := fun _ _ => rfl
  simp only [ev2B, ev2F, isPr_iff]
  by_cases cS : S < nI 1 ∨ nI 20000 < S
  · have eS : X7_isIn_v S (nI 1) (nI 20000) = 0 := isIn_b.mpr cS
    simp only [if_pos eS]
    by_cases c1 : S < nI 1
    · simp only [if_pos c1, ite_self]
      exact ⟨trivial, trivial, trivial, hst, hS⟩
    · have c2 : ¬ S ≤ nI 20000 := Int32.not_le.mpr (cS.resolve_left c1)
      simp only [if_neg c1, if_neg c2, ite_self]
      exact ⟨trivial, trivial, trivial, hst, hS⟩
  · have s1 : ¬ S < nI 1 := fun q => cS (Or.inl q)
    have s2 : S ≤ nI 20000 := Int32.not_lt.mp (fun q => cS (Or.inr q))
    have eS : ¬ X7_isIn_v S (nI 1) (nI 20000) = 0 := fun q => cS (isIn_b.mp q)
    simp only [if_neg eS, if_neg s1, if_pos s2]
    by_cases cl : lns = 0
    · have el : nI lns = 0 := by rw [cl]; rfl
      simp only [if_pos el, ite_self]
      exact ⟨trivial, trivial, trivial, hst, hS⟩
    · have el : ¬ nI lns = 0 := nI_ne0 (by omega) (by omega)
      simp only [if_neg el]
      obtain ⟨lim, hlim, rfl⟩ := nI_of (x := S) (fun q => s1 (Int32.lt_trans q (by decide)))
      have hlim2 : lim ≤ 20000 := (nI_le31 (by omega) (by omega)).mp s2
      have clm : (nI lim).toNatClampNeg = lim := nI_clamp (by omega)
      have fin : ∀ f, FLD f → F = nI f →
        X3_seek_v n0 n1 n2 f0 f1 f2 plc bg lw md wt p1 p2 l1 fl ba ori n f lim = zpick (zfoldB (X7_realise_L70_B n lns brs ors fld laid lm bm om os fs sc th wn po (nI f) (nI lim)) (X7_realise_L70_F n lns brs ors laid lm bm om os fs sc th wn (nI f) (nI lim)) (2 * lim + 2) 0 (0, 1, upd trs9 0 (nI 0), spo)) (fun b => b.1) (fun _ => nI 0) ∧
        zpick (zfoldB (X7_realise_L70_B n lns brs ors fld laid lm bm om os fs sc th wn po (nI f) (nI lim)) (X7_realise_L70_F n lns brs ors laid lm bm om os fs sc th wn (nI f) (nI lim)) (2 * lim + 2) 0 (0, 1, upd trs9 0 (nI 0), spo)) (fun b => b.2.1) (fun _ => 0) = 0 ∧
        nI (X3_seek_p40_1 n0 n1 n2 f0 f1 f2 plc bg lw md wt p1 p2 l1 fl ba ori n f lim) = zpick (zfoldB (X7_realise_L70_B n lns brs ors fld laid lm bm om os fs sc th wn po (nI f) (nI lim)) (X7_realise_L70_F n lns brs ors laid lm bm om os fs sc th wn (nI f) (nI lim)) (2 * lim + 2) 0 (0, 1, upd trs9 0 (nI 0), spo)) (fun b => b.2.2.1) (fun am70 => nI am70.1) ∧
        X3_seek_p40_1 n0 n1 n2 f0 f1 f2 plc bg lw md wt p1 p2 l1 fl ba ori n f lim ≤ 20000 ∧
        SRC n (nI (X3_seek_p40_0 n0 n1 n2 f0 f1 f2 plc bg lw md wt p1 p2 l1 fl ba ori n f lim)) (X3_seek_p41_0 n0 n1 n2 f0 f1 f2 plc bg lw md wt p1 p2 l1 fl ba ori n f lim) (X3_seek_c43 n0 n1 n2 f0 f1 f2 plc bg lw md wt p1 p2 l1 fl ba ori n f lim) (X3_seek_c44 n0 n1 n2 f0 f1 f2 plc bg lw md wt p1 p2 l1 fl ba ori n f lim) (X3_seek_c45 n0 n1 n2 f0 f1 f2 plc bg lw md wt p1 p2 l1 fl ba ori n f lim) (X3_seek_c46 n0 n1 n2 f0 f1 f2 plc bg lw md wt p1 p2 l1 fl ba ori n f lim)
          (zpick (zfoldB (X7_realise_L70_B n lns brs ors fld laid lm bm om os fs sc th wn po (nI f) (nI lim)) (X7_realise_L70_F n lns brs ors laid lm bm om os fs sc th wn (nI f) (nI lim)) (2 * lim + 2) 0 (0, 1, upd trs9 0 (nI 0), spo)) (fun b => b.2.2.2.1) (fun am70 => nI 0))
          (zpick (zfoldB (X7_realise_L70_B n lns brs ors fld laid lm bm om os fs sc th wn po (nI f) (nI lim)) (X7_realise_L70_F n lns brs ors laid lm bm om os fs sc th wn (nI f) (nI lim)) (2 * lim + 2) 0 (0, 1, upd trs9 0 (nI 0), spo)) (fun b => b.2.2.2.2.1) (fun am70 => fld))
          (zpick (zfoldB (X7_realise_L70_B n lns brs ors fld laid lm bm om os fs sc th wn po (nI f) (nI lim)) (X7_realise_L70_F n lns brs ors laid lm bm om os fs sc th wn (nI f) (nI lim)) (2 * lim + 2) 0 (0, 1, upd trs9 0 (nI 0), spo)) (fun b => b.2.2.2.2.2.1) (fun am70 => nI (X7_layWants_p76_10 f)))
          (zpick (zfoldB (X7_realise_L70_B n lns brs ors fld laid lm bm om os fs sc th wn po (nI f) (nI lim)) (X7_realise_L70_F n lns brs ors laid lm bm om os fs sc th wn (nI f) (nI lim)) (2 * lim + 2) 0 (0, 1, upd trs9 0 (nI 0), spo)) (fun b => b.2.2.2.2.2.2.2.2.2.1) (fun am70 => X7_layWants_c92 laid fs sc th f))
          (zpick (zfoldB (X7_realise_L70_B n lns brs ors fld laid lm bm om os fs sc th wn po (nI f) (nI lim)) (X7_realise_L70_F n lns brs ors laid lm bm om os fs sc th wn (nI f) (nI lim)) (2 * lim + 2) 0 (0, 1, upd trs9 0 (nI 0), spo)) (fun b => b.2.2.2.2.2.2.2.2.2.2.1) (fun am70 => X7_layWants_c93 laid fs sc th f))
          (zpick (zfoldB (X7_realise_L70_B n lns brs ors fld laid lm bm om os fs sc th wn po (nI f) (nI lim)) (X7_realise_L70_F n lns brs ors laid lm bm om os fs sc th wn (nI f) (nI lim)) (2 * lim + 2) 0 (0, 1, upd trs9 0 (nI 0), spo)) (fun b => b.2.2.2.2.2.2.2.2.2.2.2.1) (fun am70 => X7_layWants_c94 laid fs sc th f))
          (zpick (zfoldB (X7_realise_L70_B n lns brs ors fld laid lm bm om os fs sc th wn po (nI f) (nI lim)) (X7_realise_L70_F n lns brs ors laid lm bm om os fs sc th wn (nI f) (nI lim)) (2 * lim + 2) 0 (0, 1, upd trs9 0 (nI 0), spo)) (fun b => b.2.2.2.2.2.2.1) (fun am70 => po)) := by
        intro f hf hF
        obtain ⟨br, z, ey, o1, o2, o3, o4, o5, o6, o7, o8, o9, o10, o11, o12, o13⟩ := real_go (lns := lns) (brs := brs) (ors := ors) (lm := lm) (bm := bm) (om := om) (os := os) (n0 := n0) (n1 := n1) (n2 := n2) (f0 := f0) (f1 := f1) (f2 := f2) (plc := plc) (bg := bg) (lw := lw) (md := md) (wt := wt) (p1 := p1) (p2 := p2) (l1 := l1) (laid := laid) (fld := fld) (fs := fs) (sc := sc) (th := th) (wn := wn) (po := po) (spo := spo) (trs9 := trs9) (lim := lim) hf (hnl (by omega)) hn hT hS.2.2.2.1 hlim2
        rw [ey]
        unfold X3_seek_v X3_seek_p40_1 X3_seek_p40_0 X3_seek_p41_0 X3_seek_c43 X3_seek_c44 X3_seek_c45 X3_seek_c46
        generalize zfoldB (X3_seek_L26_B n0 n1 n2 bg lw md wt fl ba ori n f) (X3_seek_L26_F n0 n1 n2 bg lw md wt fl ba ori n f) lim 0 _ = x at o1 o3 o4 o9 o10 o11 o12 o13 ⊢
        refine ⟨o1, o2, o3, o9, o4, ?_, ?_, ?_, ?_⟩
        · have e : zpick x (fun b => b.2.2.2.1) (fun _ => X2_choose_p41_0 n0 n1 n2 f) = f := o10
          show FLD (zpick x (fun b => b.2.2.2.1) (fun _ => X2_choose_p41_0 n0 n1 n2 f))
          rw [e]
          exact hf
        · rcases o13 with ⟨-, u, -⟩ | ⟨-, u, -⟩
          · obtain ⟨fr, w1, w2⟩ := hS.2.2.1
            exact ⟨fr, w1, (show br.2.2.2.2.1 = fld from u).trans w2⟩
          · exact ⟨f, hf, u⟩
        · refine Or.inr ⟨f, hf, o5, ?_⟩
          show NUM f br.2.2.2.2.2.2.2.2.2.1 br.2.2.2.2.2.2.2.2.2.2.1 br.2.2.2.2.2.2.2.2.2.2.2.1 (nPl f)
          rw [o6, o7, o8]
          exact layField_is hf hS.2.2.2.1
        · intro nf
          rcases o13 with ⟨u, -⟩ | ⟨-, u, v⟩
          · exact absurd (show nI (zpick x (fun b => b.2.1) (fun _ => 0)) = 0 by rw [u]; rfl) nf
          · have e : zpick x (fun b => b.2.2.2.1) (fun _ => X2_choose_p41_0 n0 n1 n2 f) = f := o10
            show br.2.2.2.2.1 = nI (zpick x (fun b => b.2.2.2.1) (fun _ => X2_choose_p41_0 n0 n1 n2 f)) ∧ NUM (zpick x (fun b => b.2.2.2.1) (fun _ => X2_choose_p41_0 n0 n1 n2 f)) _ _ _ (nPl (zpick x (fun b => b.2.2.2.1) (fun _ => X2_choose_p41_0 n0 n1 n2 f))) ∧ (∀ k, k < n → _ ∧ ∃ s, s < nPl (zpick x (fun b => b.2.2.2.1) (fun _ => X2_choose_p41_0 n0 n1 n2 f)) ∧ _) ∧ _
            rw [e]
            exact ⟨u, o12, v⟩
      by_cases cF : F = 0
      · have hF0 : F = nI 0 := cF
        have z0 : nI 0 = (0 : Int32) := rfl
        subst hF0
        simp only [if_pos z0, clm, show (nI 0).toNatClampNeg = 0 from rfl]
        exact fin 0 (Or.inl rfl) rfl
      · by_cases cP : X7_isPrime_v F = 0
        · simp only [if_neg cF, if_pos cP]
          exact ⟨trivial, trivial, trivial, hst, hS⟩
        · obtain ⟨q, hq, rfl⟩ := isPr_PR cP
          have := PR_b hq
          simp only [if_neg cF, if_neg cP, clm, nI_clamp (show q < 2 ^ 31 by omega)]
          exact fin q (Or.inr hq) rfl
end RL
