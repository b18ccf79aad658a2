/-! ===== realise, alike in both ===== -/
def SOUT (f n : Nat) (n0 n1 n2 : Nat → Int32) (fld laid : Int32) (po fs sc th : Nat → Int32) (x : Option SCB × SA) (y : Option SRB × RA) : Prop :=
  ∃ (br : SRB) (z : RA), y = (some br, z) ∧ zpick x (fun b => b.1) (fun _ => nI 2) = br.1 ∧ br.2.1 = 0 ∧ nI (zpick x (fun b => b.2.2.1) (fun a => a.1)) = br.2.2.1 ∧ nI (zpick x (fun b => b.2.1) (fun _ => 0)) = br.2.2.2.1 ∧ br.2.2.2.2.2.1 = nI f ∧
    br.2.2.2.2.2.2.2.2.2.1 = X7_layField_c92 laid fs sc th f ∧ br.2.2.2.2.2.2.2.2.2.2.1 = X7_layField_c93 laid fs sc th f ∧ br.2.2.2.2.2.2.2.2.2.2.2.1 = X7_layField_c94 laid fs sc th f ∧
    zpick x (fun b => b.2.2.1) (fun a => a.1) ≤ 20000 ∧
    zpick x (fun b => b.2.2.2.1) (fun _ => X2_choose_p41_0 n0 n1 n2 f) = f ∧ zpick x (fun b => b.2.2.2.2.1) (fun _ => X2_choose_p41_1 n0 n1 n2 f) = nPl f ∧
    NUM f (zpick x (fun b => b.2.2.2.2.2.1) (fun _ => X2_choose_c43 n0 n1 n2 f)) (zpick x (fun b => b.2.2.2.2.2.2.1) (fun _ => X2_choose_c44 n0 n1 n2 f)) (zpick x (fun b => b.2.2.2.2.2.2.2.1) (fun _ => X2_choose_c45 n0 n1 n2 f)) (nPl f) ∧
    ((zpick x (fun b => b.2.1) (fun _ => 0) = 0 ∧ br.2.2.2.2.1 = fld ∧ br.2.2.2.2.2.2.1 = po) ∨
     (zpick x (fun b => b.2.1) (fun _ => 0) = 1 ∧ br.2.2.2.2.1 = nI f ∧ (∀ k, k < n → zpick x (fun b => b.2.2.2.2.2.2.2.2.1) (fun a => a.2.2.1) k = br.2.2.2.2.2.2.1 k ∧ ∃ s, s < nPl f ∧ br.2.2.2.2.2.2.1 k = nI s) ∧ ∀ x y, x < y → y < n → ¬ br.2.2.2.2.2.2.1 x = br.2.2.2.2.2.2.1 y))
theorem found_at {n : Nat} {po spo : Nat → Int32} : ∀ k, k < n → X7_found_c89 n po spo k = spo k := by
  intro k hk
  have e := put_fold (G := spo) n 0 po k
  rw [if_pos ⟨Nat.zero_le _, by omega⟩] at e
  exact e
section SS
variable {f n lns brs ors : Nat} {fl ba ori lm bm om os : Nat → Int32} {n0 n1 n2 bg lw md wt : Nat → Int32} {laid fld : Int32} {fs sc th wn po : Nat → Int32} {lim : Nat}
theorem seek_sim (hf : FLD f) (hn : n ≤ 10) (hT : TOLD n lns brs ors fl ba ori lm bm om os) (hL : LAID laid fs sc th) (hm : lim ≤ 20000) : ∀ (d i : Nat) (a : SA) (b : RA), i + d = lim → SREL f n fl ba ori i a b → ∀ D t, 2 * d + b.2.1 + 1 ≤ D →
    SOUT f n n0 n1 n2 fld laid po fs sc th (zfoldB (X3_seek_L26_B n0 n1 n2 bg lw md wt fl ba ori n f) (X3_seek_L26_F n0 n1 n2 bg lw md wt fl ba ori n f) d i a) (zfoldB (X7_realise_L70_B n lns brs ors fld laid lm bm om os fs sc th wn po (nI f) (nI lim)) (X7_realise_L70_F n lns brs ors laid lm bm om os fs sc th wn (nI f) (nI lim)) D t b) := by
  have hb := FLD_b hf
  have h183 := nPl_le hf
  obtain ⟨c0, c1, cN⟩ := choose_is hf n0 n1 n2
  have lN : NUM f (X7_layWants_c92 laid fs sc th f) (X7_layWants_c93 laid fs sc th f) (X7_layWants_c94 laid fs sc th f) (nPl f) := layField_is hf hL
  have clf : (nI f).toNatClampNeg = f := nI_clamp (by omega)
  have clm : (nI lim).toNatClampNeg = lim := nI_clamp (by omega)
  intro d
  induction d with
  | zero =>
    intro i a b hi hR D t hD
    obtain ⟨r1, r2, r3, r4, t0, sp, r5, r6, r7, r8, r9, r10⟩ := hR
    obtain ⟨D', rfl⟩ : ∃ D', D = D' + 1 := ⟨D - 1, by omega⟩
    have e0 : ¬ nI b.2.1 - nI 1 < 0 := by
      rw [zq_sub rfl rfl (by omega)]
      exact nI_pos (by omega)
    have e1 : ¬ b.2.2.1 (b.2.1 - 1) = nI (nPl f) := by
      rw [r4, Nat.add_sub_cancel, r7]
      exact fun q => by have := (nI_eq (by omega) (by omega)).mp q; omega
    have eB : X7_realise_L70_B n lns brs ors fld laid lm bm om os fs sc th wn po (nI f) (nI lim) t b = some (nI 2, 0, nI b.1, nI 0, fld, nI (X7_layWants_p76_10 f), po, b.2.2.1, b.2.2.2, X7_layWants_c92 laid fs sc th f, X7_layWants_c93 laid fs sc th f, X7_layWants_c94 laid fs sc th f, X7_layWants_c95 n lns brs ors lm bm om os wn f) := by
      unfold X7_realise_L70_B
      rw [if_neg e0, clf, clm, nPl_ref hf, if_neg e1, if_pos (show nI b.1 = nI lim by rw [r2, ← hi, Nat.add_zero])]
    simp only [zfoldB, eB]
    refine ⟨_, _, rfl, rfl, rfl, ?_, rfl, rfl, rfl, rfl, rfl, ?_, c0, c1, cN, Or.inl ⟨rfl, rfl, rfl⟩⟩
    · show nI a.1 = nI b.1
      rw [r1, r2]
    · show a.1 ≤ 20000
      omega
  | succ d ih =>
    intro i a b hi hR D t hD
    obtain ⟨r1, r2, r3, r4, t0, sp, r5, r6, r7, r8, r9, r10⟩ := hR
    obtain ⟨D', rfl⟩ : ∃ D', D = D' + 1 := ⟨D - 1, by omega⟩
    have e0 : ¬ nI b.2.1 - nI 1 < 0 := by
      rw [zq_sub rfl rfl (by omega)]
      exact nI_pos (by omega)
    have p0 : b.2.1 - 1 = a.2.1 := by omega
    have e1 : ¬ b.2.2.1 a.2.1 = nI (nPl f) := by
      rw [r7]
      exact fun q => by have := (nI_eq (by omega) (by omega)).mp q; omega
    have e2 : ¬ nI b.1 = nI lim := fun q => by have := (nI_eq (by omega) (by omega)).mp q; omega
    have G := ref_goes hf (W := fun a b c => WC f fl ba ori (spN a b c)) (fun _ _ _ => WC_le) (wn := X7_layWants_c95 n lns brs ors lm bm om os wn f) lN r8 (fun k hk => ⟨(r5 k hk).2.1, (r5 k hk).2.2.1⟩) (fun x y h1 h2 => wants_is (by omega) hn hT h1 h2 r3)
    have ct : (nI t0).toNatClampNeg = t0 := nI_clamp (by omega)
    rcases cls_step (n0 := n0) (n1 := n1) (n2 := n2) (bg := bg) (lw := lw) (md := md) (wt := wt) (i := i) hf hn hT.1 r3 (fun k hk => ⟨(r5 k hk).1, (r5 k hk).2.2.1⟩) r6 r8 r9 with ⟨ng, c, hc, q1, q2, q3⟩ | ⟨go, q3⟩
    · have g : X7_goes_v (X7_layWants_c92 laid fs sc th f) (X7_layWants_c93 laid fs sc th f) (X7_layWants_c94 laid fs sc th f) (X7_layWants_c95 n lns brs ors lm bm om os wn f) b.2.2.2 (nI f) a.2.1 t0 = 0 := by
        rcases G with ⟨g, h⟩ | ⟨g, h⟩
        · exact absurd h ng
        · exact g
      have eB : X7_realise_L70_B n lns brs ors fld laid lm bm om os fs sc th wn po (nI f) (nI lim) t b = none := by
        unfold X7_realise_L70_B
        rw [if_neg e0, clf, clm, nPl_ref hf, p0, if_neg e1, if_neg e2, r7, ct, if_pos g]
      have eF : X7_realise_L70_F n lns brs ors laid lm bm om os fs sc th wn (nI f) (nI lim) t b = (b.1 + 1, a.2.1 + 1, upd b.2.2.1 a.2.1 (nI (t0 + 1)), b.2.2.2) := by
        unfold X7_realise_L70_F
        rw [if_neg e0, clf, clm, nPl_ref hf, p0, if_neg e1, if_neg e2, r7, ct, if_pos g, nI_add]
      have tr : ∀ k, k ≤ a.2.1 → upd b.2.2.1 a.2.1 (nI (t0 + 1)) k = nI (if k = a.2.1 then t0 + 1 else sp k + 1) := fun k hk => by
        unfold upd
        by_cases e : k = a.2.1
        · rw [if_pos e, if_pos e]
        · rw [if_neg e, if_neg e]
          exact (r5 k (by omega)).2.2.2
      simp only [zfoldB, eB, eF]
      obtain ⟨D2, rfl⟩ : ∃ D2, D' = D2 + c := ⟨D' - c, by omega⟩
      rw [ref_pop hf c D2 (t + 1) _ hc (by show a.2.1 + 1 ≤ 20; omega) (fun j hj => by
        show upd b.2.2.1 a.2.1 (nI (t0 + 1)) (a.2.1 + 1 - j - 1) = _
        rw [show a.2.1 + 1 - j - 1 = a.2.1 - j by omega, tr _ (by omega), q1 j hj])]
      rcases q3 with ⟨q3, q4, q5⟩ | ⟨q3, bc, q4, q5⟩
      · simp only [q4, q5]
        refine ih (i + 1) (a.1 + 1, a.2.1 - c, upd a.2.2.1 a.2.1 (nI t0), a.2.2.2.1, a.2.2.2.2.1, a.2.2.2.2.2.1, a.2.2.2.2.2.2.1, a.2.2.2.2.2.2.2.1, a.2.2.2.2.2.2.2.2) (b.1 + 1, a.2.1 + 1 - c, upd b.2.2.1 a.2.1 (nI (t0 + 1)), b.2.2.2) (by omega) ⟨by show a.1 + 1 = i + 1; omega, by show b.1 + 1 = i + 1; omega, by show a.2.1 - c < n; omega, by show a.2.1 + 1 - c = a.2.1 - c + 1; omega, (if a.2.1 - c = a.2.1 then t0 + 1 else sp (a.2.1 - c) + 1), sp, fun k hk => ?_, ?_, ?_, q2 q3, fun j hj => r9 j (Nat.le_trans hj (Nat.sub_le _ _)), fun x y h1 h2 => r10 x y h1 (Nat.lt_of_lt_of_le h2 (Nat.sub_le _ _))⟩ D2 _ ?_
        · have hk' : k < a.2.1 - c := hk
          obtain ⟨u1, u2, u3, u4⟩ := r5 k (by omega)
          refine ⟨?_, u2, u3, ?_⟩
          · show upd a.2.2.1 a.2.1 (nI t0) k = _
            unfold upd
            rw [if_neg (by omega)]
            exact u1
          · show upd b.2.2.1 a.2.1 (nI (t0 + 1)) k = _
            rw [tr k (by omega), if_neg (by omega)]
        · show upd a.2.2.1 a.2.1 (nI t0) (a.2.1 - c) + nI 1 = _
          unfold upd
          by_cases e : a.2.1 - c = a.2.1
          · rw [if_pos e, if_pos e, nI_add]
          · rw [if_neg e, if_neg e, (r5 (a.2.1 - c) (by omega)).1, nI_add]
        · show upd b.2.2.1 a.2.1 (nI (t0 + 1)) (a.2.1 - c) = _
          exact tr _ (by omega)
        · show 2 * d + (a.2.1 + 1 - c) + 1 ≤ D2
          omega
      · obtain ⟨w1, w2, w3, w4, w5, w6, w7, w8⟩ := q5
        simp only [q4]
        obtain ⟨D3, rfl⟩ : ∃ D3, D2 = D3 + 1 := ⟨D2 - 1, by omega⟩
        have eB2 : X7_realise_L70_B n lns brs ors fld laid lm bm om os fs sc th wn po (nI f) (nI lim) (t + 1 + c) (b.1 + 1, a.2.1 + 1 - c, upd b.2.2.1 a.2.1 (nI (t0 + 1)), b.2.2.2) = some (nI 0, 0, nI (b.1 + 1), nI 0, fld, nI (X7_layWants_p76_10 f), po, upd b.2.2.1 a.2.1 (nI (t0 + 1)), b.2.2.2, X7_layWants_c92 laid fs sc th f, X7_layWants_c93 laid fs sc th f, X7_layWants_c94 laid fs sc th f, X7_layWants_c95 n lns brs ors lm bm om os wn f) := by
          unfold X7_realise_L70_B
          rw [if_pos (show nI (a.2.1 + 1 - c) - nI 1 < 0 by rw [q3, Nat.sub_self]; decide), clf]
        simp only [zfoldB, eB2]
        refine ⟨_, _, rfl, w1, rfl, ?_, ?_, rfl, rfl, rfl, rfl, ?_, ?_, ?_, ?_, Or.inl ⟨w2, rfl, rfl⟩⟩
        · show nI bc.2.2.1 = nI (b.1 + 1)
          rw [w3, r1, r2]
        · show nI bc.2.1 = nI 0
          rw [w2]
        · show bc.2.2.1 ≤ 20000
          omega
        · show bc.2.2.2.1 = f
          rw [w4, c0]
        · show bc.2.2.2.2.1 = nPl f
          rw [w5, c1]
        · show NUM f bc.2.2.2.2.2.1 bc.2.2.2.2.2.2.1 bc.2.2.2.2.2.2.2.1 (nPl f)
          rw [w6, w7, w8]
          exact cN
    · have g : ¬ X7_goes_v (X7_layWants_c92 laid fs sc th f) (X7_layWants_c93 laid fs sc th f) (X7_layWants_c94 laid fs sc th f) (X7_layWants_c95 n lns brs ors lm bm om os wn f) b.2.2.2 (nI f) a.2.1 t0 = 0 := by
        rcases G with ⟨g, h⟩ | ⟨g, h⟩
        · rw [g]
          decide
        · exact absurd go h
      rcases q3 with ⟨q3, q4, g0, g1, g2, s1, s2, s3, q5, q6⟩ | ⟨q3, bc, q4, q5⟩
      · have e3 : ¬ nI (a.2.1 + 1) = nI n := fun q => by have := (nI_eq (by omega) (by omega)).mp q; omega
        have eB : X7_realise_L70_B n lns brs ors fld laid lm bm om os fs sc th wn po (nI f) (nI lim) t b = none := by
          unfold X7_realise_L70_B
          rw [if_neg e0, clf, clm, nPl_ref hf, p0, if_neg e1, if_neg e2, r7, ct, if_neg g, if_neg e3]
        have eF : X7_realise_L70_F n lns brs ors laid lm bm om os fs sc th wn (nI f) (nI lim) t b = (b.1 + 1, a.2.1 + 1 + 1, upd (upd b.2.2.1 a.2.1 (nI (t0 + 1))) (a.2.1 + 1) (nI 0), upd b.2.2.2 a.2.1 (nI t0)) := by
          unfold X7_realise_L70_F
          rw [if_neg e0, clf, clm, nPl_ref hf, p0, if_neg e1, if_neg e2, r7, ct, if_neg g, if_neg e3, nI_add]
        simp only [zfoldB, eB, eF, q4, q5]
        refine ih (i + 1) (a.1 + 1, a.2.1 + 1, X3_enter_c46 (upd a.2.2.1 a.2.1 (nI t0)) (a.2.1 + 1), g0, g1, g2, s1, s2, s3) (b.1 + 1, a.2.1 + 1 + 1, upd (upd b.2.2.1 a.2.1 (nI (t0 + 1))) (a.2.1 + 1) (nI 0), upd b.2.2.2 a.2.1 (nI t0)) (by omega) ⟨by show a.1 + 1 = i + 1; omega, by show b.1 + 1 = i + 1; omega, q3, rfl, 0, fun k => if k = a.2.1 then t0 else sp k, fun k hk => ?_, ?_, ?_, nPl_pos f, q6, fun x y h1 h2 => ?_⟩ D' _ (by show 2 * d + (a.2.1 + 1 + 1) + 1 ≤ D'; omega)
        · have hk' : k < a.2.1 + 1 := hk
          show X3_enter_c46 (upd a.2.2.1 a.2.1 (nI t0)) (a.2.1 + 1) k = nI (if k = a.2.1 then t0 else sp k) ∧ upd b.2.2.2 a.2.1 (nI t0) k = nI (if k = a.2.1 then t0 else sp k) ∧ (if k = a.2.1 then t0 else sp k) < nPl f ∧ upd (upd b.2.2.1 a.2.1 (nI (t0 + 1))) (a.2.1 + 1) (nI 0) k = nI ((if k = a.2.1 then t0 else sp k) + 1)
          rw [enter_pl, if_neg (show ¬ k = a.2.1 + 1 by omega)]
          unfold upd
          rw [if_neg (show ¬ k = a.2.1 + 1 by omega)]
          by_cases e : k = a.2.1
          · simp only [if_pos e]
            exact ⟨trivial, trivial, r8, trivial⟩
          · simp only [if_neg e]
            obtain ⟨u1, u2, u3, u4⟩ := r5 k (by omega)
            exact ⟨u1, u2, u3, u4⟩
        · show X3_enter_c46 (upd a.2.2.1 a.2.1 (nI t0)) (a.2.1 + 1) (a.2.1 + 1) + nI 1 = nI 0
          rw [enter_pl, if_pos rfl]
          rfl
        · show upd (upd b.2.2.1 a.2.1 (nI (t0 + 1))) (a.2.1 + 1) (nI 0) (a.2.1 + 1) = nI 0
          unfold upd
          rw [if_pos rfl]
        · have h2' : y < a.2.1 + 1 := h2
          show (if x = a.2.1 then t0 else sp x) ≠ (if y = a.2.1 then t0 else sp y)
          rw [if_neg (show ¬ x = a.2.1 by omega)]
          by_cases e : y = a.2.1
          · rw [if_pos e]
            exact (go x (by omega)).1
          · rw [if_neg e]
            exact r10 x y h1 (by omega)
      · obtain ⟨w1, w2, w3, w4, w5, w6, w7, w8, w9⟩ := q5
        have e3 : nI (a.2.1 + 1) = nI n := by rw [q3]
        have eB : X7_realise_L70_B n lns brs ors fld laid lm bm om os fs sc th wn po (nI f) (nI lim) t b = some (nI (X7_found_n), 0, nI (b.1 + 1), nI (X7_found_p76_8), X7_found_p76_9 (nI f), nI (X7_layWants_p76_10 f), X7_found_c89 n po (upd b.2.2.2 a.2.1 (nI t0)), upd b.2.2.1 a.2.1 (nI t0 + nI 1), upd b.2.2.2 a.2.1 (nI t0), X7_layWants_c92 laid fs sc th f, X7_layWants_c93 laid fs sc th f, X7_layWants_c94 laid fs sc th f, X7_layWants_c95 n lns brs ors lm bm om os wn f) := by
          unfold X7_realise_L70_B
          rw [if_neg e0, clf, clm, nPl_ref hf, p0, if_neg e1, if_neg e2, r7, ct, if_neg g, if_pos e3]
        simp only [zfoldB, eB, q4]
        refine ⟨_, _, rfl, w1, rfl, ?_, ?_, rfl, rfl, rfl, rfl, ?_, ?_, ?_, ?_, Or.inr ⟨w2, rfl, fun k hk => ?_, fun x y h1 h2 => ?_⟩⟩
        · show nI bc.2.2.1 = nI (b.1 + 1)
          rw [w3, r1, r2]
        · show nI bc.2.1 = nI 1
          rw [w2]
        · show bc.2.2.1 ≤ 20000
          omega
        · show bc.2.2.2.1 = f
          rw [w4, c0]
        · show bc.2.2.2.2.1 = nPl f
          rw [w5, c1]
        · show NUM f bc.2.2.2.2.2.1 bc.2.2.2.2.2.2.1 bc.2.2.2.2.2.2.2.1 (nPl f)
          rw [w6, w7, w8]
          exact cN
        · show bc.2.2.2.2.2.2.2.2.1 k = X7_found_c89 n po (upd b.2.2.2 a.2.1 (nI t0)) k ∧ ∃ s, s < nPl f ∧ X7_found_c89 n po (upd b.2.2.2 a.2.1 (nI t0)) k = nI s
          rw [w9, found_at k hk]
          unfold upd
          by_cases e : k = a.2.1
          · rw [if_pos e, if_pos e]
            exact ⟨rfl, t0, r8, rfl⟩
          · obtain ⟨u1, u2, u3, u4⟩ := r5 k (by omega)
            rw [if_neg e, if_neg e, u1, u2]
            exact ⟨rfl, sp k, u3, rfl⟩
        · show ¬ X7_found_c89 n po (upd b.2.2.2 a.2.1 (nI t0)) x = X7_found_c89 n po (upd b.2.2.2 a.2.1 (nI t0)) y
          rw [found_at x (by omega), found_at y h2]
          obtain ⟨u1, u2, u3, u4⟩ := r5 x (by omega)
          unfold upd
          rw [if_neg (show ¬ x = a.2.1 by omega), u2]
          by_cases e : y = a.2.1
          · rw [if_pos e]
            exact fun q => (go x (by omega)).1 ((nI_eq (by omega) (by omega)).mp q)
          · obtain ⟨v1, v2, v3, v4⟩ := r5 y (by omega)
            rw [if_neg e, v2]
            exact fun q => r10 x y h1 (by omega) ((nI_eq (by omega) (by omega)).mp q)
end SS
