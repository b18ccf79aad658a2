/-! ===== read, alike in both ===== -/
theorem MSK_uniq {m m' : Int32} {s : Nat} {x : Nat → Nat} (h : MSK m s x) (h' : MSK m' s x) : m = m' := by
  obtain ⟨Q, q1, q2, q3⟩ := h
  obtain ⟨P, p1, p2, p3⟩ := h'
  rw [q2, p2]
  congr 1
  apply Nat.eq_of_testBit_eq
  intro i
  cases c : Q.testBit i
  · cases d : P.testBit i
    · rfl
    · have := (q3 i).mpr ((p3 i).mp d)
      rw [c] at this
      cases this
  · exact ((p3 i).mpr ((q3 i).mp c)).symm
/-- a text, both sides -/
def TXT (n lns : Nat) (lo sz : Nat → Int32) (wd : Nat → Nat → Int32) (msk lo' ls lp lm : Nat → Int32) : Prop :=
  n ≤ 10 ∧ lns ≤ 12 ∧ (1 ≤ lns → 3 ≤ n) ∧ (∀ k, k < n → lo k = lo' k) ∧ ∀ l, l < lns → ∃ (s : Nat) (x : Nat → Nat), 3 ≤ s ∧ s ≤ 5 ∧ sz l = nI s ∧ ls l = nI s ∧ (∀ j, j < s → x j < n ∧ wd l j = nI (x j) ∧ lp (5 * l + j) = nI (x j)) ∧ (∀ j k, j < s → k < s → x j = x k → j = k) ∧ msk l = lm l ∧ MSK (msk l) s x
section RB
variable {t pts lns brs ors : Nat} {stp hasP fld laid told : Int32} {rws : Nat} {cms : Int32} {cmT : Nat} {cmS isN : Int32} {trs : Nat} {tp tq ws wl wm lo sz : Nat → Int32} {wd : Nat → Nat → Int32} {msk : Nat → Int32} {lo' pof ls lp lm : Nat → Int32}
theorem read_both (ht : ∀ k, k < t → tp k = tq k) (h80 : t ≤ 80) :
    (X7_readWords_p76_4 (nI 0) t pts lns brs ors stp hasP fld laid told rws cms cmT cmS isN trs tq ws wl wm ≤ 12 ∧
     (∀ k, k < X7_readWords_p76_4 (nI 0) t pts lns brs ors stp hasP fld laid told rws cms cmT cmS isN trs tq ws wl wm → vp_in (X7_readWords_c83 (nI 0) t pts lns brs ors stp hasP fld laid told rws cms cmT cmS isN trs tq ws wl wm k) 6) ∧
     (∀ k, k < X7_readWords_p76_4 (nI 0) t pts lns brs ors stp hasP fld laid told rws cms cmT cmS isN trs tq ws wl wm → ∀ j, j < (X7_readWords_c83 (nI 0) t pts lns brs ors stp hasP fld laid told rws cms cmT cmS isN trs tq ws wl wm k).toNatClampNeg → vp_in (X7_readWords_c84 (nI 0) t pts lns brs ors stp hasP fld laid told rws cms cmT cmS isN trs tq ws wl wm (5 * k + j)) 10)) ∧
    ((¬ X4_take_v tp lo sz wd msk t < 0 ∧ ¬ X7_readWords_v (nI 0) t pts lns brs ors stp hasP fld laid told rws cms cmT cmS isN trs tq ws wl wm = -4 ∧ X4_take_v tp lo sz wd msk t = X7_readWords_v (nI 0) t pts lns brs ors stp hasP fld laid told rws cms cmT cmS isN trs tq ws wl wm) ∨
     (X4_take_v tp lo sz wd msk t < 0 ∧ X7_readWords_v (nI 0) t pts lns brs ors stp hasP fld laid told rws cms cmT cmS isN trs tq ws wl wm = -4 ∧ 1 ≤ X4_take_pT0_1 tp lo sz wd msk t ∧
      X7_read_v t pts lns brs ors stp hasP fld laid told rws cms cmT cmS isN trs tq ws wl wm lo' pof ls lp lm = nI (X4_take_pT0_2 tp lo sz wd msk t) ∧ X7_read_p76_2 t pts lns brs ors stp hasP fld laid told rws cms cmT cmS isN trs tq ws wl wm lo' pof ls lp lm = X4_take_pT0_0 tp lo sz wd msk t ∧ X7_read_p76_3 t pts lns brs ors stp hasP fld laid told rws cms cmT cmS isN trs tq ws wl wm = X4_take_pT0_1 tp lo sz wd msk t ∧
      TXT (X4_take_pT0_0 tp lo sz wd msk t) (X4_take_pT0_1 tp lo sz wd msk t) (X4_take_cT1 tp lo sz wd msk t) (X4_take_cT2 tp lo sz wd msk t) (X4_take_cT4 tp lo sz wd msk t) (X4_take_cT16 tp lo sz wd msk t)
        (X7_read_c78 t pts lns brs ors stp hasP fld laid told rws cms cmT cmS isN trs tq ws wl wm lo' pof ls lp lm) (X7_read_c80 t pts lns brs ors stp hasP fld laid told rws cms cmT cmS isN trs tq ws wl wm lo' pof ls lp lm) (X7_read_c81 t pts lns brs ors stp hasP fld laid told rws cms cmT cmS isN trs tq ws wl wm lo' pof ls lp lm) (X7_read_c82 t pts lns brs ors stp hasP fld laid told rws cms cmT cmS isN trs tq ws wl wm lo' pof ls lp lm))) := by
  have vin : ∀ {x : Nat} {N : Nat}, x < N → N < 100 → vp_in (nI x) N := fun h hN => vp_in_nI h (by omega)
  have hyp : ∀ (a' : TA) (b' : TB), SIM a' b' → b'.1 ≤ 12 ∧ (∀ k, k < b'.1 → vp_in (b'.2.2.1 k) 6) ∧ ∀ k, k < b'.1 → ∀ j, j < (b'.2.2.1 k).toNatClampNeg → vp_in (b'.2.2.2.1 (5 * k + j)) 10 := by
    rintro a' b' ⟨wds, size, S, C, ⟨g1, g2, g3, g4, g5⟩, -, ⟨r1, r2⟩, -, -⟩
    rw [r1]
    refine ⟨g3, fun k hk => ?_, fun k hk j hj => ?_⟩
    · rw [(r2 k hk).1]
      exact vin (by have := (g4 k hk).2.1; omega) (by omega)
    · have s5 := (g4 k hk).2.1
      rw [(r2 k hk).1, nI_clamp (by omega)] at hj
      rw [(r2 k hk).2.1 j hj]
      exact vin (g2 _ ((g4 k hk).2.2.1 j hj)) (by omega)
  rcases bytes_same (t := t) ht t 0 (0, 0, 0, nI 0, lo, sz, wd, msk) (0, 0, ws, wl, wm) (by omega) SIM_0 with ⟨a', b', ea, eb, hs⟩ | ⟨x, a', b', k, hk, ea, eb, ex, hs⟩
  · have H := hyp a' b' hs
    obtain ⟨wds, size, S, C, ⟨g1, g2, g3, g4, g5⟩, ⟨c1, c2, c3, c4, c5⟩, ⟨r1, r2⟩, hb, ha⟩ := hs
    have s12 : size ≤ 5 := by
      rcases Nat.eq_zero_or_pos size with z | z
      · omega
      · obtain ⟨u1, u2, -⟩ := g5 z
        have := (g4 (wds - 1) (by omega)).2.1
        omega
    have e4 : X7_readWords_p76_4 (nI 0) t pts lns brs ors stp hasP fld laid told rws cms cmT cmS isN trs tq ws wl wm = b'.1 := by
      unfold X7_readWords_p76_4
      rw [eb]
      simp only [zpick, ite_self]
    have e83 : X7_readWords_c83 (nI 0) t pts lns brs ors stp hasP fld laid told rws cms cmT cmS isN trs tq ws wl wm = b'.2.2.1 := by
      unfold X7_readWords_c83
      rw [eb]
      simp only [zpick, ite_self]
    have e84 : X7_readWords_c84 (nI 0) t pts lns brs ors stp hasP fld laid told rws cms cmT cmS isN trs tq ws wl wm = b'.2.2.2.1 := by
      unfold X7_readWords_c84
      rw [eb]
      simp only [zpick, ite_self]
    refine ⟨by rw [e4, e83, e84]; exact H, ?_⟩
    have ev : X4_endsWord_v a'.2.1 a'.2.2.2.1 a'.2.2.2.2.2.1 = if size = 1 ∨ size = 2 then nI 0 else nI 1 := by
      unfold X4_endsWord_v
      rcases Nat.eq_zero_or_pos size with z | z
      · rw [ha, if_pos z, if_pos (show nI 0 = 0 from rfl), if_neg (show ¬ (size = 1 ∨ size = 2) by omega)]
      · obtain ⟨u1, u2, -⟩ := g5 z
        rw [ha, if_neg (show ¬ size = 0 by omega), if_neg (show ¬ nI 1 = 0 by decide), c2, (c5 (wds - 1) (by omega)).1, u2]
        by_cases q : size = 1 ∨ size = 2
        · rw [if_pos q, if_neg (nI_ge (by omega) (by omega))]
        · rw [if_neg q, if_pos (nI_le (by omega) (by omega))]
    have tv : X4_take_v tp lo sz wd msk t = if size = 1 ∨ size = 2 then nI t else if wds = 0 then nI t else -1 := by
      unfold X4_take_v
      rw [ea]
      simp only [zpick]
      rw [ev, c2]
      by_cases q : size = 1 ∨ size = 2
      · rw [if_pos q, if_pos q, if_pos (show nI 0 = 0 from rfl)]
      · rw [if_neg q, if_neg q, if_neg (show ¬ nI 1 = 0 by decide)]
        by_cases w0 : wds = 0
        · rw [if_pos w0, if_pos (show nI wds ≤ 0 by rw [w0]; decide)]
        · rw [if_neg w0, if_neg (nI_nle (by omega) (by omega))]
    have rv : X7_readWords_v (nI 0) t pts lns brs ors stp hasP fld laid told rws cms cmT cmS isN trs tq ws wl wm = if size = 1 ∨ size = 2 then nI t else if wds = 0 then nI t else -4 := by
      unfold X7_readWords_v
      rw [eb]
      simp only [zpick]
      rw [hb, r1]
      by_cases q1 : size = 1
      · rw [if_pos (show nI size = nI 1 by rw [q1]), if_pos (Or.inl q1)]
      · rw [if_neg (show ¬ nI size = nI 1 from fun u => q1 ((nI_eq (by omega) (by omega)).mp u))]
        by_cases q2 : size = 2
        · rw [if_pos (show nI size = nI 2 by rw [q2]), if_pos (Or.inr q2)]
        · rw [if_neg (show ¬ nI size = nI 2 from fun u => q2 ((nI_eq (by omega) (by omega)).mp u)), if_neg (show ¬ (size = 1 ∨ size = 2) by omega)]
          by_cases w0 : wds = 0
          · rw [if_pos (show nI wds = 0 by rw [w0]; rfl), if_pos w0]
          · rw [if_neg (nI_ne0 (by omega) (by omega)), if_neg w0]
    by_cases q : size = 1 ∨ size = 2
    · rw [if_pos q] at tv rv
      exact Or.inl ⟨by rw [tv]; exact nI_pos (by omega), by rw [rv]; exact nI_n4 (by omega), by rw [tv, rv]⟩
    · rw [if_neg q] at tv rv
      by_cases w0 : wds = 0
      · rw [if_pos w0] at tv rv
        exact Or.inl ⟨by rw [tv]; exact nI_pos (by omega), by rw [rv]; exact nI_n4 (by omega), by rw [tv, rv]⟩
      · rw [if_neg w0] at tv rv
        have s3 : ∀ w, w < wds → 3 ≤ S w := fun w hw => by
          rcases Nat.eq_zero_or_pos size with z | z
          · exact (g4 w hw).2.2.2.2 (Or.inr z)
          · by_cases e : w + 1 < wds
            · exact (g4 w hw).2.2.2.2 (Or.inl e)
            · obtain ⟨u1, u2, -⟩ := g5 z
              rw [show w = wds - 1 by omega, u2]
              omega
        have t0 : X4_take_pT0_0 tp lo sz wd msk t = (dW S C wds).length := by
          unfold X4_take_pT0_0
          rw [ea]
          simp only [zpick, ite_self]
          exact c1
        have t1 : X4_take_pT0_1 tp lo sz wd msk t = wds := by
          unfold X4_take_pT0_1
          rw [ea]
          simp only [zpick, ite_self]
          exact c2
        have t2 : X4_take_pT0_2 tp lo sz wd msk t = sm S wds := by
          unfold X4_take_pT0_2
          rw [ea]
          simp only [zpick, ite_self]
          exact c3
        have u1 : X4_take_cT1 tp lo sz wd msk t = a'.2.2.2.2.1 := by
          unfold X4_take_cT1
          rw [ea]
          simp only [zpick, ite_self]
        have u2 : X4_take_cT2 tp lo sz wd msk t = a'.2.2.2.2.2.1 := by
          unfold X4_take_cT2
          rw [ea]
          simp only [zpick, ite_self]
        have u4 : X4_take_cT4 tp lo sz wd msk t = a'.2.2.2.2.2.2.1 := by
          unfold X4_take_cT4
          rw [ea]
          simp only [zpick, ite_self]
        have u16 : X4_take_cT16 tp lo sz wd msk t = a'.2.2.2.2.2.2.2 := by
          unfold X4_take_cT16
          rw [ea]
          simp only [zpick, ite_self]
        have eL : X7_read_L65_F t pts lns brs ors stp hasP fld laid told rws cms cmT cmS isN trs tq ws wl wm = r65 b'.2.2.1 b'.2.2.2.1 := by
          funext w a
          rw [r65_eq, e83, e84]
        have hS : ∀ w, w < wds → 1 ≤ S w ∧ S w ≤ 5 := fun w hw => ⟨(g4 w hw).1, (g4 w hw).2.1⟩
        have hC : ∀ w, w < wds → ∀ j, j < S w → C w j < 10 := fun w hw j hj => g2 _ ((g4 w hw).2.2.1 j hj)
        have P := PQ1_all hS hC (ws := b'.2.2.1) (wl := b'.2.2.2.1) (fun w hw => (r2 w hw).1) (fun w hw i hi => (r2 w hw).2.1 i hi) (lo := lo') (pof := zfold (X7_read_L41_F) 10 0 pof) (ls := ls) (lp := lp) (lm := lm) (fun c hc => by
          have e : zfold (X7_read_L41_F) 10 0 pof c = _ := put_fold (G := fun _ => -4) 10 0 pof c
          rw [e, if_pos (by omega)])
        refine Or.inr ⟨by rw [tv]; decide, rv, by omega, ?_, ?_, ?_, ?_⟩
        · unfold X7_read_v
          rw [if_pos rv, eL, e4, r1, P.2.1, t2]
        · unfold X7_read_p76_2
          rw [if_pos rv, eL, e4, r1, P.1, t0]
        · unfold X7_read_p76_3
          rw [if_pos rv, e4, r1, t1]
        · unfold X7_read_c78 X7_read_c80 X7_read_c81 X7_read_c82
          rw [if_pos rv, if_pos rv, if_pos rv, if_pos rv, eL, e4, r1, t0, t1, u1, u2, u4, u16]
          generalize zfold (r65 b'.2.2.1 b'.2.2.2.1) wds 0 (0, 0, lo', zfold (X7_read_L41_F) 10 0 pof, ls, lp, lm) = r at P ⊢
          obtain ⟨p1, p2, p3, p4, p5⟩ := P
          refine ⟨nd_len g1 g2, g3, fun _ => ?_, fun k hk => ?_, fun l hl => ?_⟩
          · have w1 : 0 < wds := by omega
            have s30 := s3 0 w1
            obtain ⟨-, -, m3, m4, -⟩ := g4 0 w1
            have nd : [C 0 0, C 0 1, C 0 2].Nodup := by
              have n01 : C 0 0 ≠ C 0 1 := fun e => by have := m4 0 1 (by omega) (by omega) e; omega
              have n02 : C 0 0 ≠ C 0 2 := fun e => by have := m4 0 2 (by omega) (by omega) e; omega
              have n12 : C 0 1 ≠ C 0 2 := fun e => by have := m4 1 2 (by omega) (by omega) e; omega
              simp [n01, n02, n12]
            have := List.Nodup.length_le_of_subset nd (l₂ := dW S C wds) (fun x hx => by
              simp at hx
              rcases hx with e | e | e
              · rw [e]; exact m3 0 (by omega)
              · rw [e]; exact m3 1 (by omega)
              · rw [e]; exact m3 2 (by omega))
            exact this
          · have e : (dW S C wds)[k]? = some (dW S C wds)[k] := List.getElem?_eq_getElem hk
            rw [c4 k _ e, p3 k _ e]
          · obtain ⟨v1, v2, v3⟩ := c5 l hl
            obtain ⟨w1, w2, w3⟩ := p5 l hl
            obtain ⟨-, m2, m3, m4, -⟩ := g4 l hl
            refine ⟨S l, fun j => (dW S C wds).idxOf (C l j), s3 l hl, m2, v1, w1, fun j hj => ⟨idx_lt (m3 j hj), v2 j hj, w2 j hj⟩, fun j k hj hk e => m4 j k hj hk (idx_inj (m3 j hj) (m3 k hk) e), MSK_uniq v3 w3, v3⟩
  · have H := hyp a' b' hs
    have e4 : X7_readWords_p76_4 (nI 0) t pts lns brs ors stp hasP fld laid told rws cms cmT cmS isN trs tq ws wl wm = b'.1 := by
      unfold X7_readWords_p76_4
      rw [eb]
      rfl
    have e83 : X7_readWords_c83 (nI 0) t pts lns brs ors stp hasP fld laid told rws cms cmT cmS isN trs tq ws wl wm = b'.2.2.1 := by
      unfold X7_readWords_c83
      rw [eb]
      rfl
    have e84 : X7_readWords_c84 (nI 0) t pts lns brs ors stp hasP fld laid told rws cms cmT cmS isN trs tq ws wl wm = b'.2.2.2.1 := by
      unfold X7_readWords_c84
      rw [eb]
      rfl
    have tv : X4_take_v tp lo sz wd msk t = nI k := by
      unfold X4_take_v
      rw [ea]
      exact ex
    have rv : X7_readWords_v (nI 0) t pts lns brs ors stp hasP fld laid told rws cms cmT cmS isN trs tq ws wl wm = nI k := by
      unfold X7_readWords_v
      rw [eb]
      rfl
    exact ⟨by rw [e4, e83, e84]; exact H, Or.inl ⟨by rw [tv]; exact nI_pos (by omega), by rw [rv]; exact nI_n4 (by omega), by rw [tv, rv]⟩⟩
end RB
section TX
variable {n lns : Nat} {lo sz : Nat → Int32} {wd : Nat → Nat → Int32} {msk lo' ls lp lm : Nat → Int32}
theorem TXT_lm (h : TXT n lns lo sz wd msk lo' ls lp lm) : ∀ j, j < lns → lm j = msk j := fun l hl => by
  obtain ⟨s, x, -, -, -, -, -, -, e, -⟩ := h.2.2.2.2 l hl
  exact e.symm
theorem TXT_two (h : TXT n lns lo sz wd msk lo' ls lp lm) : TWO n lns wd lp := fun l hl => by
  obtain ⟨s, x, h3, h5, -, -, h6, h7, -, -⟩ := h.2.2.2.2 l hl
  obtain ⟨a1, a2, a3⟩ := h6 0 (by omega)
  obtain ⟨b1, b2, b3⟩ := h6 1 (by omega)
  exact ⟨x 0, x 1, a1, b1, fun e => by have := h7 0 1 (by omega) (by omega) e; omega, a2, b2, a3, b3⟩
theorem TXT_MB (h : TXT n lns lo sz wd msk lo' ls lp lm) : ∀ j, j < lns → MB n (msk j) := fun l hl => by
  obtain ⟨s, x, h3, h5, -, -, h6, h7, -, Q, q1, q2, q3⟩ := h.2.2.2.2 l hl
  intro j h1 h2
  rw [q2, tb_is q1 (by omega)]
  cases c : Q.testBit j
  · rfl
  · obtain ⟨i, hi, e⟩ := (q3 j).mp c
    have := (h6 i hi).1
    omega
theorem TXT_hyp (h : TXT n lns lo sz wd msk lo' ls lp lm) : (∀ l, l < lns → vp_in (sz l) 6) ∧ (∀ l, l < lns → ∀ j, j < (sz l).toNatClampNeg → vp_in (wd l j) 10) ∧ (∀ l, l < lns → ∀ i j, i < (sz l).toNatClampNeg → j < (sz l).toNatClampNeg → i ≠ j → (wd l i).toNatClampNeg ≠ (wd l j).toNatClampNeg) ∧ (∀ l, l < lns → vp_in (wd l 0) n ∧ vp_in (wd l 1) n) ∧ (∀ l, l < lns → vp_in (ls l) 6) ∧ (∀ l, l < lns → ∀ j, j < (ls l).toNatClampNeg → vp_in (lp (5 * l + j)) 10) ∧ (∀ l, l < lns → vp_in (lp (5 * l + 0)) n ∧ vp_in (lp (5 * l + 1)) n) := by
  have h10 := h.1
  have vin : ∀ {x : Nat} {N : Nat}, x < N → N < 100 → vp_in (nI x) N := fun h hN => vp_in_nI h (by omega)
  refine ⟨fun l hl => ?_, fun l hl j hj => ?_, fun l hl i j hi hj ne => ?_, fun l hl => ?_, fun l hl => ?_, fun l hl j hj => ?_, fun l hl => ?_⟩
  all_goals obtain ⟨s, x, h3, h5, hs, hls, h6, h7, -, -⟩ := h.2.2.2.2 l hl
  · rw [hs]; exact vin (by omega) (by omega)
  · rw [hs, nI_clamp (by omega)] at hj
    rw [(h6 j hj).2.1]
    exact vin (by have := (h6 j hj).1; omega) (by omega)
  · rw [hs, nI_clamp (by omega)] at hi hj
    have b1 := (h6 i hi).1
    have b2 := (h6 j hj).1
    rw [(h6 i hi).2.1, (h6 j hj).2.1, nI_clamp (by omega), nI_clamp (by omega)]
    exact fun e => ne (h7 i j hi hj e)
  · rw [(h6 0 (by omega)).2.1, (h6 1 (by omega)).2.1]
    exact ⟨vin (h6 0 (by omega)).1 (by omega), vin (h6 1 (by omega)).1 (by omega)⟩
  · rw [hls]; exact vin (by omega) (by omega)
  · rw [hls, nI_clamp (by omega)] at hj
    rw [(h6 j hj).2.2]
    exact vin (by have := (h6 j hj).1; omega) (by omega)
  · rw [(h6 0 (by omega)).2.2, (h6 1 (by omega)).2.2]
    exact ⟨vin (h6 0 (by omega)).1 (by omega), vin (h6 1 (by omega)).1 (by omega)⟩
theorem line_same (h : TXT n lns lo sz wd msk lo' ls lp lm) (l i z : Int32) : X6_line_v lns lo sz wd l i z = X7_line_v lns ls lp lo' l i z ∧ X7_line_p76_0 lns ls l i z = 0 := by
  have h12 := h.2.1
  refine ⟨?_, by unfold X7_line_p76_0; simp only [ite_self]⟩
  unfold X6_line_v X7_line_v
  by_cases c : vp_in l lns
  · rw [if_neg (fun u => (hasL_iff (by omega)).mp u c), if_neg (fun u => (isIn_iff (by omega)).mp u c)]
    obtain ⟨s, x, h3, h5, hs, hls, h6, h7, -, -⟩ := h.2.2.2.2 l.toNatClampNeg (zvlt c)
    rw [hs, hls]
    by_cases c1 : 0 ≤ i
    · rw [if_pos c1, if_pos c1]
      by_cases c2 : i < nI s
      · rw [if_pos c2, if_pos c2]
        obtain ⟨j, hj, rfl⟩ := nI_of (x := i) (Int32.not_lt.mpr c1)
        have js : j < s := by
          rcases Nat.lt_or_ge j s with u | u
          · exact u
          · exact absurd c2 (nI_nlt u hj)
        rw [nI_clamp hj]
        obtain ⟨k1, k2, k3⟩ := h6 j js
        rw [k2, k3]
        by_cases c3 : z = 0
        · rw [if_pos c3, if_pos c3]
        · have h10 := h.1
          rw [if_neg c3, if_neg c3, nI_clamp (by omega)]
          exact h.2.2.2.1 _ k1
      · rw [if_neg c2, if_neg c2]
    · rw [if_neg c1, if_neg c1]
  · rw [if_pos ((hasL_iff (by omega)).mpr c), if_pos ((isIn_iff (by omega)).mpr c)]
end TX
