/-! ===== reading: a further letter, a blank, all bytes ===== -/
section SU
variable {a : TA} {b : TB} {w s : Nat} {S : Nat → Nat} {C : Nat → Nat → Nat} {c : Nat}
/-- a letter that goes on with a word: both take it, or both don't -/
theorem more_word (hG : GH (w + 1) s S C) (h0 : 0 < s) (hC : CI (w + 1) S C a) (hR : RI (w + 1) S C b) (hb : b.2.1 = s) (ha : a.2.2.2.1 = nI 1) (hc : c < 10) {tp : Nat → Int32} {i : Nat} (ht : tp i = nI (c + 97)) :
    (X4_take_L22_B tp i a = none ∧ X7_readWords_L9_B tp i b = none ∧ SIM (X4_take_L22_F tp i a) (X7_readWords_L9_F tp i b)) ∨ ((∃ x, X4_take_L22_B tp i a = some x ∧ x.1 = nI i) ∧ X7_readWords_L9_B tp i b = some (nI i, b.1, b.2.2.1, b.2.2.2.1, b.2.2.2.2)) := by
  obtain ⟨g1, g2, g3, g4, g5⟩ := hG
  obtain ⟨-, g6, g7⟩ := g5 h0
  rw [Nat.add_sub_cancel] at g6 g7
  obtain ⟨c1, c2, c3, c4, c5⟩ := hC
  obtain ⟨r1, r2⟩ := hR
  obtain ⟨v1, v2, v3⟩ := point_is g1 g2 c4 hc a.2.1 a.2.2.1 (nI 1)
  obtain ⟨o1, o2, o3, o4, -⟩ := g4 w (by omega)
  rw [g6] at o2
  have mc : c ∈ addD (dW S C (w + 1)) c := addD_mem
  have nd' : (addD (dW S C (w + 1)) c).Nodup := addD_nd g1
  have lt' : ∀ x, x ∈ addD (dW S C (w + 1)) c → x < 10 := fun x hx => by
    rcases addD_or hx with q | q
    · exact g2 x q
    · omega
  have len' := nd_len nd' lt'
  have pl : (addD (dW S C (w + 1)) c).idxOf c < 10 := by have := idx_lt mc; omega
  rw [← c1] at v1 v2 v3
  have n32 : ¬ nI (c + 97) = nI 32 := fun q => by have := (nI_eq (by omega) (by omega)).mp q; omega
  have n97 : ¬ nI (c + 97) < nI 97 := nI_nlt (by omega) (by omega)
  have n106 : ¬ nI 106 < nI (c + 97) := nI_nlt (by omega) (by omega)
  have nz : ¬ nI 1 = 0 := by decide
  have z0 : nI 0 = 0 := rfl
  have sub97 : nI (c + 97) - nI 97 = nI c := by rw [zq_sub rfl rfl (by omega), Nat.add_sub_cancel]
  have inl : ¬ X7_isIn_v (nI c) (nI 0) (nI 9) = 0 := fun q => by
    rcases isIn_b.mp q with q | q
    · exact absurd q (nI_pos (by omega))
    · exact absurd q (nI_nlt (by omega) (by omega))
  have szw : a.2.2.2.2.2.1 w = nI s := by rw [(c5 w (by omega)).1, g6]
  by_cases h5 : s < 5
  · have s5 : ¬ nI 5 ≤ a.2.2.2.2.2.1 (a.2.1 - 1) := by
      rw [c2, Nat.add_sub_cancel, szw]
      exact nI_ge h5 (by omega)
    have memk : ∀ k, k < w → ∀ j, j < S k → C k j ∈ addD (dW S C (w + 1)) c := fun k hk j hj => addD_sub ((g4 k (by omega)).2.2.1 j hj)
    have memw : ∀ j, j < s → C w j ∈ addD (dW S C (w + 1)) c := fun j hj => addD_sub (o3 j (by omega))
    have CL := clash_same (w := w) (S := S) (X := fun k j => (addD (dW S C (w + 1)) c).idxOf (C k j)) (msk := a.2.2.2.2.2.2.2) (s := s) (p := (addD (dW S C (w + 1)) c).idxOf c) (fun k hk => MSK_ext (c5 k (by omega)).2.2 (fun j hj => (addD_idx ((g4 k (by omega)).2.2.1 j hj)).symm)) (by
      have := (c5 w (by omega)).2.2
      rw [g6] at this
      exact MSK_ext this (fun j hj => (addD_idx (o3 j (by omega))).symm)) pl (fun k hk j1 j2 i1 i2 q1 q2 q3 q4 e1 e2 => by
      have f1 := idx_inj (memk k hk j1 q1) (memw i1 q3) e1
      have f2 := idx_inj (memk k hk j2 q2) (memw i2 q4) e2
      show (addD (dW S C (w + 1)) c).idxOf (C k j1) = (addD (dW S C (w + 1)) c).idxOf (C k j2)
      rw [g7 k hk j1 j2 i1 i2 q1 q2 q3 q4 f1 f2])
    rw [NOK_idx mc memk memw] at CL
    have MS := may_same (wds := w + 1) (wm := b.2.2.2.2) (by omega) (fun k hk => (r2 k hk).2.2) hc (s := s) (by rw [Nat.add_sub_cancel]; exact g6) h5 h0
    rw [Nat.add_sub_cancel] at MS
    by_cases ok : NOK w s S C c
    · have cl : X4_clashes_v a.2.2.2.2.2.2.2 (a.2.1 - 1) (nI 1 <<< (nI ((addD (dW S C (w + 1)) c).idxOf c) &&& 31)) = 0 := by
        rw [c2, Nat.add_sub_cancel]
        rcases CL with ⟨e, -⟩ | ⟨-, e⟩
        · exact e
        · exact absurd ok e
      have mv : ¬ X7_mayCome_v b.1 b.2.2.2.2 (nI c) b.2.1 = 0 := by
        rw [r1, hb]
        rcases MS with ⟨e, -⟩ | ⟨-, e⟩
        · rw [e]; decide
        · exact absurd ok e
      have AV : X4_addsLetter_v a.1 a.2.1 a.2.2.1 a.2.2.2.1 a.2.2.2.2.1 a.2.2.2.2.2.1 a.2.2.2.2.2.2.2 (tp i) = nI 1 := by
        unfold X4_addsLetter_v
        rw [ht, if_neg n97, if_neg n106, ha, if_neg nz, if_neg s5, v1, if_pos cl]
      have A0 : X4_addsLetter_pT0_0 a.1 a.2.1 a.2.2.1 a.2.2.2.1 a.2.2.2.2.1 a.2.2.2.2.2.1 a.2.2.2.2.2.2.2 (tp i) = (addD (dW S C (w + 1)) c).length := by
        unfold X4_addsLetter_pT0_0
        rw [ht, if_neg n97, if_neg n106, ha, if_neg nz, if_neg s5, v1, if_pos cl, v2]
      have A1 : X4_addsLetter_pT0_1 a.1 a.2.1 a.2.2.1 a.2.2.2.1 a.2.2.2.2.1 a.2.2.2.2.2.1 a.2.2.2.2.2.2.2 (tp i) = w + 1 := by
        unfold X4_addsLetter_pT0_1
        rw [ht, if_neg n97, if_neg n106, ha, if_neg nz, if_neg s5, v1, if_pos cl, c2]
      have A2 : X4_addsLetter_pT0_2 a.1 a.2.1 a.2.2.1 a.2.2.2.1 a.2.2.2.2.1 a.2.2.2.2.2.1 a.2.2.2.2.2.2.2 (tp i) = sm S (w + 1) + 1 := by
        unfold X4_addsLetter_pT0_2
        rw [ht, if_neg n97, if_neg n106, ha, if_neg nz, if_neg s5, v1, if_pos cl, c3]
      have A3 : X4_addsLetter_pT0_3 a.1 a.2.1 a.2.2.1 a.2.2.2.1 a.2.2.2.2.1 a.2.2.2.2.2.1 a.2.2.2.2.2.2.2 (tp i) = nI 1 := by
        unfold X4_addsLetter_pT0_3
        rw [ht, if_neg n97, if_neg n106, ha, if_neg nz, if_neg s5, v1, if_pos cl]
      have A4 : X4_addsLetter_cT1 a.1 a.2.1 a.2.2.1 a.2.2.2.1 a.2.2.2.2.1 a.2.2.2.2.2.1 a.2.2.2.2.2.2.2 (tp i) = X4_pointOf_cT1 a.1 a.2.1 a.2.2.1 (nI 1) a.2.2.2.2.1 (nI (c + 97)) := by
        unfold X4_addsLetter_cT1
        rw [ht, if_neg n97, if_neg n106, ha, if_neg nz, if_neg s5, v1, if_pos cl]
      have A5 : X4_addsLetter_cT2 a.1 a.2.1 a.2.2.1 a.2.2.2.1 a.2.2.2.2.1 a.2.2.2.2.2.1 a.2.2.2.2.2.2.2 (tp i) = upd a.2.2.2.2.2.1 w (nI (s + 1)) := by
        unfold X4_addsLetter_cT2
        rw [ht, if_neg n97, if_neg n106, ha, if_neg nz, if_neg s5, v1, if_pos cl, c2, Nat.add_sub_cancel, szw, nI_add]
      have A6 : X4_addsLetter_cT4 a.1 a.2.1 a.2.2.1 a.2.2.2.1 a.2.2.2.2.1 a.2.2.2.2.2.1 a.2.2.2.2.2.2.1 a.2.2.2.2.2.2.2 (tp i) = updR a.2.2.2.2.2.2.1 w (upd (a.2.2.2.2.2.2.1 w) s (nI ((addD (dW S C (w + 1)) c).idxOf c))) := by
        unfold X4_addsLetter_cT4
        rw [ht, if_neg n97, if_neg n106, ha, if_neg nz, if_neg s5, v1, if_pos cl, c2, Nat.add_sub_cancel, szw, nI_clamp (by omega)]
      have A7 : X4_addsLetter_cT16 a.1 a.2.1 a.2.2.1 a.2.2.2.1 a.2.2.2.2.1 a.2.2.2.2.2.1 a.2.2.2.2.2.2.2 (tp i) = upd a.2.2.2.2.2.2.2 w (a.2.2.2.2.2.2.2 w ||| (nI 1 <<< (nI ((addD (dW S C (w + 1)) c).idxOf c) &&& 31))) := by
        unfold X4_addsLetter_cT16
        rw [ht, if_neg n97, if_neg n106, ha, if_neg nz, if_neg s5, v1, if_pos cl, c2, Nat.add_sub_cancel]
      refine Or.inl ⟨?_, ?_, ?_⟩
      · unfold X4_take_L22_B
        rw [AV, ht, if_neg n32, if_neg nz]
      · unfold X7_readWords_L9_B
        rw [ht, sub97, if_neg n32, if_neg inl, if_neg mv, ite_self]
      · have eF : X4_take_L22_F tp i a = ((addD (dW S C (w + 1)) c).length, w + 1, sm S (w + 1) + 1, nI 1, X4_pointOf_cT1 a.1 a.2.1 a.2.2.1 (nI 1) a.2.2.2.2.1 (nI (c + 97)), upd a.2.2.2.2.2.1 w (nI (s + 1)), updR a.2.2.2.2.2.2.1 w (upd (a.2.2.2.2.2.2.1 w) s (nI ((addD (dW S C (w + 1)) c).idxOf c))), upd a.2.2.2.2.2.2.2 w (a.2.2.2.2.2.2.2 w ||| (nI 1 <<< (nI ((addD (dW S C (w + 1)) c).idxOf c) &&& 31)))) := by
          unfold X4_take_L22_F
          rw [AV, A0, A1, A2, A3, A4, A5, A6, A7, if_neg (by rw [ht]; exact n32), if_neg nz]
        have eF2 : X7_readWords_L9_F tp i b = (w + 1, s + 1, upd b.2.2.1 w (nI (s + 1)), upd b.2.2.2.1 (5 * w + s) (nI c), upd b.2.2.2.2 w (b.2.2.2.2 w ||| (nI 1 <<< (nI c &&& 31)))) := by
          unfold X7_readWords_L9_F
          rw [ht, sub97, if_neg n32, if_neg inl, if_neg mv, hb, if_neg (nI_ne0 h0 (by omega)), r1, Nat.add_sub_cancel]
        rw [eF, eF2]
        have eD : dW (uN S w (s + 1)) (uC C w s c) (w + 1) = addD (dW S C (w + 1)) c := by
          have := dW_more (S := S) (C := C) (k := w) (c := c)
          rw [g6] at this
          exact this
        have sN : uN S w (s + 1) w = s + 1 := if_pos rfl
        have sO : ∀ k, k ≠ w → uN S w (s + 1) k = S k := fun k hk => if_neg hk
        have cN : uC C w s c w s = c := if_pos ⟨rfl, rfl⟩
        have cO : ∀ k j, k ≠ w ∨ j ≠ s → uC C w s c k j = C k j := fun k j h => if_neg (fun q => by omega)
        refine ⟨w + 1, s + 1, uN S w (s + 1), uC C w s c, ⟨by rw [eD]; exact nd', by rw [eD]; exact lt', g3, fun k hk => ?_, fun _ => ⟨by omega, ?_, fun k hk j1 j2 i1 i2 q1 q2 q3 q4 e1 e2 => ?_⟩⟩, ⟨by rw [eD], rfl, ?_, by rw [eD]; exact v3, fun k hk => ?_⟩, ⟨rfl, fun k hk => ?_⟩, rfl, rfl⟩
        · by_cases e : k = w
          · subst e
            rw [sN]
            refine ⟨by omega, by omega, fun j hj => ?_, fun j l hj hl q => ?_, fun q => by omega⟩
            · rw [eD]
              by_cases u : j = s
              · rw [u, cN]
                exact mc
              · rw [cO k j (Or.inr u)]
                exact memw j (by omega)
            · by_cases u : j = s
              · by_cases v : l = s
                · omega
                · rw [u, cN, cO k l (Or.inr v)] at q
                  exact absurd q.symm (ok.1 l (by omega))
              · by_cases v : l = s
                · rw [v, cN, cO k j (Or.inr u)] at q
                  exact absurd q (ok.1 j (by omega))
                · rw [cO k j (Or.inr u), cO k l (Or.inr v)] at q
                  exact o4 j l (by omega) (by omega) q
          · obtain ⟨u1, u2, u3, u4, u5⟩ := g4 k hk
            rw [sO k e]
            refine ⟨u1, u2, fun j hj => ?_, fun j l hj hl q => ?_, fun _ => u5 (Or.inl (by omega))⟩
            · rw [eD, cO k j (Or.inl e)]
              exact addD_sub (u3 j hj)
            · rw [cO k j (Or.inl e), cO k l (Or.inl e)] at q
              exact u4 j l hj hl q
        · rw [Nat.add_sub_cancel]
          exact sN
        · rw [Nat.add_sub_cancel] at hk e1 e2
          rw [sO k (by omega)] at q1 q2
          rw [cO k j1 (Or.inl (by omega))] at e1 ⊢
          rw [cO k j2 (Or.inl (by omega))] at e2 ⊢
          by_cases u : i1 = s
          · rw [u, cN] at e1
            by_cases v : i2 = s
            · rw [v, cN] at e2
              rw [e1, e2]
            · rw [cO w i2 (Or.inr v)] at e2
              rcases ok.2 k hk with o | o
              · exact absurd e1 (o j1 q1)
              · exact absurd e2 (o j2 i2 q2 (by omega))
          · rw [cO w i1 (Or.inr u)] at e1
            by_cases v : i2 = s
            · rw [v, cN] at e2
              rcases ok.2 k hk with o | o
              · exact absurd e2 (o j2 q2)
              · exact absurd e1 (o j1 i1 q1 (by omega))
            · rw [cO w i2 (Or.inr v)] at e2
              exact g7 k hk j1 j2 i1 i2 q1 q2 (by omega) (by omega) e1 e2
        · show sm S (w + 1) + 1 = sm (uN S w (s + 1)) (w + 1)
          rw [sm_new]
          show sm S w + S w + 1 = _
          omega
        · rw [eD]
          show upd a.2.2.2.2.2.1 w (nI (s + 1)) k = nI (uN S w (s + 1) k) ∧ (∀ j, j < uN S w (s + 1) k → updR a.2.2.2.2.2.2.1 w (upd (a.2.2.2.2.2.2.1 w) s (nI ((addD (dW S C (w + 1)) c).idxOf c))) k j = nI ((addD (dW S C (w + 1)) c).idxOf (uC C w s c k j))) ∧ MSK (upd a.2.2.2.2.2.2.2 w (a.2.2.2.2.2.2.2 w ||| (nI 1 <<< (nI ((addD (dW S C (w + 1)) c).idxOf c) &&& 31))) k) (uN S w (s + 1) k) (fun j => (addD (dW S C (w + 1)) c).idxOf (uC C w s c k j))
          obtain ⟨u1, u2, u3⟩ := c5 k hk
          by_cases e : k = w
          · subst e
            rw [g6] at u2 u3
            rw [sN]
            refine ⟨if_pos rfl, fun j hj => ?_, ?_⟩
            · rw [updR_at, if_pos rfl]
              unfold upd
              by_cases u : j = s
              · rw [if_pos u, u, cN]
              · rw [if_neg u, cO k j (Or.inr u), addD_idx (o3 j (by omega))]
                exact u2 j (by omega)
            · have : upd a.2.2.2.2.2.2.2 k (a.2.2.2.2.2.2.2 k ||| (nI 1 <<< (nI ((addD (dW S C (k + 1)) c).idxOf c) &&& 31))) k = a.2.2.2.2.2.2.2 k ||| (nI 1 <<< (nI ((addD (dW S C (k + 1)) c).idxOf c) &&& 31)) := if_pos rfl
              rw [this]
              refine MSK_add (MSK_ext u3 (fun j hj => ?_)) pl (by rw [cN])
              show _ = (addD (dW S C (k + 1)) c).idxOf (uC C k s c k j)
              rw [cO k j (Or.inr (by omega)), addD_idx (o3 j (by omega))]
          · have mem := (g4 k hk).2.2.1
            rw [sO k e]
            refine ⟨?_, fun j hj => ?_, ?_⟩
            · unfold upd
              rw [if_neg e]
              exact u1
            · rw [updR_at, if_neg e, cO k j (Or.inl e), addD_idx (mem j hj)]
              exact u2 j hj
            · have : upd a.2.2.2.2.2.2.2 w (a.2.2.2.2.2.2.2 w ||| (nI 1 <<< (nI ((addD (dW S C (w + 1)) c).idxOf c) &&& 31))) k = a.2.2.2.2.2.2.2 k := if_neg e
              rw [this]
              exact MSK_ext u3 (fun j hj => by
                show _ = (addD (dW S C (w + 1)) c).idxOf (uC C w s c k j)
                rw [cO k j (Or.inl e), addD_idx (mem j hj)])
        · show upd b.2.2.1 w (nI (s + 1)) k = nI (uN S w (s + 1) k) ∧ (∀ j, j < uN S w (s + 1) k → upd b.2.2.2.1 (5 * w + s) (nI c) (5 * k + j) = nI (uC C w s c k j)) ∧ MSK (upd b.2.2.2.2 w (b.2.2.2.2 w ||| (nI 1 <<< (nI c &&& 31))) k) (uN S w (s + 1) k) (uC C w s c k)
          obtain ⟨u1, u2, u3⟩ := r2 k hk
          by_cases e : k = w
          · subst e
            rw [g6] at u2 u3
            rw [sN]
            refine ⟨if_pos rfl, fun j hj => ?_, ?_⟩
            · unfold upd
              by_cases u : j = s
              · rw [if_pos (by omega), u, cN]
              · rw [if_neg (by omega), cO k j (Or.inr u)]
                exact u2 j (by omega)
            · have : upd b.2.2.2.2 k (b.2.2.2.2 k ||| (nI 1 <<< (nI c &&& 31))) k = b.2.2.2.2 k ||| (nI 1 <<< (nI c &&& 31)) := if_pos rfl
              rw [this]
              exact MSK_add (MSK_ext u3 (fun j hj => (cO k j (Or.inr (by omega))).symm)) hc cN
          · have s5' := (g4 k hk).2.1
            rw [sO k e]
            refine ⟨?_, fun j hj => ?_, ?_⟩
            · unfold upd
              rw [if_neg e]
              exact u1
            · rw [cO k j (Or.inl e)]
              unfold upd
              rw [if_neg (by omega)]
              exact u2 j hj
            · have : upd b.2.2.2.2 w (b.2.2.2.2 w ||| (nI 1 <<< (nI c &&& 31))) k = b.2.2.2.2 k := if_neg e
              rw [this]
              exact MSK_ext u3 (fun j _ => (cO k j (Or.inl e)).symm)
    · have cl : ¬ X4_clashes_v a.2.2.2.2.2.2.2 (a.2.1 - 1) (nI 1 <<< (nI ((addD (dW S C (w + 1)) c).idxOf c) &&& 31)) = 0 := by
        rw [c2, Nat.add_sub_cancel]
        rcases CL with ⟨-, e⟩ | ⟨e, -⟩
        · exact absurd e ok
        · rw [e]; decide
      have mv : X7_mayCome_v b.1 b.2.2.2.2 (nI c) b.2.1 = 0 := by
        rw [r1, hb]
        rcases MS with ⟨-, e⟩ | ⟨e, -⟩
        · exact absurd e ok
        · exact e
      have AV : X4_addsLetter_v a.1 a.2.1 a.2.2.1 a.2.2.2.1 a.2.2.2.2.1 a.2.2.2.2.2.1 a.2.2.2.2.2.2.2 (tp i) = nI 0 := by
        unfold X4_addsLetter_v
        rw [ht, if_neg n97, if_neg n106, ha, if_neg nz, if_neg s5, v1, if_neg cl]
      refine Or.inr ⟨?_, ?_⟩
      · unfold X4_take_L22_B
        rw [AV, if_neg (by rw [ht]; exact n32), if_pos z0]
        exact ⟨_, rfl, rfl⟩
      · unfold X7_readWords_L9_B
        rw [ht, sub97, if_neg n32, if_neg inl, if_pos mv]
  · have s5 : nI 5 ≤ a.2.2.2.2.2.1 (a.2.1 - 1) := by
      rw [c2, Nat.add_sub_cancel, szw]
      exact nI_le (by omega) (by omega)
    have AV : X4_addsLetter_v a.1 a.2.1 a.2.2.1 a.2.2.2.1 a.2.2.2.2.1 a.2.2.2.2.2.1 a.2.2.2.2.2.2.2 (tp i) = nI 0 := by
      unfold X4_addsLetter_v
      rw [ht, if_neg n97, if_neg n106, ha, if_neg nz, if_pos s5]
    have mv : X7_mayCome_v b.1 b.2.2.2.2 (nI c) b.2.1 = 0 := by
      unfold X7_mayCome_v
      rw [hb, if_neg (nI_ne0 h0 (by omega)), if_pos (nI_le (by omega) (by omega)), andX0 (fun i => by unfold X7_mayCome_L54_B; rw [if_pos (show nI 0 = 0 from rfl)])]
      rfl
    refine Or.inr ⟨?_, ?_⟩
    · unfold X4_take_L22_B
      rw [AV, if_neg (by rw [ht]; exact n32), if_pos z0]
      exact ⟨_, rfl, rfl⟩
    · unfold X7_readWords_L9_B
      rw [ht, sub97, if_neg n32, if_neg inl, if_pos mv]
end SU
/-- one byte -/
theorem byte_same {a : TA} {b : TB} (h : SIM a b) {tp tq : Nat → Int32} {i : Nat} (ht : tp i = tq i) :
    (X4_take_L22_B tp i a = none ∧ X7_readWords_L9_B tq i b = none ∧ SIM (X4_take_L22_F tp i a) (X7_readWords_L9_F tq i b)) ∨ ((∃ x, X4_take_L22_B tp i a = some x ∧ x.1 = nI i) ∧ X7_readWords_L9_B tq i b = some (nI i, b.1, b.2.2.1, b.2.2.2.1, b.2.2.2.2)) := by
  have eBq : X7_readWords_L9_B tq i b = X7_readWords_L9_B tp i b := by unfold X7_readWords_L9_B; rw [ht]
  have eFq : X7_readWords_L9_F tq i b = X7_readWords_L9_F tp i b := by unfold X7_readWords_L9_F; rw [ht]
  rw [eBq, eFq]
  obtain ⟨wds, size, S, C, hG, hC, hR, hb, ha⟩ := h
  by_cases c32 : tp i = nI 32
  · by_cases c0 : size = 0
    · have ha0 : a.2.2.2.1 = nI 0 := by rw [ha, if_pos c0]
      have z0 : nI 0 = 0 := rfl
      have ev : X4_endsWord_v a.2.1 a.2.2.2.1 a.2.2.2.2.2.1 = nI 1 := by unfold X4_endsWord_v; rw [ha0, if_pos z0]
      have ep : X4_endsWord_pT0_3 a.2.1 a.2.2.2.1 a.2.2.2.2.2.1 = nI 0 := by unfold X4_endsWord_pT0_3; rw [ha0, if_pos z0]
      have n1 : ¬ nI b.2.1 = nI 1 := by rw [hb, c0]; decide
      have n2 : ¬ nI b.2.1 = nI 2 := by rw [hb, c0]; decide
      refine Or.inl ⟨?_, ?_, ?_⟩
      · unfold X4_take_L22_B
        rw [if_pos c32, ev, if_neg (by decide)]
      · unfold X7_readWords_L9_B
        rw [if_pos c32, if_neg n1, if_neg n2]
      · unfold X4_take_L22_F X7_readWords_L9_F
        rw [if_pos c32, ev, if_neg (by decide), ep, if_pos c32, if_neg n1, if_neg n2]
        subst c0
        exact ⟨wds, 0, S, C, hG, hC, hR, rfl, rfl⟩
    · have ha1 : a.2.2.2.1 = nI 1 := by rw [ha, if_neg c0]
      obtain ⟨g1, g2, g3, g4, g5⟩ := hG
      obtain ⟨q1, q2, -⟩ := g5 (by omega)
      have hC' := hC
      obtain ⟨-, c2, -, -, c5⟩ := hC
      have sz : a.2.2.2.2.2.1 (a.2.1 - 1) = nI size := by rw [c2, (c5 (wds - 1) (by omega)).1, q2]
      have l5 := (g4 (wds - 1) (by omega)).2.1
      by_cases c3 : 3 ≤ size
      · have s3 : nI 3 ≤ a.2.2.2.2.2.1 (a.2.1 - 1) := by rw [sz]; exact nI_le c3 (by omega)
        have ev : X4_endsWord_v a.2.1 a.2.2.2.1 a.2.2.2.2.2.1 = nI 1 := by unfold X4_endsWord_v; rw [ha1, if_neg (by decide), if_pos s3]
        have ep : X4_endsWord_pT0_3 a.2.1 a.2.2.2.1 a.2.2.2.2.2.1 = nI 0 := by unfold X4_endsWord_pT0_3; rw [ha1, if_neg (by decide), if_pos s3]
        have n1 : ¬ nI b.2.1 = nI 1 := by rw [hb]; exact fun q => by have := (nI_eq (by omega) (by omega)).mp q; omega
        have n2 : ¬ nI b.2.1 = nI 2 := by rw [hb]; exact fun q => by have := (nI_eq (by omega) (by omega)).mp q; omega
        refine Or.inl ⟨?_, ?_, ?_⟩
        · unfold X4_take_L22_B
          rw [if_pos c32, ev, if_neg (by decide)]
        · unfold X7_readWords_L9_B
          rw [if_pos c32, if_neg n1, if_neg n2]
        · unfold X4_take_L22_F X7_readWords_L9_F
          rw [if_pos c32, ev, if_neg (by decide), ep, if_pos c32, if_neg n1, if_neg n2]
          refine ⟨wds, 0, S, C, ⟨g1, g2, g3, fun w hw => ?_, fun q => by omega⟩, hC', hR, rfl, rfl⟩
          obtain ⟨u1, u2, u3, u4, u5⟩ := g4 w hw
          refine ⟨u1, u2, u3, u4, fun _ => ?_⟩
          by_cases e : w + 1 < wds
          · exact u5 (Or.inl e)
          · rw [show w = wds - 1 by omega, q2]
            exact c3
      · have s3 : ¬ nI 3 ≤ a.2.2.2.2.2.1 (a.2.1 - 1) := by rw [sz]; exact nI_ge (by omega) (by omega)
        have ev : X4_endsWord_v a.2.1 a.2.2.2.1 a.2.2.2.2.2.1 = nI 0 := by unfold X4_endsWord_v; rw [ha1, if_neg (by decide), if_neg s3]
        refine Or.inr ⟨?_, ?_⟩
        · unfold X4_take_L22_B
          rw [if_pos c32, ev, if_pos (show nI 0 = 0 from rfl)]
          exact ⟨_, rfl, rfl⟩
        · unfold X7_readWords_L9_B
          rw [if_pos c32]
          by_cases e : size = 1
          · rw [if_pos (show nI b.2.1 = nI 1 by rw [hb, e])]
          · rw [if_neg (show ¬ nI b.2.1 = nI 1 by rw [hb]; exact fun q => by have := (nI_eq (by omega) (by omega)).mp q; omega), if_pos (show nI b.2.1 = nI 2 by rw [hb, show size = 2 by omega])]
  · by_cases cl : X7_isIn_v (tp i - nI 97) (nI 0) (nI 9) = 0
    · have bad : tp i < nI 97 ∨ nI 106 < tp i := by
        rcases Decidable.em (tp i < nI 97) with q | q
        · exact Or.inl q
        · refine Or.inr (Int32.not_le.mp (fun q2 => ?_))
          obtain ⟨j, hj, ej⟩ := nI_of (x := tp i) (fun u => q (Int32.lt_trans u (by decide)))
          rw [ej] at q q2 cl
          have h1 : 97 ≤ j := by
            rcases Nat.lt_or_ge j 97 with u | u
            · exact absurd (nI_lt u (by omega)) q
            · exact u
          have h2 : j ≤ 106 := (nI_le31 hj (by omega)).mp q2
          rw [zq_sub rfl rfl h1] at cl
          rcases isIn_b.mp cl with u | u
          · exact absurd u (nI_pos (by omega))
          · exact absurd u (nI_nlt (by omega) (by omega))
      have AV : X4_addsLetter_v a.1 a.2.1 a.2.2.1 a.2.2.2.1 a.2.2.2.2.1 a.2.2.2.2.2.1 a.2.2.2.2.2.2.2 (tp i) = nI 0 := by
        unfold X4_addsLetter_v
        by_cases d : tp i < nI 97
        · rw [if_pos d]
        · rw [if_neg d, if_pos (bad.resolve_left d)]
      refine Or.inr ⟨?_, ?_⟩
      · unfold X4_take_L22_B
        rw [AV, if_neg c32, if_pos (show nI 0 = 0 from rfl)]
        exact ⟨_, rfl, rfl⟩
      · unfold X7_readWords_L9_B
        rw [if_neg c32, if_pos cl]
    · have in9 : ¬ (tp i - nI 97 < nI 0) ∧ ¬ (nI 9 < tp i - nI 97) := ⟨fun q => cl (isIn_b.mpr (Or.inl q)), fun q => cl (isIn_b.mpr (Or.inr q))⟩
      obtain ⟨c, hc, ec⟩ := nI_of (x := tp i - nI 97) in9.1
      have hc9 : c < 10 := by
        rcases Nat.lt_or_ge c 10 with u | u
        · exact u
        · exact absurd (by rw [ec]; exact nI_lt (by omega) hc) in9.2
      have et : tp i = nI (c + 97) := by
        rw [← nI_add, ← ec]
        exact (Int32.sub_add_cancel _ _).symm
      by_cases c0 : size = 0
      · subst c0
        have ha0 : a.2.2.2.1 = nI 0 := by rw [ha, if_pos rfl]
        by_cases h12 : wds < 12
        · exact Or.inl (new_word hG hC hR hb ha0 hc9 h12 et)
        · have sv : X4_startsWord_v a.2.1 = 0 := by
            unfold X4_startsWord_v
            rw [hC.2.1, if_neg (nI_nlt (by omega) (by have := hG.2.2.1; omega))]
            rfl
          have n97 : ¬ nI (c + 97) < nI 97 := nI_nlt (by omega) (by omega)
          have n106 : ¬ nI 106 < nI (c + 97) := nI_nlt (by omega) (by omega)
          have AV : X4_addsLetter_v a.1 a.2.1 a.2.2.1 a.2.2.2.1 a.2.2.2.2.1 a.2.2.2.2.2.1 a.2.2.2.2.2.2.2 (tp i) = nI 0 := by
            unfold X4_addsLetter_v
            rw [et, if_neg n97, if_neg n106, ha0, if_pos (show nI 0 = 0 from rfl), if_pos sv]
          have mv : X7_mayCome_v b.1 b.2.2.2.2 (tp i - nI 97) b.2.1 = 0 := by
            unfold X7_mayCome_v
            rw [hb, if_pos (show nI 0 = 0 from rfl), hR.1, if_pos (nI_le (by omega) (by have := hG.2.2.1; omega))]
            rfl
          refine Or.inr ⟨?_, ?_⟩
          · unfold X4_take_L22_B
            rw [AV, if_neg c32, if_pos (show nI 0 = 0 from rfl)]
            exact ⟨_, rfl, rfl⟩
          · unfold X7_readWords_L9_B
            rw [if_neg c32, if_neg cl, if_pos mv]
      · have ha1 : a.2.2.2.1 = nI 1 := by rw [ha, if_neg c0]
        obtain ⟨w, rfl⟩ : ∃ w, wds = w + 1 := ⟨wds - 1, by have := (hG.2.2.2.2 (by omega)).1; omega⟩
        exact more_word hG (by omega) hC hR hb ha1 hc9 et
/-- all bytes -/
theorem bytes_same {tp tq : Nat → Int32} {t : Nat} (ht : ∀ k, k < t → tp k = tq k) : ∀ (d i : Nat) (a : TA) (b : TB), i + d = t → SIM a b →
    ((∃ a' b', zfoldB (X4_take_L22_B tp) (X4_take_L22_F tp) d i a = (none, a') ∧ zfoldB (X7_readWords_L9_B tq) (X7_readWords_L9_F tq) d i b = (none, b') ∧ SIM a' b') ∨
     (∃ x a' b' k, k < t ∧ zfoldB (X4_take_L22_B tp) (X4_take_L22_F tp) d i a = (some x, a') ∧ zfoldB (X7_readWords_L9_B tq) (X7_readWords_L9_F tq) d i b = (some (nI k, b'.1, b'.2.2.1, b'.2.2.2.1, b'.2.2.2.2), b') ∧ x.1 = nI k ∧ SIM a' b')) := by
  intro d
  induction d with
  | zero => intro i a b _ h; exact Or.inl ⟨a, b, rfl, rfl, h⟩
  | succ d ih =>
    intro i a b hi h
    rcases byte_same h (ht i (by omega)) with ⟨e1, e2, e3⟩ | ⟨⟨x, e1, f1⟩, e2⟩
    · simp only [zfoldB, e1, e2]
      exact ih (i + 1) _ _ (by omega) e3
    · simp only [zfoldB, e1, e2]
      exact Or.inr ⟨x, a, b, i, by omega, rfl, rfl, f1, h⟩
theorem SIM_0 {lo sz : Nat → Int32} {wd : Nat → Nat → Int32} {msk ws wl wm : Nat → Int32} : SIM (0, 0, 0, nI 0, lo, sz, wd, msk) (0, 0, ws, wl, wm) :=
  ⟨0, 0, fun _ => 0, fun _ _ => 0, ⟨List.nodup_nil, fun c h => absurd h (by simp [dW]), by omega, fun w h => absurd h (Nat.not_lt_zero w), fun h => absurd h (by omega)⟩, ⟨rfl, rfl, rfl, fun k c h => by simp [dW] at h, fun w h => absurd h (Nat.not_lt_zero w)⟩, ⟨rfl, fun w h => absurd h (Nat.not_lt_zero w)⟩, rfl, rfl⟩
