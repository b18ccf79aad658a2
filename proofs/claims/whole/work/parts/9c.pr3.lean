/-! ===== reading: one byte in both ===== -/
theorem NOK_idx {w s : Nat} {S : Nat → Nat} {C : Nat → Nat → Nat} {c : Nat} {D : List Nat} (hc : c ∈ D) (h : ∀ k, k < w → ∀ j, j < S k → C k j ∈ D) (hw : ∀ j, j < s → C w j ∈ D) : NOK w s S (fun k j => D.idxOf (C k j)) (D.idxOf c) ↔ NOK w s S C c := by
  constructor
  · rintro ⟨q1, q2⟩
    refine ⟨fun j hj e => q1 j hj (congrArg (fun z => D.idxOf z) e), fun k hk => ?_⟩
    rcases q2 k hk with q | q
    · exact Or.inl (fun j hj e => q j hj (congrArg (fun z => D.idxOf z) e))
    · exact Or.inr (fun j i hj hi e => q j i hj hi (congrArg (fun z => D.idxOf z) e))
  · rintro ⟨q1, q2⟩
    refine ⟨fun j hj e => q1 j hj (idx_inj (hw j hj) hc e), fun k hk => ?_⟩
    rcases q2 k hk with q | q
    · exact Or.inl (fun j hj e => q j hj (idx_inj (h k hk j hj) hc e))
    · exact Or.inr (fun j i hj hi e => q j i hj hi (idx_inj (h k hk j hj) (hw i hi) e))
theorem updR_at {w : Nat → Nat → Int32} {l : Nat} {r : Nat → Int32} {k j : Nat} : updR w l r k j = if k = l then r j else w k j := by
  unfold updR
  by_cases c : k = l
  · rw [if_pos c, if_pos c]
  · rw [if_neg c, if_neg c]
theorem dW_lt {S : Nat → Nat} {C : Nat → Nat → Nat} {wds size : Nat} (h : GH wds size S C) : (dW S C wds).length ≤ 10 := nd_len h.1 h.2.1
section ST
variable {a : TA} {b : TB} {wds size : Nat} {S : Nat → Nat} {C : Nat → Nat → Nat} {c : Nat}
/-- a letter that begins a word -/
theorem new_word (hG : GH wds 0 S C) (hC : CI wds S C a) (hR : RI wds S C b) (hb : b.2.1 = 0) (ha : a.2.2.2.1 = nI 0) (hc : c < 10) (h12 : wds < 12) {tp : Nat → Int32} {i : Nat} (ht : tp i = nI (c + 97)) :
    X4_take_L22_B tp i a = none ∧ X7_readWords_L9_B tp i b = none ∧ SIM (X4_take_L22_F tp i a) (X7_readWords_L9_F tp i b) := by
  obtain ⟨g1, g2, g3, g4, -⟩ := hG
  obtain ⟨c1, c2, c3, c4, c5⟩ := hC
  obtain ⟨r1, r2⟩ := hR
  obtain ⟨v1, v2, v3⟩ := point_is g1 g2 c4 hc (a.2.1 + 1) a.2.2.1 (nI 1)
  have mc : c ∈ addD (dW S C wds) c := addD_mem
  have nd' : (addD (dW S C wds) c).Nodup := addD_nd g1
  have lt' : ∀ x, x ∈ addD (dW S C wds) c → x < 10 := fun x hx => by
    rcases addD_or hx with q | q
    · exact g2 x q
    · omega
  have len' := nd_len nd' lt'
  have pl : (addD (dW S C wds) c).idxOf c < 10 := by have := idx_lt mc; omega
  rw [← c1] at v1 v2 v3
  have n32 : ¬ nI (c + 97) = nI 32 := fun q => by have := (nI_eq (by omega) (by omega)).mp q; omega
  have n97 : ¬ nI (c + 97) < nI 97 := nI_nlt (by omega) (by omega)
  have n106 : ¬ nI 106 < nI (c + 97) := nI_nlt (by omega) (by omega)
  have z0 : nI 0 = 0 := rfl
  have sv : ¬ X4_startsWord_v a.2.1 = 0 := by
    unfold X4_startsWord_v
    rw [c2, if_pos (nI_lt h12 (by omega))]
    decide
  have s5 : ¬ nI 5 ≤ upd a.2.2.2.2.2.1 a.2.1 (nI 0) (a.2.1 + 1 - 1) := by
    rw [Nat.add_sub_cancel]
    unfold upd
    rw [if_pos rfl]
    decide
  have cl : X4_clashes_v (upd a.2.2.2.2.2.2.2 a.2.1 (nI 0)) (a.2.1 + 1 - 1) (nI 1 <<< (nI ((addD (dW S C wds) c).idxOf c) &&& 31)) = 0 := by
    rw [Nat.add_sub_cancel]
    rcases clash_same (w := a.2.1) (S := S) (X := fun k j => (dW S C wds).idxOf (C k j)) (msk := upd a.2.2.2.2.2.2.2 a.2.1 (nI 0)) (s := 0) (p := (addD (dW S C wds) c).idxOf c) (fun k hk => by
      unfold upd
      rw [if_neg (by omega)]
      exact (c5 k (by omega)).2.2) (by
      unfold upd
      rw [if_pos rfl]
      exact MSK_0) pl (fun k _ j1 j2 i1 i2 _ _ h => absurd h (Nat.not_lt_zero i1)) with ⟨e, -⟩ | ⟨-, e⟩
    · exact e
    · exact absurd ⟨fun j hj => absurd hj (Nat.not_lt_zero j), fun k _ => Or.inr (fun j i _ hi => absurd hi (Nat.not_lt_zero i))⟩ e
  have AV : X4_addsLetter_v a.1 a.2.1 a.2.2.1 a.2.2.2.1 a.2.2.2.2.1 a.2.2.2.2.2.1 a.2.2.2.2.2.2.2 (tp i) = nI 1 := by
    unfold X4_addsLetter_v
    rw [ht, if_neg n97, if_neg n106, ha, if_pos z0, if_neg sv, if_neg s5, v1, if_pos cl]
  have nz : ¬ nI 1 = 0 := by decide
  have A0 : X4_addsLetter_pT0_0 a.1 a.2.1 a.2.2.1 a.2.2.2.1 a.2.2.2.2.1 a.2.2.2.2.2.1 a.2.2.2.2.2.2.2 (tp i) = (addD (dW S C wds) c).length := by
    unfold X4_addsLetter_pT0_0
    rw [ht, if_neg n97, if_neg n106, ha, if_pos z0, if_neg sv, if_neg s5, v1, if_pos cl, v2]
  have A1 : X4_addsLetter_pT0_1 a.1 a.2.1 a.2.2.1 a.2.2.2.1 a.2.2.2.2.1 a.2.2.2.2.2.1 a.2.2.2.2.2.2.2 (tp i) = wds + 1 := by
    unfold X4_addsLetter_pT0_1
    rw [ht, if_neg n97, if_neg n106, ha, if_pos z0, if_neg sv, if_neg s5, v1, if_pos cl, c2]
  have A2 : X4_addsLetter_pT0_2 a.1 a.2.1 a.2.2.1 a.2.2.2.1 a.2.2.2.2.1 a.2.2.2.2.2.1 a.2.2.2.2.2.2.2 (tp i) = sm S wds + 1 := by
    unfold X4_addsLetter_pT0_2
    rw [ht, if_neg n97, if_neg n106, ha, if_pos z0, if_neg sv, if_neg s5, v1, if_pos cl, c3]
  have A3 : X4_addsLetter_pT0_3 a.1 a.2.1 a.2.2.1 a.2.2.2.1 a.2.2.2.2.1 a.2.2.2.2.2.1 a.2.2.2.2.2.2.2 (tp i) = nI 1 := by
    unfold X4_addsLetter_pT0_3
    rw [ht, if_neg n97, if_neg n106, ha, if_pos z0, if_neg sv, if_neg s5, v1, if_pos cl]
  have A4 : X4_addsLetter_cT1 a.1 a.2.1 a.2.2.1 a.2.2.2.1 a.2.2.2.2.1 a.2.2.2.2.2.1 a.2.2.2.2.2.2.2 (tp i) = X4_pointOf_cT1 a.1 (a.2.1 + 1) a.2.2.1 (nI 1) a.2.2.2.2.1 (nI (c + 97)) := by
    unfold X4_addsLetter_cT1
    rw [ht, if_neg n97, if_neg n106, ha, if_pos z0, if_neg sv, if_neg s5, v1, if_pos cl]
  have A5 : X4_addsLetter_cT2 a.1 a.2.1 a.2.2.1 a.2.2.2.1 a.2.2.2.2.1 a.2.2.2.2.2.1 a.2.2.2.2.2.2.2 (tp i) = upd (upd a.2.2.2.2.2.1 wds (nI 0)) wds (nI 1) := by
    unfold X4_addsLetter_cT2
    rw [ht, if_neg n97, if_neg n106, ha, if_pos z0, if_neg sv, if_neg s5, v1, if_pos cl, c2, Nat.add_sub_cancel]
    have : upd a.2.2.2.2.2.1 wds (nI 0) wds = nI 0 := if_pos rfl
    rw [this]
    rfl
  have A6 : X4_addsLetter_cT4 a.1 a.2.1 a.2.2.1 a.2.2.2.1 a.2.2.2.2.1 a.2.2.2.2.2.1 a.2.2.2.2.2.2.1 a.2.2.2.2.2.2.2 (tp i) = updR a.2.2.2.2.2.2.1 wds (upd (a.2.2.2.2.2.2.1 wds) 0 (nI ((addD (dW S C wds) c).idxOf c))) := by
    unfold X4_addsLetter_cT4
    rw [ht, if_neg n97, if_neg n106, ha, if_pos z0, if_neg sv, if_neg s5, v1, if_pos cl, c2, Nat.add_sub_cancel]
    have : upd a.2.2.2.2.2.1 wds (nI 0) wds = nI 0 := if_pos rfl
    rw [this]
    rfl
  have A7 : X4_addsLetter_cT16 a.1 a.2.1 a.2.2.1 a.2.2.2.1 a.2.2.2.2.1 a.2.2.2.2.2.1 a.2.2.2.2.2.2.2 (tp i) = upd (upd a.2.2.2.2.2.2.2 wds (nI 0)) wds (nI 0 ||| (nI 1 <<< (nI ((addD (dW S C wds) c).idxOf c) &&& 31))) := by
    unfold X4_addsLetter_cT16
    rw [ht, if_neg n97, if_neg n106, ha, if_pos z0, if_neg sv, if_neg s5, v1, if_pos cl, c2, Nat.add_sub_cancel]
    have : upd a.2.2.2.2.2.2.2 wds (nI 0) wds = nI 0 := if_pos rfl
    rw [this]
  have sub97 : nI (c + 97) - nI 97 = nI c := by rw [zq_sub rfl rfl (by omega), Nat.add_sub_cancel]
  have inl : ¬ X7_isIn_v (nI c) (nI 0) (nI 9) = 0 := fun q => by
    rcases isIn_b.mp q with q | q
    · exact absurd q (nI_pos (by omega))
    · exact absurd q (nI_nlt (by omega) (by omega))
  have mv : ¬ X7_mayCome_v b.1 b.2.2.2.2 (nI c) b.2.1 = 0 := by
    unfold X7_mayCome_v
    rw [hb, if_pos z0, r1, if_neg (nI_ge h12 (by omega))]
    decide
  refine ⟨?_, ?_, ?_⟩
  · unfold X4_take_L22_B
    rw [AV, ht, if_neg n32, if_neg nz]
  · unfold X7_readWords_L9_B
    rw [ht, sub97, if_neg n32, if_neg inl, if_neg mv, ite_self]
  · have eF : X4_take_L22_F tp i a = ((addD (dW S C wds) c).length, wds + 1, sm S wds + 1, nI 1, X4_pointOf_cT1 a.1 (a.2.1 + 1) a.2.2.1 (nI 1) a.2.2.2.2.1 (nI (c + 97)), upd (upd a.2.2.2.2.2.1 wds (nI 0)) wds (nI 1), updR a.2.2.2.2.2.2.1 wds (upd (a.2.2.2.2.2.2.1 wds) 0 (nI ((addD (dW S C wds) c).idxOf c))), upd (upd a.2.2.2.2.2.2.2 wds (nI 0)) wds (nI 0 ||| (nI 1 <<< (nI ((addD (dW S C wds) c).idxOf c) &&& 31)))) := by
      unfold X4_take_L22_F
      rw [AV, A0, A1, A2, A3, A4, A5, A6, A7, if_neg (by rw [ht]; exact n32), if_neg nz]
    have eF2 : X7_readWords_L9_F tp i b = (wds + 1, 1, upd b.2.2.1 wds (nI 1), upd b.2.2.2.1 (5 * wds) (nI c), upd (upd b.2.2.2.2 wds (nI 0)) wds (nI 0 ||| (nI 1 <<< (nI c &&& 31)))) := by
      unfold X7_readWords_L9_F
      have : upd b.2.2.2.2 wds (nI 0) wds = nI 0 := if_pos rfl
      rw [ht, sub97, if_neg n32, if_neg inl, if_neg mv, hb, if_pos z0, r1, Nat.add_sub_cancel, this]
      rfl
    rw [eF, eF2]
    have eD : dW (uN S wds 1) (uC C wds 0 c) (wds + 1) = addD (dW S C wds) c := dW_new
    refine ⟨wds + 1, 1, uN S wds 1, uC C wds 0 c, ⟨by rw [eD]; exact nd', by rw [eD]; exact lt', by omega, fun w hw => ?_, fun _ => ⟨by omega, ?_, fun k hk j1 j2 i1 i2 _ _ h1 h2 e1 e2 => ?_⟩⟩, ⟨by rw [eD], rfl, sm_new.symm, by rw [eD]; exact v3, fun w hw => ?_⟩, ⟨rfl, fun w hw => ?_⟩, rfl, rfl⟩
    · by_cases e : w = wds
      · subst e
        have s1 : uN S w 1 w = 1 := if_pos rfl
        rw [s1]
        refine ⟨by omega, by omega, fun j hj => ?_, fun j k hj hk _ => by omega, fun q => by omega⟩
        rw [eD, show j = 0 by omega, show uC C w 0 c w 0 = c from if_pos ⟨rfl, rfl⟩]
        exact mc
      · have s1 : uN S wds 1 w = S w := if_neg e
        have cc : ∀ j, uC C wds 0 c w j = C w j := fun j => if_neg (fun q => e q.1)
        obtain ⟨u1, u2, u3, u4, u5⟩ := g4 w (by omega)
        rw [s1]
        refine ⟨u1, u2, fun j hj => ?_, fun j k hj hk q => ?_, fun _ => u5 (Or.inr rfl)⟩
        · rw [eD, cc j]
          exact addD_sub (u3 j hj)
        · rw [cc j, cc k] at q
          exact u4 j k hj hk q
    · show uN S wds 1 (wds + 1 - 1) = 1
      rw [Nat.add_sub_cancel]
      exact if_pos rfl
    · rw [Nat.add_sub_cancel] at hk e1 e2
      have i10 : i1 = 0 := by omega
      have i20 : i2 = 0 := by omega
      rw [e1, e2, i10, i20]
    · rw [eD]
      show upd (upd a.2.2.2.2.2.1 wds (nI 0)) wds (nI 1) w = nI (uN S wds 1 w) ∧ (∀ j, j < uN S wds 1 w → updR a.2.2.2.2.2.2.1 wds (upd (a.2.2.2.2.2.2.1 wds) 0 (nI ((addD (dW S C wds) c).idxOf c))) w j = nI ((addD (dW S C wds) c).idxOf (uC C wds 0 c w j))) ∧ MSK (upd (upd a.2.2.2.2.2.2.2 wds (nI 0)) wds (nI 0 ||| (nI 1 <<< (nI ((addD (dW S C wds) c).idxOf c) &&& 31))) w) (uN S wds 1 w) (fun j => (addD (dW S C wds) c).idxOf (uC C wds 0 c w j))
      by_cases e : w = wds
      · subst e
        have s1 : uN S w 1 w = 1 := if_pos rfl
        have cc : uC C w 0 c w 0 = c := if_pos ⟨rfl, rfl⟩
        rw [s1]
        refine ⟨if_pos rfl, fun j hj => ?_, ?_⟩
        · rw [updR_at, if_pos rfl, show j = 0 by omega, cc]
          exact if_pos rfl
        · have : upd (upd a.2.2.2.2.2.2.2 w (nI 0)) w (nI 0 ||| (nI 1 <<< (nI ((addD (dW S C w) c).idxOf c) &&& 31))) w = nI 0 ||| (nI 1 <<< (nI ((addD (dW S C w) c).idxOf c) &&& 31)) := if_pos rfl
          rw [this]
          exact MSK_add (s := 0) MSK_0 pl (by rw [cc])
      · have s1 : uN S wds 1 w = S w := if_neg e
        have cc : ∀ j, uC C wds 0 c w j = C w j := fun j => if_neg (fun q => e q.1)
        obtain ⟨u1, u2, u3⟩ := c5 w (by omega)
        have mem := (g4 w (by omega)).2.2.1
        rw [s1]
        refine ⟨?_, fun j hj => ?_, ?_⟩
        · unfold upd
          rw [if_neg e, if_neg e]
          exact u1
        · rw [updR_at, if_neg e, cc j, addD_idx (mem j hj)]
          exact u2 j hj
        · have : upd (upd a.2.2.2.2.2.2.2 wds (nI 0)) wds (nI 0 ||| (nI 1 <<< (nI ((addD (dW S C wds) c).idxOf c) &&& 31))) w = a.2.2.2.2.2.2.2 w := by
            unfold upd
            rw [if_neg e, if_neg e]
          rw [this]
          exact MSK_ext u3 (fun j hj => by
            show _ = (addD (dW S C wds) c).idxOf (uC C wds 0 c w j)
            rw [cc j, addD_idx (mem j hj)])
    · show upd b.2.2.1 wds (nI 1) w = nI (uN S wds 1 w) ∧ (∀ j, j < uN S wds 1 w → upd b.2.2.2.1 (5 * wds) (nI c) (5 * w + j) = nI (uC C wds 0 c w j)) ∧ MSK (upd (upd b.2.2.2.2 wds (nI 0)) wds (nI 0 ||| (nI 1 <<< (nI c &&& 31))) w) (uN S wds 1 w) (uC C wds 0 c w)
      by_cases e : w = wds
      · subst e
        have s1 : uN S w 1 w = 1 := if_pos rfl
        have cc : uC C w 0 c w 0 = c := if_pos ⟨rfl, rfl⟩
        rw [s1]
        refine ⟨if_pos rfl, fun j hj => ?_, ?_⟩
        · rw [show j = 0 by omega, cc]
          exact if_pos (by omega)
        · have : upd (upd b.2.2.2.2 w (nI 0)) w (nI 0 ||| (nI 1 <<< (nI c &&& 31))) w = nI 0 ||| (nI 1 <<< (nI c &&& 31)) := if_pos rfl
          rw [this]
          exact MSK_add (s := 0) MSK_0 hc cc
      · have s1 : uN S wds 1 w = S w := if_neg e
        have cc : ∀ j, uC C wds 0 c w j = C w j := fun j => if_neg (fun q => e q.1)
        obtain ⟨u1, u2, u3⟩ := r2 w (by omega)
        have s5' := (g4 w (by omega)).2.1
        rw [s1]
        refine ⟨?_, fun j hj => ?_, ?_⟩
        · unfold upd
          rw [if_neg e]
          exact u1
        · rw [cc j]
          unfold upd
          rw [if_neg (by omega)]
          exact u2 j hj
        · have : upd (upd b.2.2.2.2 wds (nI 0)) wds (nI 0 ||| (nI 1 <<< (nI c &&& 31))) w = b.2.2.2.2 w := by
            unfold upd
            rw [if_neg e, if_neg e]
          rw [this]
          exact MSK_ext u3 (fun j _ => (cc j).symm)
end ST
