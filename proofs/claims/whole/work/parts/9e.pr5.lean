/-! ===== reading: the reference's second pass ===== -/
abbrev T7 := (Nat) × (Nat) × (Nat → Int32) × (Nat → Int32) × (Nat → Int32) × (Nat → Int32) × (Nat → Int32)
def r95 (wl : Nat → Int32) (w : Nat) (i : Nat) (a9 : T7) : T7 := if (a9.2.2.2.1 ((wl ((5 * w) + i)).toNatClampNeg)) = (-4) then (a9.1 + 1, a9.2.1 + 1, upd a9.2.2.1 a9.1 (nI (((wl ((5 * w) + i)).toNatClampNeg) + 97)), upd a9.2.2.2.1 ((wl ((5 * w) + i)).toNatClampNeg) (nI a9.1), a9.2.2.2.2.1, upd a9.2.2.2.2.2.1 ((5 * w) + i) ((upd a9.2.2.2.1 ((wl ((5 * w) + i)).toNatClampNeg) (nI a9.1)) ((wl ((5 * w) + i)).toNatClampNeg)), upd a9.2.2.2.2.2.2 w ((a9.2.2.2.2.2.2 w) ||| ((nI 1) <<< (((upd a9.2.2.2.1 ((wl ((5 * w) + i)).toNatClampNeg) (nI a9.1)) ((wl ((5 * w) + i)).toNatClampNeg)) &&& 31)))) else (a9.1, a9.2.1 + 1, a9.2.2.1, a9.2.2.2.1, a9.2.2.2.2.1, upd a9.2.2.2.2.2.1 ((5 * w) + i) (a9.2.2.2.1 ((wl ((5 * w) + i)).toNatClampNeg)), upd a9.2.2.2.2.2.2 w ((a9.2.2.2.2.2.2 w) ||| ((nI 1) <<< ((a9.2.2.2.1 ((wl ((5 * w) + i)).toNatClampNeg)) &&& 31))))
def r65 (ws wl : Nat → Int32) (w : Nat) (a9 : T7) : T7 := zfold (r95 wl w) ((ws w).toNatClampNeg) 0 (a9.1, a9.2.1, a9.2.2.1, a9.2.2.2.1, upd a9.2.2.2.2.1 w (ws w), a9.2.2.2.2.2.1, upd a9.2.2.2.2.2.2 w (nI 0))
theorem r65_eq (tps pts lns brs ors : Nat) (stp hasP fld laid told : Int32) (rws : Nat) (cms : Int32) (cmT : Nat) (cmS isN : Int32) (trs : Nat) (tp : Nat → Int32) (ws wl wm : Nat → Int32) (w : Nat) (a : T7) : X7_read_L65_F tps pts lns brs ors stp hasP fld laid told rws cms cmT cmS isN trs tp ws wl wm w a = r65 (X7_readWords_c83 (nI 0) tps pts lns brs ors stp hasP fld laid told rws cms cmT cmS isN trs tp ws wl wm) (X7_readWords_c84 (nI 0) tps pts lns brs ors stp hasP fld laid told rws cms cmT cmS isN trs tp ws wl wm) w a := rfl
theorem dL_sub {r : Nat → Nat} {D : List Nat} {x : Nat} (h : x ∈ D) : ∀ s, x ∈ dL r s D := by
  intro s
  induction s with
  | zero => exact h
  | succ s ih => exact addD_sub ih
theorem dL_mem {r : Nat → Nat} {D : List Nat} : ∀ s j, j < s → r j ∈ dL r s D := by
  intro s
  induction s with
  | zero => intro j hj; exact absurd hj (Nat.not_lt_zero j)
  | succ s ih =>
    intro j hj
    by_cases c : j = s
    · subst c
      exact addD_mem
    · exact addD_sub (ih j (by omega))
theorem dL_nd {r : Nat → Nat} {D : List Nat} (h : D.Nodup) : ∀ s, (dL r s D).Nodup := by
  intro s
  induction s with
  | zero => exact h
  | succ s ih => exact addD_nd ih
theorem dL_lt {r : Nat → Nat} {D : List Nat} (h : ∀ c, c ∈ D → c < 10) : ∀ s, (∀ j, j < s → r j < 10) → ∀ c, c ∈ dL r s D → c < 10 := by
  intro s
  induction s with
  | zero => intro _; exact h
  | succ s ih =>
    intro hr c hc
    rcases addD_or hc with q | q
    · exact ih (fun j hj => hr j (by omega)) c q
    · rw [q]
      exact hr s (by omega)
theorem dW_mem {S : Nat → Nat} {C : Nat → Nat → Nat} : ∀ k v, v < k → ∀ j, j < S v → C v j ∈ dW S C k := by
  intro k
  induction k with
  | zero => intro v hv; exact absurd hv (Nat.not_lt_zero v)
  | succ k ih =>
    intro v hv j hj
    by_cases c : v = k
    · subst c
      exact dL_mem _ j hj
    · exact dL_sub (ih v (by omega) j hj) _
theorem dW_nd {S : Nat → Nat} {C : Nat → Nat → Nat} : ∀ k, (dW S C k).Nodup := by
  intro k
  induction k with
  | zero => exact List.nodup_nil
  | succ k ih => exact dL_nd ih _
theorem dW_lt10 {S : Nat → Nat} {C : Nat → Nat → Nat} : ∀ k, (∀ v, v < k → ∀ j, j < S v → C v j < 10) → ∀ c, c ∈ dW S C k → c < 10 := by
  intro k
  induction k with
  | zero => intro _ c hc; simp [dW] at hc
  | succ k ih => intro h; exact dL_lt (ih (fun v hv => h v (by omega))) _ (fun j hj => h k (by omega) j hj)
/-- the second pass, in the midst of a word -/
def PQ2 (S : Nat → Nat) (C : Nat → Nat → Nat) (w i : Nat) (a : T7) : Prop :=
  a.1 = (dL (C w) i (dW S C w)).length ∧ a.2.1 = sm S w + i ∧ (∀ k c, (dL (C w) i (dW S C w))[k]? = some c → a.2.2.1 k = nI (c + 97)) ∧ (∀ c, c < 10 → a.2.2.2.1 c = if c ∈ dL (C w) i (dW S C w) then nI ((dL (C w) i (dW S C w)).idxOf c) else -4) ∧
  (∀ v, v < w → a.2.2.2.2.1 v = nI (S v) ∧ (∀ j, j < S v → a.2.2.2.2.2.1 (5 * v + j) = nI ((dL (C w) i (dW S C w)).idxOf (C v j))) ∧ MSK (a.2.2.2.2.2.2 v) (S v) (fun j => (dL (C w) i (dW S C w)).idxOf (C v j))) ∧
  a.2.2.2.2.1 w = nI (S w) ∧ (∀ j, j < i → a.2.2.2.2.2.1 (5 * w + j) = nI ((dL (C w) i (dW S C w)).idxOf (C w j))) ∧ MSK (a.2.2.2.2.2.2 w) i (fun j => (dL (C w) i (dW S C w)).idxOf (C w j))
section PQ2
variable {wds : Nat} {S : Nat → Nat} {C : Nat → Nat → Nat}
theorem PQ2_step (hS : ∀ w, w < wds → 1 ≤ S w ∧ S w ≤ 5) (hC : ∀ w, w < wds → ∀ j, j < S w → C w j < 10) {wl : Nat → Int32} {w i : Nat} (hw : w < wds) (hi : i < S w) (hl : wl (5 * w + i) = nI (C w i)) {a : T7} (h : PQ2 S C w i a) : PQ2 S C w (i + 1) (r95 wl w i a) := by
  obtain ⟨h1, h2, h3, h4, h5, h6, h7, h8⟩ := h
  have hc := hC w hw i hi
  have nd : (dL (C w) i (dW S C w)).Nodup := dL_nd (dW_nd w) i
  have lt : ∀ c, c ∈ dL (C w) i (dW S C w) → c < 10 := dL_lt (dW_lt10 w (fun v hv j hj => hC v (by omega) j hj)) i (fun j hj => hC w hw j (by omega))
  have memv : ∀ v, v < w → ∀ j, j < S v → C v j ∈ dL (C w) i (dW S C w) := fun v hv j hj => dL_sub (dW_mem w v hv j hj) i
  have memw : ∀ j, j < i → C w j ∈ dL (C w) i (dW S C w) := fun j hj => dL_mem i j hj
  have eD : dL (C w) (i + 1) (dW S C w) = addD (dL (C w) i (dW S C w)) (C w i) := rfl
  unfold PQ2
  rw [eD]
  generalize dL (C w) i (dW S C w) = D at *
  have nd' : (addD D (C w i)).Nodup := addD_nd nd
  have lt' : ∀ x, x ∈ addD D (C w i) → x < 10 := fun x hx => by
    rcases addD_or hx with q | q
    · exact lt x q
    · omega
  have len' := nd_len nd' lt'
  have mc : C w i ∈ addD D (C w i) := addD_mem
  have pl : (addD D (C w i)).idxOf (C w i) < 10 := by have := idx_lt mc; omega
  have cl : (wl (5 * w + i)).toNatClampNeg = C w i := by rw [hl, nI_clamp (by omega)]
  -- the new rows of points and masks, whatever the case
  have fin : ∀ (r : T7), r.1 = (addD D (C w i)).length → r.2.1 = a.2.1 + 1 → (∀ k c, (addD D (C w i))[k]? = some c → r.2.2.1 k = nI (c + 97)) → (∀ c, c < 10 → r.2.2.2.1 c = if c ∈ addD D (C w i) then nI ((addD D (C w i)).idxOf c) else -4) → r.2.2.2.2.1 = a.2.2.2.2.1 → r.2.2.2.2.2.1 = upd a.2.2.2.2.2.1 (5 * w + i) (nI ((addD D (C w i)).idxOf (C w i))) → r.2.2.2.2.2.2 = upd a.2.2.2.2.2.2 w (a.2.2.2.2.2.2 w ||| (nI 1 <<< (nI ((addD D (C w i)).idxOf (C w i)) &&& 31))) →
      r.1 = (addD D (C w i)).length ∧ r.2.1 = sm S w + (i + 1) ∧ (∀ k c, (addD D (C w i))[k]? = some c → r.2.2.1 k = nI (c + 97)) ∧ (∀ c, c < 10 → r.2.2.2.1 c = if c ∈ addD D (C w i) then nI ((addD D (C w i)).idxOf c) else -4) ∧ (∀ v, v < w → r.2.2.2.2.1 v = nI (S v) ∧ (∀ j, j < S v → r.2.2.2.2.2.1 (5 * v + j) = nI ((addD D (C w i)).idxOf (C v j))) ∧ MSK (r.2.2.2.2.2.2 v) (S v) (fun j => (addD D (C w i)).idxOf (C v j))) ∧ r.2.2.2.2.1 w = nI (S w) ∧ (∀ j, j < i + 1 → r.2.2.2.2.2.1 (5 * w + j) = nI ((addD D (C w i)).idxOf (C w j))) ∧ MSK (r.2.2.2.2.2.2 w) (i + 1) (fun j => (addD D (C w i)).idxOf (C w j)) := by
    intro r q1 q2 q3 q4 q5 q6 q7
    refine ⟨q1, by rw [q2, h2]; omega, q3, q4, fun v hv => ?_, by rw [q5]; exact h6, fun j hj => ?_, ?_⟩
    · obtain ⟨u1, u2, u3⟩ := h5 v hv
      have s5 := (hS v (by omega)).2
      refine ⟨by rw [q5]; exact u1, fun j hj => ?_, ?_⟩
      · rw [q6, addD_idx (memv v hv j hj)]
        unfold upd
        rw [if_neg (by omega)]
        exact u2 j hj
      · rw [q7]
        unfold upd
        rw [if_neg (by omega)]
        exact MSK_ext u3 (fun j hj => (addD_idx (memv v hv j hj)).symm)
    · rw [q6]
      unfold upd
      by_cases c : j = i
      · rw [if_pos (by omega), c]
      · rw [if_neg (by omega), addD_idx (memw j (by omega))]
        exact h7 j (by omega)
    · rw [q7]
      have : upd a.2.2.2.2.2.2 w (a.2.2.2.2.2.2 w ||| (nI 1 <<< (nI ((addD D (C w i)).idxOf (C w i)) &&& 31))) w = a.2.2.2.2.2.2 w ||| (nI 1 <<< (nI ((addD D (C w i)).idxOf (C w i)) &&& 31)) := if_pos rfl
      rw [this]
      exact MSK_add (MSK_ext h8 (fun j hj => (addD_idx (memw j hj)).symm)) pl rfl
  have e4 := h4 (C w i) hc
  by_cases m : C w i ∈ D
  · rw [if_pos m] at e4
    have ea : addD D (C w i) = D := if_pos m
    have nn : ¬ a.2.2.2.1 ((wl (5 * w + i)).toNatClampNeg) = -4 := by
      rw [cl, e4]
      exact nI_n4 (by have := idx_lt m; have := nd_len nd lt; omega)
    refine fin _ ?_ ?_ ?_ ?_ ?_ ?_ ?_
    · unfold r95
      rw [if_neg nn, ea]
      exact h1
    · unfold r95
      rw [if_neg nn]
    · unfold r95
      rw [if_neg nn, ea]
      exact h3
    · unfold r95
      rw [if_neg nn, ea]
      exact h4
    · unfold r95
      rw [if_neg nn]
    · unfold r95
      rw [if_neg nn, cl, ea]
      show upd _ _ (a.2.2.2.1 (C w i)) = _
      rw [e4]
    · unfold r95
      rw [if_neg nn, cl, ea]
      show upd _ _ (_ ||| (nI 1 <<< (a.2.2.2.1 (C w i) &&& 31))) = _
      rw [e4]
  · rw [if_neg m] at e4
    have ea : addD D (C w i) = D ++ [C w i] := if_neg m
    have nn : a.2.2.2.1 ((wl (5 * w + i)).toNatClampNeg) = -4 := by rw [cl, e4]
    have ix : (addD D (C w i)).idxOf (C w i) = a.1 := by
      rw [ea, List.idxOf_append, if_neg m, h1]
      simp
    have u0 : upd a.2.2.2.1 (C w i) (nI a.1) (C w i) = nI a.1 := if_pos rfl
    refine fin _ ?_ ?_ ?_ ?_ ?_ ?_ ?_
    · unfold r95
      rw [if_pos nn, ea]
      show a.1 + 1 = _
      rw [h1]
      simp
    · unfold r95
      rw [if_pos nn]
    · unfold r95
      rw [if_pos nn, ea, cl]
      intro k c hk
      show upd a.2.2.1 a.1 (nI (C w i + 97)) k = _
      unfold upd
      by_cases q : k = a.1
      · rw [if_pos q]
        rw [q, h1, List.getElem?_append_right (Nat.le_refl _), Nat.sub_self] at hk
        cases hk
        rfl
      · rw [if_neg q]
        rcases Nat.lt_or_ge k D.length with u | u
        · rw [List.getElem?_append_left u] at hk
          exact h3 k c hk
        · rw [List.getElem?_eq_none (show (D ++ [C w i]).length ≤ k by simp; omega)] at hk
          cases hk
    · unfold r95
      rw [if_pos nn, cl]
      intro c hc2
      show upd a.2.2.2.1 (C w i) (nI a.1) c = _
      unfold upd
      by_cases q : c = C w i
      · rw [if_pos q, q, if_pos mc, ix]
      · rw [if_neg q, h4 c hc2]
        by_cases m2 : c ∈ D
        · rw [if_pos m2, if_pos (addD_sub m2), addD_idx m2]
        · rw [if_neg m2, if_neg (fun u => (addD_or u).elim m2 q)]
    · unfold r95
      rw [if_pos nn]
    · unfold r95
      rw [if_pos nn, cl, ix]
      show upd _ _ (upd a.2.2.2.1 (C w i) (nI a.1) (C w i)) = _
      rw [u0]
    · unfold r95
      rw [if_pos nn, cl, ix]
      show upd _ _ (_ ||| (nI 1 <<< (upd a.2.2.2.1 (C w i) (nI a.1) (C w i) &&& 31))) = _
      rw [u0]
/-- the second pass, ahead of a word -/
def PQ1 (S : Nat → Nat) (C : Nat → Nat → Nat) (w : Nat) (a : T7) : Prop :=
  a.1 = (dW S C w).length ∧ a.2.1 = sm S w ∧ (∀ k c, (dW S C w)[k]? = some c → a.2.2.1 k = nI (c + 97)) ∧ (∀ c, c < 10 → a.2.2.2.1 c = if c ∈ dW S C w then nI ((dW S C w).idxOf c) else -4) ∧
  (∀ v, v < w → a.2.2.2.2.1 v = nI (S v) ∧ (∀ j, j < S v → a.2.2.2.2.2.1 (5 * v + j) = nI ((dW S C w).idxOf (C v j))) ∧ MSK (a.2.2.2.2.2.2 v) (S v) (fun j => (dW S C w).idxOf (C v j)))
theorem PQ1_step (hS : ∀ w, w < wds → 1 ≤ S w ∧ S w ≤ 5) (hC : ∀ w, w < wds → ∀ j, j < S w → C w j < 10) {ws wl : Nat → Int32} {w : Nat} (hw : w < wds) (hs : ws w = nI (S w)) (hl : ∀ i, i < S w → wl (5 * w + i) = nI (C w i)) {a : T7} (h : PQ1 S C w a) : PQ1 S C (w + 1) (r65 ws wl w a) := by
  obtain ⟨h1, h2, h3, h4, h5⟩ := h
  have s5 := hS w hw
  unfold r65
  rw [hs, nI_clamp (by omega)]
  have key := zfold_I (n := S w) (fun i (r : T7) => PQ2 S C w i r) (F := r95 wl w) (fun i r hi hr => PQ2_step hS hC hw hi (hl i hi) hr) (S w) 0 (a.1, a.2.1, a.2.2.1, a.2.2.2.1, upd a.2.2.2.2.1 w (nI (S w)), a.2.2.2.2.2.1, upd a.2.2.2.2.2.2 w (nI 0)) (by omega) ⟨h1, h2, h3, h4, fun v hv => ?_, if_pos rfl, fun j hj => absurd hj (Nat.not_lt_zero j), ?_⟩
  · obtain ⟨k1, k2, k3, k4, k5, k6, k7, k8⟩ := key
    refine ⟨k1, k2, k3, k4, fun v hv => ?_⟩
    by_cases e : v = w
    · subst e
      exact ⟨k6, k7, k8⟩
    · exact k5 v (by omega)
  · obtain ⟨u1, u2, u3⟩ := h5 v hv
    refine ⟨?_, u2, ?_⟩
    · show upd a.2.2.2.2.1 w (nI (S w)) v = _
      unfold upd
      rw [if_neg (by omega)]
      exact u1
    · show MSK (upd a.2.2.2.2.2.2 w (nI 0) v) _ _
      have : upd a.2.2.2.2.2.2 w (nI 0) v = a.2.2.2.2.2.2 v := if_neg (by omega)
      rw [this]
      exact u3
  · show MSK (upd a.2.2.2.2.2.2 w (nI 0) w) 0 _
    have : upd a.2.2.2.2.2.2 w (nI 0) w = nI 0 := if_pos rfl
    rw [this]
    exact MSK_0
theorem PQ1_all (hS : ∀ w, w < wds → 1 ≤ S w ∧ S w ≤ 5) (hC : ∀ w, w < wds → ∀ j, j < S w → C w j < 10) {ws wl : Nat → Int32} (hs : ∀ w, w < wds → ws w = nI (S w)) (hl : ∀ w, w < wds → ∀ i, i < S w → wl (5 * w + i) = nI (C w i)) {lo pof ls lp lm : Nat → Int32} (hp : ∀ c, c < 10 → pof c = -4) : PQ1 S C wds (zfold (r65 ws wl) wds 0 (0, 0, lo, pof, ls, lp, lm)) :=
  zfold_I (n := wds) (fun w (r : T7) => PQ1 S C w r) (F := r65 ws wl) (fun w r hw hr => PQ1_step hS hC hw (hs w hw) (hl w hw) hr) wds 0 (0, 0, lo, pof, ls, lp, lm) (by omega) ⟨rfl, rfl, fun k c h => by simp [dW] at h, fun c hc => (hp c hc).trans (if_neg (by simp [dW])).symm, fun v hv => absurd hv (Nat.not_lt_zero v)⟩
end PQ2
