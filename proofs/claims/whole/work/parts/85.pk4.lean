/-! ===== kinds: the reference's count ===== -/
def trL : Nat → List Nat
  | 3 => [7]
  | 4 => [7, 11, 13, 14]
  | 5 => [7, 11, 19, 13, 21, 25, 14, 22, 26, 28]
  | _ => [7, 11, 19, 35, 13, 21, 37, 25, 41, 49, 14, 22, 38, 26, 42, 50, 28, 44, 52, 56]
def TRR (a b : (Nat → Int32) × Nat) : Prop := a.2 = b.2 ∧ ∀ j, j < a.2 → a.1 j = b.1 j
theorem tri_same {tm tm' : Nat → Int32} {n : Nat} : TRR (zfold (X7_layTriples_L7_F n) n 0 (tm, 0)) (zfold (X7_layTriples_L7_F n) n 0 (tm', 0)) := by
  refine zfold_R (n := n) (fun _ => TRR) (fun a0 A B ha q => ?_) n 0 _ _ (by omega) ⟨rfl, fun j hj => absurd hj (Nat.not_lt_zero j)⟩
  unfold X7_layTriples_L7_F
  refine zfold_R (n := n) (fun _ => TRR) (fun b A B hb q => ?_) (n - (a0 + 1)) (a0 + 1) (A.1, A.2) (B.1, B.2) (by omega) q
  unfold X7_layTriples_L16_F
  refine zfold_R (n := n) (fun _ => TRR) (fun c A B hc q => ?_) (n - (b + 1)) (b + 1) (A.1, A.2) (B.1, B.2) (by omega) q
  unfold X7_layTriples_L26_F
  refine ⟨by show A.2 + 1 = B.2 + 1; rw [q.1], fun j hj => ?_⟩
  show upd A.1 A.2 _ j = upd B.1 B.2 _ j
  unfold upd
  have hj' : j < A.2 + 1 := hj
  by_cases c1 : j = A.2
  · rw [if_pos c1, if_pos (by rw [← q.1]; exact c1)]
  · rw [if_neg c1, if_neg (by rw [← q.1]; exact c1)]
    exact q.2 j (by omega)
theorem tri_0 : ∀ n, n < 7 → 3 ≤ n → X7_layTriples_p76_17 (fun _ => 0) n = (trL n).length ∧ (trL n).length ≤ 20 ∧ ∀ j, j < (trL n).length → X7_layTriples_c110 (fun _ => 0) n j = nI ((trL n).getD j 0) ∧ (trL n).getD j 0 < 2 ^ n := by decide +kernel
theorem tri_is {tm : Nat → Int32} {n : Nat} (h3 : 3 ≤ n) (hn : n ≤ 6) : X7_layTriples_p76_17 tm n = (trL n).length ∧ ∀ j, j < (trL n).length → X7_layTriples_c110 tm n j = nI ((trL n).getD j 0) ∧ (trL n).getD j 0 < 2 ^ n := by
  obtain ⟨q1, q2⟩ := tri_same (tm := tm) (tm' := fun _ => 0) (n := n)
  obtain ⟨z1, -, z2⟩ := tri_0 n (by omega) h3
  unfold X7_layTriples_p76_17 X7_layTriples_c110 at *
  refine ⟨q1.trans z1, fun j hj => ⟨?_, (z2 j hj).2⟩⟩
  rw [q2 j (by rw [q1, z1]; exact hj)]
  exact (z2 j hj).1
def apB (x y : Nat) : Bool := Nat.beq ((x &&& y) &&& ((x &&& y) - 1)) 0
theorem ap_0 : ∀ z, z < 64 → ((nI z &&& (nI z - nI 1)) = 0 ↔ Nat.beq (z &&& (z - 1)) 0 = true) := by decide +kernel
theorem ap_is {x y : Nat} (hx : x < 64) : X7_isApart_v (nI x) (nI y) = if apB x y = true then nI 1 else nI 0 := by
  unfold X7_isApart_v apB
  have z9 : x &&& y < 64 := by
    have := @Nat.and_le_left x y
    omega
  rw [nI_and]
  by_cases c : (nI (x &&& y) &&& (nI (x &&& y) - nI 1)) = 0
  · rw [if_pos c, if_pos ((ap_0 _ z9).mp c)]
  · rw [if_neg c, if_neg (fun q => c ((ap_0 _ z9).mpr q))]
def goodL : List Nat → Bool
  | [] => true
  | x :: l => l.all (apB x) && goodL l
theorem good_z {tm ch : Nat → Int32} {i d k : Nat} : (zfoldX X7_isGoodSet_L14_B (X7_isGoodSet_L14_F tm ch i) d k (nI 0)).2 = nI 0 := by
  cases d with
  | zero => rfl
  | succ d => rw [zfoldX_hit (b := nI 0) (by unfold X7_isGoodSet_L14_B; rw [if_pos (show nI 0 = 0 from rfl)])]
theorem good_in {tm ch : Nat → Int32} {i x : Nat} (hx : x < 64) (hi : tm (ch i).toNatClampNeg = nI x) : ∀ (l : List Nat) (k : Nat), (∀ j, j < l.length → tm (ch (k + j)).toNatClampNeg = nI (l.getD j 0)) → (zfoldX X7_isGoodSet_L14_B (X7_isGoodSet_L14_F tm ch i) l.length k (nI 1)).2 = if l.all (apB x) = true then nI 1 else nI 0 := by
  intro l
  induction l with
  | nil => intro k _; rfl
  | cons y l ih =>
    intro k h
    have eB : X7_isGoodSet_L14_B k (nI 1) = none := by unfold X7_isGoodSet_L14_B; rw [if_neg (by decide)]
    have eF : X7_isGoodSet_L14_F tm ch i k (nI 1) = if apB x y = true then nI 1 else nI 0 := by
      unfold X7_isGoodSet_L14_F
      have := h 0 (by simp)
      rw [if_neg (by decide), hi, show tm (ch k).toNatClampNeg = nI y from this, ap_is hx]
    have e2 : zfoldX X7_isGoodSet_L14_B (X7_isGoodSet_L14_F tm ch i) (y :: l).length k (nI 1) = zfoldX X7_isGoodSet_L14_B (X7_isGoodSet_L14_F tm ch i) l.length (k + 1) (if apB x y = true then nI 1 else nI 0) := by
      simp only [List.length_cons, zfoldX, eB, eF]
    rw [e2]
    have e3 : (y :: l).all (apB x) = (apB x y && l.all (apB x)) := rfl
    rw [e3]
    by_cases c : apB x y = true
    · rw [if_pos c, c, Bool.true_and]
      exact ih (k + 1) (fun j hj => by rw [show k + 1 + j = k + (j + 1) by omega]; exact h (j + 1) (by simpa using hj))
    · rw [if_neg c, good_z, Bool.eq_false_iff.mpr c, Bool.false_and, if_neg (by decide)]
theorem good_out {tm ch : Nat → Int32} {m : Nat} : ∀ (l : List Nat) (i : Nat), i + l.length = m → (∀ x, x ∈ l → x < 64) → (∀ j, j < l.length → tm (ch (i + j)).toNatClampNeg = nI (l.getD j 0)) → zfold (X7_isGoodSet_L4_F tm ch m) l.length i (nI 0) = nI 0 ∧ zfold (X7_isGoodSet_L4_F tm ch m) l.length i (nI 1) = if goodL l = true then nI 1 else nI 0 := by
  intro l
  induction l with
  | nil => intro i _ _ _; exact ⟨rfl, rfl⟩
  | cons x l ih =>
    intro i hm hb h
    have hl : m - (i + 1) = l.length := by simp at hm; omega
    have f0 : X7_isGoodSet_L4_F tm ch m i (nI 0) = nI 0 := good_z
    have f1 : X7_isGoodSet_L4_F tm ch m i (nI 1) = if l.all (apB x) = true then nI 1 else nI 0 := by
      unfold X7_isGoodSet_L4_F
      rw [hl]
      exact good_in (hb x List.mem_cons_self) (h 0 (by simp)) l (i + 1) (fun j hj => by rw [show i + 1 + j = i + (j + 1) by omega]; exact h (j + 1) (by simpa using hj))
    obtain ⟨i1, i2⟩ := ih (i + 1) (by simp at hm; omega) (fun y hy => hb y (List.mem_cons_of_mem _ hy)) (fun j hj => by rw [show i + 1 + j = i + (j + 1) by omega]; exact h (j + 1) (by simpa using hj))
    refine ⟨?_, ?_⟩
    · show zfold _ l.length (i + 1) (X7_isGoodSet_L4_F tm ch m i (nI 0)) = _
      rw [f0]; exact i1
    · show zfold _ l.length (i + 1) (X7_isGoodSet_L4_F tm ch m i (nI 1)) = _
      rw [f1]
      have e3 : goodL (x :: l) = (l.all (apB x) && goodL l) := rfl
      rw [e3]
      by_cases c : l.all (apB x) = true
      · rw [if_pos c, i2, c, Bool.true_and]
      · rw [if_neg c, i1, Bool.eq_false_iff.mpr c, Bool.false_and, if_neg (by decide)]
theorem good_is {tm ch : Nat → Int32} {l : List Nat} (hb : ∀ x, x ∈ l → x < 64) (h : ∀ j, j < l.length → tm (ch j).toNatClampNeg = nI (l.getD j 0)) : X7_isGoodSet_v tm ch l.length = if goodL l = true then nI 1 else nI 0 :=
  (good_out l 0 (by omega) hb (fun j hj => by rw [Nat.zero_add]; exact h j hj)).2
theorem ns_cond {T m s : Nat} {ch : Nat → Int32} {x : Nat} (hs : s < m) (hm : m ≤ T) (hT : T ≤ 20) (hx : x < 20) (h : ch (m - s - 1) = nI x) : X7_nextSet_L4_B T ch m s () = if x = T - s - 1 then none else some () := by
  unfold X7_nextSet_L4_B
  rw [h, pk_sub hm, pk_sub (by omega : 1 ≤ m - s), nI_add]
  by_cases c : x = T - s - 1
  · rw [if_pos c, if_pos (by rw [c]; congr 1; omega)]
  · rw [if_neg c, if_neg (fun q => c (by have := (nI_eq (by omega) (by omega)).mp q; omega))]
theorem ns_1 {T : Nat} (hm : 1 ≤ T) (hT : T ≤ 20) {ch : Nat → Int32} {a : Nat} (h0 : ch 0 = nI a) (b0 : a < 20) : 
    (¬ a = T - 0 - 1 → X7_nextSet_v T ch 1 = nI 1 ∧ X7_nextSet_c111 T ch 1 0 = nI (a + 1)) ∧
    (a = T - 0 - 1 → X7_nextSet_v T ch 1 = nI 0) := by
  have B0 := ns_cond (s := 0) (ch := ch) (by omega) hm hT b0 h0
  refine ⟨?_, ?_⟩
  · intro  n0
    rw [if_neg n0] at B0
    have e : zfoldX (X7_nextSet_L4_B T ch 1) (X7_nextSet_L4_F T ch 1) 1 0 () = (0, ()) := by
      simp [zfoldX, B0]
    unfold X7_nextSet_v X7_nextSet_c111
    rw [e]
    simp only [zlet]
    refine ⟨rfl, ?_⟩
    · show ch 0 + nI 1 = _
      rw [h0, nI_add]
  · intro c0
    rw [if_pos c0] at B0
    have e : zfoldX (X7_nextSet_L4_B T ch 1) (X7_nextSet_L4_F T ch 1) 1 0 () = (1, ()) := by
      simp [zfoldX, B0]
    unfold X7_nextSet_v
    rw [e]
    rfl
theorem ns_2 {T : Nat} (hm : 2 ≤ T) (hT : T ≤ 20) {ch : Nat → Int32} {a b : Nat} (h0 : ch 0 = nI a) (b0 : a < 20) (h1 : ch 1 = nI b) (b1 : b < 20) : 
    (¬ b = T - 0 - 1 → X7_nextSet_v T ch 2 = nI 1 ∧ X7_nextSet_c111 T ch 2 0 = nI a ∧ X7_nextSet_c111 T ch 2 1 = nI (b + 1)) ∧
    (b = T - 0 - 1 → ¬ a = T - 1 - 1 → X7_nextSet_v T ch 2 = nI 1 ∧ X7_nextSet_c111 T ch 2 0 = nI (a + 1) ∧ X7_nextSet_c111 T ch 2 1 = nI (a + 2)) ∧
    (b = T - 0 - 1 → a = T - 1 - 1 → X7_nextSet_v T ch 2 = nI 0) := by
  have B0 := ns_cond (s := 0) (ch := ch) (by omega) hm hT b1 h1
  have B1 := ns_cond (s := 1) (ch := ch) (by omega) hm hT b0 h0
  refine ⟨?_, ?_, ?_⟩
  · intro  n0
    rw [if_neg n0] at B0
    have e : zfoldX (X7_nextSet_L4_B T ch 2) (X7_nextSet_L4_F T ch 2) 2 0 () = (0, ()) := by
      simp [zfoldX, B0]
    unfold X7_nextSet_v X7_nextSet_c111
    rw [e]
    simp only [zlet]
    refine ⟨rfl, ?_, ?_⟩
    · exact h0
    · show ch 1 + nI 1 = _
      rw [h1, nI_add]
  · intro c0 n1
    rw [if_pos c0] at B0
    rw [if_neg n1] at B1
    have e : zfoldX (X7_nextSet_L4_B T ch 2) (X7_nextSet_L4_F T ch 2) 2 0 () = (1, ()) := by
      simp [zfoldX, B0, B1]
    unfold X7_nextSet_v X7_nextSet_c111
    rw [e]
    simp only [zlet]
    refine ⟨rfl, ?_, ?_⟩
    · show ch 0 + nI 1 = _
      rw [h0, nI_add]
    · show ch 0 + nI 1 + nI 1 = _
      rw [h0, nI_add, nI_add]
  · intro c0 c1
    rw [if_pos c0] at B0
    rw [if_pos c1] at B1
    have e : zfoldX (X7_nextSet_L4_B T ch 2) (X7_nextSet_L4_F T ch 2) 2 0 () = (2, ()) := by
      simp [zfoldX, B0, B1]
    unfold X7_nextSet_v
    rw [e]
    rfl
theorem ns_3 {T : Nat} (hm : 3 ≤ T) (hT : T ≤ 20) {ch : Nat → Int32} {a b c : Nat} (h0 : ch 0 = nI a) (b0 : a < 20) (h1 : ch 1 = nI b) (b1 : b < 20) (h2 : ch 2 = nI c) (b2 : c < 20) : 
    (¬ c = T - 0 - 1 → X7_nextSet_v T ch 3 = nI 1 ∧ X7_nextSet_c111 T ch 3 0 = nI a ∧ X7_nextSet_c111 T ch 3 1 = nI b ∧ X7_nextSet_c111 T ch 3 2 = nI (c + 1)) ∧
    (c = T - 0 - 1 → ¬ b = T - 1 - 1 → X7_nextSet_v T ch 3 = nI 1 ∧ X7_nextSet_c111 T ch 3 0 = nI a ∧ X7_nextSet_c111 T ch 3 1 = nI (b + 1) ∧ X7_nextSet_c111 T ch 3 2 = nI (b + 2)) ∧
    (c = T - 0 - 1 → b = T - 1 - 1 → ¬ a = T - 2 - 1 → X7_nextSet_v T ch 3 = nI 1 ∧ X7_nextSet_c111 T ch 3 0 = nI (a + 1) ∧ X7_nextSet_c111 T ch 3 1 = nI (a + 2) ∧ X7_nextSet_c111 T ch 3 2 = nI (a + 3)) ∧
    (c = T - 0 - 1 → b = T - 1 - 1 → a = T - 2 - 1 → X7_nextSet_v T ch 3 = nI 0) := by
  have B0 := ns_cond (s := 0) (ch := ch) (by omega) hm hT b2 h2
  have B1 := ns_cond (s := 1) (ch := ch) (by omega) hm hT b1 h1
  have B2 := ns_cond (s := 2) (ch := ch) (by omega) hm hT b0 h0
  refine ⟨?_, ?_, ?_, ?_⟩
  · intro  n0
    rw [if_neg n0] at B0
    have e : zfoldX (X7_nextSet_L4_B T ch 3) (X7_nextSet_L4_F T ch 3) 3 0 () = (0, ()) := by
      simp [zfoldX, B0]
    unfold X7_nextSet_v X7_nextSet_c111
    rw [e]
    simp only [zlet]
    refine ⟨rfl, ?_, ?_, ?_⟩
    · exact h0
    · exact h1
    · show ch 2 + nI 1 = _
      rw [h2, nI_add]
  · intro c0 n1
    rw [if_pos c0] at B0
    rw [if_neg n1] at B1
    have e : zfoldX (X7_nextSet_L4_B T ch 3) (X7_nextSet_L4_F T ch 3) 3 0 () = (1, ()) := by
      simp [zfoldX, B0, B1]
    unfold X7_nextSet_v X7_nextSet_c111
    rw [e]
    simp only [zlet]
    refine ⟨rfl, ?_, ?_, ?_⟩
    · exact h0
    · show ch 1 + nI 1 = _
      rw [h1, nI_add]
    · show ch 1 + nI 1 + nI 1 = _
      rw [h1, nI_add, nI_add]
  · intro c0 c1 n2
    rw [if_pos c0] at B0
    rw [if_pos c1] at B1
    rw [if_neg n2] at B2
    have e : zfoldX (X7_nextSet_L4_B T ch 3) (X7_nextSet_L4_F T ch 3) 3 0 () = (2, ()) := by
      simp [zfoldX, B0, B1, B2]
    unfold X7_nextSet_v X7_nextSet_c111
    rw [e]
    simp only [zlet]
    refine ⟨rfl, ?_, ?_, ?_⟩
    · show ch 0 + nI 1 = _
      rw [h0, nI_add]
    · show ch 0 + nI 1 + nI 1 = _
      rw [h0, nI_add, nI_add]
    · show ch 0 + nI 1 + nI 1 + nI 1 = _
      rw [h0, nI_add, nI_add, nI_add]
  · intro c0 c1 c2
    rw [if_pos c0] at B0
    rw [if_pos c1] at B1
    rw [if_pos c2] at B2
    have e : zfoldX (X7_nextSet_L4_B T ch 3) (X7_nextSet_L4_F T ch 3) 3 0 () = (3, ()) := by
      simp [zfoldX, B0, B1, B2]
    unfold X7_nextSet_v
    rw [e]
    rfl
theorem ns_4 {T : Nat} (hm : 4 ≤ T) (hT : T ≤ 20) {ch : Nat → Int32} {a b c d : Nat} (h0 : ch 0 = nI a) (b0 : a < 20) (h1 : ch 1 = nI b) (b1 : b < 20) (h2 : ch 2 = nI c) (b2 : c < 20) (h3 : ch 3 = nI d) (b3 : d < 20) : 
    (¬ d = T - 0 - 1 → X7_nextSet_v T ch 4 = nI 1 ∧ X7_nextSet_c111 T ch 4 0 = nI a ∧ X7_nextSet_c111 T ch 4 1 = nI b ∧ X7_nextSet_c111 T ch 4 2 = nI c ∧ X7_nextSet_c111 T ch 4 3 = nI (d + 1)) ∧
    (d = T - 0 - 1 → ¬ c = T - 1 - 1 → X7_nextSet_v T ch 4 = nI 1 ∧ X7_nextSet_c111 T ch 4 0 = nI a ∧ X7_nextSet_c111 T ch 4 1 = nI b ∧ X7_nextSet_c111 T ch 4 2 = nI (c + 1) ∧ X7_nextSet_c111 T ch 4 3 = nI (c + 2)) ∧
    (d = T - 0 - 1 → c = T - 1 - 1 → ¬ b = T - 2 - 1 → X7_nextSet_v T ch 4 = nI 1 ∧ X7_nextSet_c111 T ch 4 0 = nI a ∧ X7_nextSet_c111 T ch 4 1 = nI (b + 1) ∧ X7_nextSet_c111 T ch 4 2 = nI (b + 2) ∧ X7_nextSet_c111 T ch 4 3 = nI (b + 3)) ∧
    (d = T - 0 - 1 → c = T - 1 - 1 → b = T - 2 - 1 → ¬ a = T - 3 - 1 → X7_nextSet_v T ch 4 = nI 1 ∧ X7_nextSet_c111 T ch 4 0 = nI (a + 1) ∧ X7_nextSet_c111 T ch 4 1 = nI (a + 2) ∧ X7_nextSet_c111 T ch 4 2 = nI (a + 3) ∧ X7_nextSet_c111 T ch 4 3 = nI (a + 4)) ∧
    (d = T - 0 - 1 → c = T - 1 - 1 → b = T - 2 - 1 → a = T - 3 - 1 → X7_nextSet_v T ch 4 = nI 0) := by
  have B0 := ns_cond (s := 0) (ch := ch) (by omega) hm hT b3 h3
  have B1 := ns_cond (s := 1) (ch := ch) (by omega) hm hT b2 h2
  have B2 := ns_cond (s := 2) (ch := ch) (by omega) hm hT b1 h1
  have B3 := ns_cond (s := 3) (ch := ch) (by omega) hm hT b0 h0
  refine ⟨?_, ?_, ?_, ?_, ?_⟩
  · intro  n0
    rw [if_neg n0] at B0
    have e : zfoldX (X7_nextSet_L4_B T ch 4) (X7_nextSet_L4_F T ch 4) 4 0 () = (0, ()) := by
      simp [zfoldX, B0]
    unfold X7_nextSet_v X7_nextSet_c111
    rw [e]
    simp only [zlet]
    refine ⟨rfl, ?_, ?_, ?_, ?_⟩
    · exact h0
    · exact h1
    · exact h2
    · show ch 3 + nI 1 = _
      rw [h3, nI_add]
  · intro c0 n1
    rw [if_pos c0] at B0
    rw [if_neg n1] at B1
    have e : zfoldX (X7_nextSet_L4_B T ch 4) (X7_nextSet_L4_F T ch 4) 4 0 () = (1, ()) := by
      simp [zfoldX, B0, B1]
    unfold X7_nextSet_v X7_nextSet_c111
    rw [e]
    simp only [zlet]
    refine ⟨rfl, ?_, ?_, ?_, ?_⟩
    · exact h0
    · exact h1
    · show ch 2 + nI 1 = _
      rw [h2, nI_add]
    · show ch 2 + nI 1 + nI 1 = _
      rw [h2, nI_add, nI_add]
  · intro c0 c1 n2
    rw [if_pos c0] at B0
    rw [if_pos c1] at B1
    rw [if_neg n2] at B2
    have e : zfoldX (X7_nextSet_L4_B T ch 4) (X7_nextSet_L4_F T ch 4) 4 0 () = (2, ()) := by
      simp [zfoldX, B0, B1, B2]
    unfold X7_nextSet_v X7_nextSet_c111
    rw [e]
    simp only [zlet]
    refine ⟨rfl, ?_, ?_, ?_, ?_⟩
    · exact h0
    · show ch 1 + nI 1 = _
      rw [h1, nI_add]
    · show ch 1 + nI 1 + nI 1 = _
      rw [h1, nI_add, nI_add]
    · show ch 1 + nI 1 + nI 1 + nI 1 = _
      rw [h1, nI_add, nI_add, nI_add]
  · intro c0 c1 c2 n3
    rw [if_pos c0] at B0
    rw [if_pos c1] at B1
    rw [if_pos c2] at B2
    rw [if_neg n3] at B3
    have e : zfoldX (X7_nextSet_L4_B T ch 4) (X7_nextSet_L4_F T ch 4) 4 0 () = (3, ()) := by
      simp [zfoldX, B0, B1, B2, B3]
    unfold X7_nextSet_v X7_nextSet_c111
    rw [e]
    simp only [zlet]
    refine ⟨rfl, ?_, ?_, ?_, ?_⟩
    · show ch 0 + nI 1 = _
      rw [h0, nI_add]
    · show ch 0 + nI 1 + nI 1 = _
      rw [h0, nI_add, nI_add]
    · show ch 0 + nI 1 + nI 1 + nI 1 = _
      rw [h0, nI_add, nI_add, nI_add]
    · show ch 0 + nI 1 + nI 1 + nI 1 + nI 1 = _
      rw [h0, nI_add, nI_add, nI_add, nI_add]
  · intro c0 c1 c2 c3
    rw [if_pos c0] at B0
    rw [if_pos c1] at B1
    rw [if_pos c2] at B2
    rw [if_pos c3] at B3
    have e : zfoldX (X7_nextSet_L4_B T ch 4) (X7_nextSet_L4_F T ch 4) 4 0 () = (4, ()) := by
      simp [zfoldX, B0, B1, B2, B3]
    unfold X7_nextSet_v
    rw [e]
    rfl
