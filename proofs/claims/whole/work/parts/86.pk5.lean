/-! ===== kinds: the reference's loop, and the twenty answers ===== -/
def pk32 : List Nat → Nat
  | [] => 0
  | x :: l => x + 32 * pk32 l
def unp : Nat → Nat → List Nat
  | 0, _ => []
  | m + 1, P => P % 32 :: unp m (P / 32)
theorem unp_pk : ∀ l : List Nat, (∀ x, x ∈ l → x < 32) → unp l.length (pk32 l) = l := by
  intro l
  induction l with
  | nil => intro _; rfl
  | cons x l ih =>
    intro h
    have hx : x < 32 := h x List.mem_cons_self
    show (x + 32 * pk32 l) % 32 :: unp l.length ((x + 32 * pk32 l) / 32) = x :: l
    rw [show (x + 32 * pk32 l) % 32 = x by omega, show (x + 32 * pk32 l) / 32 = pk32 l by omega, ih (fun y hy => h y (List.mem_cons_of_mem _ hy))]
theorem unp_len : ∀ m P, (unp m P).length = m := by
  intro m
  induction m with
  | zero => intro P; rfl
  | succ m ih => intro P; show (unp m (P / 32)).length + 1 = m + 1; rw [ih]
def wsN (n : Nat) (c : List Nat) : List Nat := c.map (fun i => (trL n).getD i 0)
def nxL (T : Nat) : List Nat → Nat
  | [a] => bif Nat.beq a (T - 0 - 1) then (0) else pk32 [a + 1] + 1
  | [a, b] => bif Nat.beq b (T - 0 - 1) then (bif Nat.beq a (T - 1 - 1) then (0) else pk32 [a + 1, a + 2] + 1) else pk32 [a, b + 1] + 1
  | [a, b, c] => bif Nat.beq c (T - 0 - 1) then (bif Nat.beq b (T - 1 - 1) then (bif Nat.beq a (T - 2 - 1) then (0) else pk32 [a + 1, a + 2, a + 3] + 1) else pk32 [a, b + 1, b + 2] + 1) else pk32 [a, b, c + 1] + 1
  | [a, b, c, d] => bif Nat.beq d (T - 0 - 1) then (bif Nat.beq c (T - 1 - 1) then (bif Nat.beq b (T - 2 - 1) then (bif Nat.beq a (T - 3 - 1) then (0) else pk32 [a + 1, a + 2, a + 3, a + 4] + 1) else pk32 [a, b + 1, b + 2, b + 3] + 1) else pk32 [a, b, c + 1, c + 2] + 1) else pk32 [a, b, c, d + 1] + 1
  | _ => 0
def INV (T : Nat) (c : List Nat) : Prop := c.Pairwise (fun a b => a < b) ∧ ∀ x, x ∈ c → x < T
def NXT (T m : Nat) (ch : Nat → Int32) (c : List Nat) : Prop := (nxL T c = 0 ∧ X7_nextSet_v T ch m = nI 0) ∨ (∃ P, nxL T c = P + 1 ∧ X7_nextSet_v T ch m = nI 1 ∧ INV T (unp m P) ∧ ∀ j, j < m → X7_nextSet_c111 T ch m j = nI ((unp m P).getD j 0))
theorem bq_t {a b : Nat} (h : a = b) : Nat.beq a b = true := Nat.beq_eq.mpr h
theorem bq_f {a b : Nat} (h : ¬ a = b) : Nat.beq a b = false := by
  cases z : Nat.beq a b with
  | true => exact absurd (Nat.eq_of_beq_eq_true z) h
  | false => rfl
theorem nxt_0 {T : Nat} {ch : Nat → Int32} : NXT T 0 ch [] := Or.inl ⟨rfl, by unfold X7_nextSet_v; simp only [zlet, zfoldX]; exact if_neg (by decide)⟩
theorem nxt_1 {T : Nat} (hm : 1 ≤ T) (hT : T ≤ 20) {ch : Nat → Int32} {a : Nat} (hI : INV T [a]) (h0 : ch 0 = nI a) : NXT T 1 ch [a] := by
  obtain ⟨i1, i2⟩ := hI
  have za : a < T := i2 a (by simp)
  obtain ⟨q0, q1⟩ := ns_1 hm hT h0 (by omega)
  by_cases c0 : a = T - 0 - 1
  · refine Or.inl ⟨?_, q1 c0⟩
    show (bif Nat.beq a (T - 0 - 1) then (0) else pk32 [a + 1] + 1) = _
    rw [bq_t c0]
    rfl
  · have e : unp 1 (pk32 [a + 1]) = [a + 1] := unp_pk [a + 1] (fun x hx => by simp only [List.mem_cons, List.not_mem_nil, or_false] at hx; omega)
    obtain ⟨r0, r1⟩ := q0 c0
    refine Or.inr ⟨pk32 [a + 1], ?_, r0, ?_, ?_⟩
    · show (bif Nat.beq a (T - 0 - 1) then (0) else pk32 [a + 1] + 1) = _
      rw [bq_f c0]
      rfl
    · rw [e]
      refine ⟨?_, fun x hx => by simp only [List.mem_cons, List.not_mem_nil, or_false] at hx; omega⟩
      simp only [List.pairwise_cons, List.mem_cons, List.not_mem_nil, or_false, forall_eq_or_imp, forall_eq, List.Pairwise.nil, and_true, false_implies, implies_true]
    · rw [e]
      intro j hj
      rcases (show j = 0 by omega) with rfl
      · exact r1
theorem nxt_2 {T : Nat} (hm : 2 ≤ T) (hT : T ≤ 20) {ch : Nat → Int32} {a b : Nat} (hI : INV T [a, b]) (h0 : ch 0 = nI a) (h1 : ch 1 = nI b) : NXT T 2 ch [a, b] := by
  obtain ⟨i1, i2⟩ := hI
  have za : a < T := i2 a (by simp)
  have zb : b < T := i2 b (by simp)
  simp only [List.pairwise_cons, List.mem_cons, List.not_mem_nil, or_false, forall_eq_or_imp, forall_eq, List.Pairwise.nil, and_true, false_implies, implies_true] at i1
  obtain ⟨q0, q1, q2⟩ := ns_2 hm hT h0 (by omega) h1 (by omega)
  by_cases c0 : b = T - 0 - 1
  · by_cases c1 : a = T - 1 - 1
    · refine Or.inl ⟨?_, q2 c0 c1⟩
      show (bif Nat.beq b (T - 0 - 1) then (bif Nat.beq a (T - 1 - 1) then (0) else pk32 [a + 1, a + 2] + 1) else pk32 [a, b + 1] + 1) = _
      rw [bq_t c0, bq_t c1]
      rfl
    · have e : unp 2 (pk32 [a + 1, a + 2]) = [a + 1, a + 2] := unp_pk [a + 1, a + 2] (fun x hx => by simp only [List.mem_cons, List.not_mem_nil, or_false] at hx; omega)
      obtain ⟨r0, r1, r2⟩ := q1 c0 c1
      refine Or.inr ⟨pk32 [a + 1, a + 2], ?_, r0, ?_, ?_⟩
      · show (bif Nat.beq b (T - 0 - 1) then (bif Nat.beq a (T - 1 - 1) then (0) else pk32 [a + 1, a + 2] + 1) else pk32 [a, b + 1] + 1) = _
        rw [bq_t c0, bq_f c1]
        rfl
      · rw [e]
        refine ⟨?_, fun x hx => by simp only [List.mem_cons, List.not_mem_nil, or_false] at hx; omega⟩
        simp only [List.pairwise_cons, List.mem_cons, List.not_mem_nil, or_false, forall_eq_or_imp, forall_eq, List.Pairwise.nil, and_true, false_implies, implies_true]
        omega
      · rw [e]
        intro j hj
        rcases (show j = 0 ∨ j = 1 by omega) with rfl | rfl
        · exact r1
        · exact r2
  · have e : unp 2 (pk32 [a, b + 1]) = [a, b + 1] := unp_pk [a, b + 1] (fun x hx => by simp only [List.mem_cons, List.not_mem_nil, or_false] at hx; omega)
    obtain ⟨r0, r1, r2⟩ := q0 c0
    refine Or.inr ⟨pk32 [a, b + 1], ?_, r0, ?_, ?_⟩
    · show (bif Nat.beq b (T - 0 - 1) then (bif Nat.beq a (T - 1 - 1) then (0) else pk32 [a + 1, a + 2] + 1) else pk32 [a, b + 1] + 1) = _
      rw [bq_f c0]
      rfl
    · rw [e]
      refine ⟨?_, fun x hx => by simp only [List.mem_cons, List.not_mem_nil, or_false] at hx; omega⟩
      simp only [List.pairwise_cons, List.mem_cons, List.not_mem_nil, or_false, forall_eq_or_imp, forall_eq, List.Pairwise.nil, and_true, false_implies, implies_true]
      omega
    · rw [e]
      intro j hj
      rcases (show j = 0 ∨ j = 1 by omega) with rfl | rfl
      · exact r1
      · exact r2
theorem nxt_3 {T : Nat} (hm : 3 ≤ T) (hT : T ≤ 20) {ch : Nat → Int32} {a b c : Nat} (hI : INV T [a, b, c]) (h0 : ch 0 = nI a) (h1 : ch 1 = nI b) (h2 : ch 2 = nI c) : NXT T 3 ch [a, b, c] := by
  obtain ⟨i1, i2⟩ := hI
  have za : a < T := i2 a (by simp)
  have zb : b < T := i2 b (by simp)
  have zc : c < T := i2 c (by simp)
  simp only [List.pairwise_cons, List.mem_cons, List.not_mem_nil, or_false, forall_eq_or_imp, forall_eq, List.Pairwise.nil, and_true, false_implies, implies_true] at i1
  obtain ⟨q0, q1, q2, q3⟩ := ns_3 hm hT h0 (by omega) h1 (by omega) h2 (by omega)
  by_cases c0 : c = T - 0 - 1
  · by_cases c1 : b = T - 1 - 1
    · by_cases c2 : a = T - 2 - 1
      · refine Or.inl ⟨?_, q3 c0 c1 c2⟩
        show (bif Nat.beq c (T - 0 - 1) then (bif Nat.beq b (T - 1 - 1) then (bif Nat.beq a (T - 2 - 1) then (0) else pk32 [a + 1, a + 2, a + 3] + 1) else pk32 [a, b + 1, b + 2] + 1) else pk32 [a, b, c + 1] + 1) = _
        rw [bq_t c0, bq_t c1, bq_t c2]
        rfl
      · have e : unp 3 (pk32 [a + 1, a + 2, a + 3]) = [a + 1, a + 2, a + 3] := unp_pk [a + 1, a + 2, a + 3] (fun x hx => by simp only [List.mem_cons, List.not_mem_nil, or_false] at hx; omega)
        obtain ⟨r0, r1, r2, r3⟩ := q2 c0 c1 c2
        refine Or.inr ⟨pk32 [a + 1, a + 2, a + 3], ?_, r0, ?_, ?_⟩
        · show (bif Nat.beq c (T - 0 - 1) then (bif Nat.beq b (T - 1 - 1) then (bif Nat.beq a (T - 2 - 1) then (0) else pk32 [a + 1, a + 2, a + 3] + 1) else pk32 [a, b + 1, b + 2] + 1) else pk32 [a, b, c + 1] + 1) = _
          rw [bq_t c0, bq_t c1, bq_f c2]
          rfl
        · rw [e]
          refine ⟨?_, fun x hx => by simp only [List.mem_cons, List.not_mem_nil, or_false] at hx; omega⟩
          simp only [List.pairwise_cons, List.mem_cons, List.not_mem_nil, or_false, forall_eq_or_imp, forall_eq, List.Pairwise.nil, and_true, false_implies, implies_true]
          omega
        · rw [e]
          intro j hj
          rcases (show j = 0 ∨ j = 1 ∨ j = 2 by omega) with rfl | rfl | rfl
          · exact r1
          · exact r2
          · exact r3
    · have e : unp 3 (pk32 [a, b + 1, b + 2]) = [a, b + 1, b + 2] := unp_pk [a, b + 1, b + 2] (fun x hx => by simp only [List.mem_cons, List.not_mem_nil, or_false] at hx; omega)
      obtain ⟨r0, r1, r2, r3⟩ := q1 c0 c1
      refine Or.inr ⟨pk32 [a, b + 1, b + 2], ?_, r0, ?_, ?_⟩
      · show (bif Nat.beq c (T - 0 - 1) then (bif Nat.beq b (T - 1 - 1) then (bif Nat.beq a (T - 2 - 1) then (0) else pk32 [a + 1, a + 2, a + 3] + 1) else pk32 [a, b + 1, b + 2] + 1) else pk32 [a, b, c + 1] + 1) = _
        rw [bq_t c0, bq_f c1]
        rfl
      · rw [e]
        refine ⟨?_, fun x hx => by simp only [List.mem_cons, List.not_mem_nil, or_false] at hx; omega⟩
        simp only [List.pairwise_cons, List.mem_cons, List.not_mem_nil, or_false, forall_eq_or_imp, forall_eq, List.Pairwise.nil, and_true, false_implies, implies_true]
        omega
      · rw [e]
        intro j hj
        rcases (show j = 0 ∨ j = 1 ∨ j = 2 by omega) with rfl | rfl | rfl
        · exact r1
        · exact r2
        · exact r3
  · have e : unp 3 (pk32 [a, b, c + 1]) = [a, b, c + 1] := unp_pk [a, b, c + 1] (fun x hx => by simp only [List.mem_cons, List.not_mem_nil, or_false] at hx; omega)
    obtain ⟨r0, r1, r2, r3⟩ := q0 c0
    refine Or.inr ⟨pk32 [a, b, c + 1], ?_, r0, ?_, ?_⟩
    · show (bif Nat.beq c (T - 0 - 1) then (bif Nat.beq b (T - 1 - 1) then (bif Nat.beq a (T - 2 - 1) then (0) else pk32 [a + 1, a + 2, a + 3] + 1) else pk32 [a, b + 1, b + 2] + 1) else pk32 [a, b, c + 1] + 1) = _
      rw [bq_f c0]
      rfl
    · rw [e]
      refine ⟨?_, fun x hx => by simp only [List.mem_cons, List.not_mem_nil, or_false] at hx; omega⟩
      simp only [List.pairwise_cons, List.mem_cons, List.not_mem_nil, or_false, forall_eq_or_imp, forall_eq, List.Pairwise.nil, and_true, false_implies, implies_true]
      omega
    · rw [e]
      intro j hj
      rcases (show j = 0 ∨ j = 1 ∨ j = 2 by omega) with rfl | rfl | rfl
      · exact r1
      · exact r2
      · exact r3
theorem nxt_4 {T : Nat} (hm : 4 ≤ T) (hT : T ≤ 20) {ch : Nat → Int32} {a b c d : Nat} (hI : INV T [a, b, c, d]) (h0 : ch 0 = nI a) (h1 : ch 1 = nI b) (h2 : ch 2 = nI c) (h3 : ch 3 = nI d) : NXT T 4 ch [a, b, c, d] := by
  obtain ⟨i1, i2⟩ := hI
  have za : a < T := i2 a (by simp)
  have zb : b < T := i2 b (by simp)
  have zc : c < T := i2 c (by simp)
  have zd : d < T := i2 d (by simp)
  simp only [List.pairwise_cons, List.mem_cons, List.not_mem_nil, or_false, forall_eq_or_imp, forall_eq, List.Pairwise.nil, and_true, false_implies, implies_true] at i1
  obtain ⟨q0, q1, q2, q3, q4⟩ := ns_4 hm hT h0 (by omega) h1 (by omega) h2 (by omega) h3 (by omega)
  by_cases c0 : d = T - 0 - 1
  · by_cases c1 : c = T - 1 - 1
    · by_cases c2 : b = T - 2 - 1
      · by_cases c3 : a = T - 3 - 1
        · refine Or.inl ⟨?_, q4 c0 c1 c2 c3⟩
          show (bif Nat.beq d (T - 0 - 1) then (bif Nat.beq c (T - 1 - 1) then (bif Nat.beq b (T - 2 - 1) then (bif Nat.beq a (T - 3 - 1) then (0) else pk32 [a + 1, a + 2, a + 3, a + 4] + 1) else pk32 [a, b + 1, b + 2, b + 3] + 1) else pk32 [a, b, c + 1, c + 2] + 1) else pk32 [a, b, c, d + 1] + 1) = _
          rw [bq_t c0, bq_t c1, bq_t c2, bq_t c3]
          rfl
        · have e : unp 4 (pk32 [a + 1, a + 2, a + 3, a + 4]) = [a + 1, a + 2, a + 3, a + 4] := unp_pk [a + 1, a + 2, a + 3, a + 4] (fun x hx => by simp only [List.mem_cons, List.not_mem_nil, or_false] at hx; omega)
          obtain ⟨r0, r1, r2, r3, r4⟩ := q3 c0 c1 c2 c3
          refine Or.inr ⟨pk32 [a + 1, a + 2, a + 3, a + 4], ?_, r0, ?_, ?_⟩
          · show (bif Nat.beq d (T - 0 - 1) then (bif Nat.beq c (T - 1 - 1) then (bif Nat.beq b (T - 2 - 1) then (bif Nat.beq a (T - 3 - 1) then (0) else pk32 [a + 1, a + 2, a + 3, a + 4] + 1) else pk32 [a, b + 1, b + 2, b + 3] + 1) else pk32 [a, b, c + 1, c + 2] + 1) else pk32 [a, b, c, d + 1] + 1) = _
            rw [bq_t c0, bq_t c1, bq_t c2, bq_f c3]
            rfl
          · rw [e]
            refine ⟨?_, fun x hx => by simp only [List.mem_cons, List.not_mem_nil, or_false] at hx; omega⟩
            simp only [List.pairwise_cons, List.mem_cons, List.not_mem_nil, or_false, forall_eq_or_imp, forall_eq, List.Pairwise.nil, and_true, false_implies, implies_true]
            omega
          · rw [e]
            intro j hj
            rcases (show j = 0 ∨ j = 1 ∨ j = 2 ∨ j = 3 by omega) with rfl | rfl | rfl | rfl
            · exact r1
            · exact r2
            · exact r3
            · exact r4
      · have e : unp 4 (pk32 [a, b + 1, b + 2, b + 3]) = [a, b + 1, b + 2, b + 3] := unp_pk [a, b + 1, b + 2, b + 3] (fun x hx => by simp only [List.mem_cons, List.not_mem_nil, or_false] at hx; omega)
        obtain ⟨r0, r1, r2, r3, r4⟩ := q2 c0 c1 c2
        refine Or.inr ⟨pk32 [a, b + 1, b + 2, b + 3], ?_, r0, ?_, ?_⟩
        · show (bif Nat.beq d (T - 0 - 1) then (bif Nat.beq c (T - 1 - 1) then (bif Nat.beq b (T - 2 - 1) then (bif Nat.beq a (T - 3 - 1) then (0) else pk32 [a + 1, a + 2, a + 3, a + 4] + 1) else pk32 [a, b + 1, b + 2, b + 3] + 1) else pk32 [a, b, c + 1, c + 2] + 1) else pk32 [a, b, c, d + 1] + 1) = _
          rw [bq_t c0, bq_t c1, bq_f c2]
          rfl
        · rw [e]
          refine ⟨?_, fun x hx => by simp only [List.mem_cons, List.not_mem_nil, or_false] at hx; omega⟩
          simp only [List.pairwise_cons, List.mem_cons, List.not_mem_nil, or_false, forall_eq_or_imp, forall_eq, List.Pairwise.nil, and_true, false_implies, implies_true]
          omega
        · rw [e]
          intro j hj
          rcases (show j = 0 ∨ j = 1 ∨ j = 2 ∨ j = 3 by omega) with rfl | rfl | rfl | rfl
          · exact r1
          · exact r2
          · exact r3
          · exact r4
    · have e : unp 4 (pk32 [a, b, c + 1, c + 2]) = [a, b, c + 1, c + 2] := unp_pk [a, b, c + 1, c + 2] (fun x hx => by simp only [List.mem_cons, List.not_mem_nil, or_false] at hx; omega)
      obtain ⟨r0, r1, r2, r3, r4⟩ := q1 c0 c1
      refine Or.inr ⟨pk32 [a, b, c + 1, c + 2], ?_, r0, ?_, ?_⟩
      · show (bif Nat.beq d (T - 0 - 1) then (bif Nat.beq c (T - 1 - 1) then (bif Nat.beq b (T - 2 - 1) then (bif Nat.beq a (T - 3 - 1) then (0) else pk32 [a + 1, a + 2, a + 3, a + 4] + 1) else pk32 [a, b + 1, b + 2, b + 3] + 1) else pk32 [a, b, c + 1, c + 2] + 1) else pk32 [a, b, c, d + 1] + 1) = _
        rw [bq_t c0, bq_f c1]
        rfl
      · rw [e]
        refine ⟨?_, fun x hx => by simp only [List.mem_cons, List.not_mem_nil, or_false] at hx; omega⟩
        simp only [List.pairwise_cons, List.mem_cons, List.not_mem_nil, or_false, forall_eq_or_imp, forall_eq, List.Pairwise.nil, and_true, false_implies, implies_true]
        omega
      · rw [e]
        intro j hj
        rcases (show j = 0 ∨ j = 1 ∨ j = 2 ∨ j = 3 by omega) with rfl | rfl | rfl | rfl
        · exact r1
        · exact r2
        · exact r3
        · exact r4
  · have e : unp 4 (pk32 [a, b, c, d + 1]) = [a, b, c, d + 1] := unp_pk [a, b, c, d + 1] (fun x hx => by simp only [List.mem_cons, List.not_mem_nil, or_false] at hx; omega)
    obtain ⟨r0, r1, r2, r3, r4⟩ := q0 c0
    refine Or.inr ⟨pk32 [a, b, c, d + 1], ?_, r0, ?_, ?_⟩
    · show (bif Nat.beq d (T - 0 - 1) then (bif Nat.beq c (T - 1 - 1) then (bif Nat.beq b (T - 2 - 1) then (bif Nat.beq a (T - 3 - 1) then (0) else pk32 [a + 1, a + 2, a + 3, a + 4] + 1) else pk32 [a, b + 1, b + 2, b + 3] + 1) else pk32 [a, b, c + 1, c + 2] + 1) else pk32 [a, b, c, d + 1] + 1) = _
      rw [bq_f c0]
      rfl
    · rw [e]
      refine ⟨?_, fun x hx => by simp only [List.mem_cons, List.not_mem_nil, or_false] at hx; omega⟩
      simp only [List.pairwise_cons, List.mem_cons, List.not_mem_nil, or_false, forall_eq_or_imp, forall_eq, List.Pairwise.nil, and_true, false_implies, implies_true]
      omega
    · rw [e]
      intro j hj
      rcases (show j = 0 ∨ j = 1 ∨ j = 2 ∨ j = 3 by omega) with rfl | rfl | rfl | rfl
      · exact r1
      · exact r2
      · exact r3
      · exact r4
theorem nxt_is {T m : Nat} (h4 : m ≤ 4) (hm : m ≤ T) (hT : T ≤ 20) {ch : Nat → Int32} {c : List Nat} (hl : c.length = m) (hI : INV T c) (h : ∀ j, j < m → ch j = nI (c.getD j 0)) : NXT T m ch c := by
  match c, hl with
  | [], hl => rw [← hl]; exact nxt_0
  | [a], hl =>
    have e : m = 1 := hl.symm
    subst e
    exact nxt_1 hm hT hI (h 0 (by omega))
  | [a, b], hl =>
    have e : m = 2 := hl.symm
    subst e
    exact nxt_2 hm hT hI (h 0 (by omega)) (h 1 (by omega))
  | [a, b, c], hl =>
    have e : m = 3 := hl.symm
    subst e
    exact nxt_3 hm hT hI (h 0 (by omega)) (h 1 (by omega)) (h 2 (by omega))
  | [a, b, c, d], hl =>
    have e : m = 4 := hl.symm
    subst e
    exact nxt_4 hm hT hI (h 0 (by omega)) (h 1 (by omega)) (h 2 (by omega)) (h 3 (by omega))
  | _ :: _ :: _ :: _ :: _ :: _, hl => exact absurd hl (by simp only [List.length_cons]; omega)
def KR (n m : Nat) : Nat → Nat → Nat → Option Nat
  | 0, _, _ => none
  | _ + 1, 0, many => some many
  | d + 1, P + 1, many => bif goodL (wsN n (unp m P)) && LSb n (srtN (wsN n (unp m P))) then KR n m d (nxL (trL n).length (unp m P)) (many + 1) else KR n m d (nxL (trL n).length (unp m P)) many
theorem kr_go {n m : Nat} (h3 : 3 ≤ n) (hn : n ≤ 6) (h4 : m ≤ 4) (hm : m ≤ (trL n).length) (hT : (trL n).length ≤ 20) {tm kk : Nat → Int32} : ∀ (d Pp many K d' i : Nat) (A : Int32 × Int32 × (Nat → Int32) × (Nat → Int32) × (Nat → Int32) × (Nat → Int32) × (Nat → Int32)), KR n m d Pp many = some K → d ≤ d' → A.1 = nI many → ((Pp = 0 ∧ A.2.1 = nI 0) ∨ (∃ P, Pp = P + 1 ∧ A.2.1 = nI 1 ∧ INV (trL n).length (unp m P) ∧ ∀ j, j < m → A.2.2.2.2.2.2 j = nI ((unp m P).getD j 0))) →
    ∃ b z, zfoldB (X7_kinds_L89v2_B tm kk (nI n) (nI m)) (X7_kinds_L89v2_F tm (nI n) (nI m)) d' i A = (some b, z) ∧ b.1 = nI K ∧ b.2.1 = 0 ∧ b.2.2.1 = nI 0 ∧ b.2.2.2.2.2.2.2.2.1 = upd kk (5 * n + m) (nI (K + 1)) := by
  have cn : (nI n).toNatClampNeg = n := nI_clamp (by omega)
  have cm : (nI m).toNatClampNeg = m := nI_clamp (by omega)
  intro d
  induction d with
  | zero => intro Pp many K d' i A hk; cases hk
  | succ d ih =>
    intro Pp many K d' i A hk hd h1 h2
    obtain ⟨d', rfl⟩ : ∃ e, d' = e + 1 := ⟨d' - 1, by omega⟩
    rcases h2 with ⟨rfl, h2⟩ | ⟨P, rfl, h2, hI, hc⟩
    · have ek : many = K := Option.some.inj hk
      subst ek
      have eB : ∃ b, X7_kinds_L89v2_B tm kk (nI n) (nI m) i A = some b ∧ b.1 = nI many ∧ b.2.1 = 0 ∧ b.2.2.1 = nI 0 ∧ b.2.2.2.2.2.2.2.2.1 = upd kk (5 * n + m) (nI (many + 1)) := by
        unfold X7_kinds_L89v2_B
        rw [if_pos (show A.2.1 = 0 from h2), cn, cm, h1, nI_add]
        refine ⟨_, rfl, ?_, rfl, rfl, rfl⟩
        show upd kk (5 * n + m) (nI (many + 1)) (5 * n + m) - nI 1 = nI many
        unfold upd
        rw [if_pos rfl, pk_sub (by omega), Nat.add_sub_cancel]
      obtain ⟨b, eB, w⟩ := eB
      exact ⟨b, A, by simp only [zfoldB, eB], w⟩
    · have ne : ¬ A.2.1 = 0 := by rw [h2]; decide
      obtain ⟨t1, t2⟩ := tri_is (tm := tm) h3 hn
      have hl := unp_len m P
      generalize hcc : unp m P = c at hI hc hl
      have hk2 : (bif goodL (wsN n c) && LSb n (srtN (wsN n c)) then KR n m d (nxL (trL n).length c) (many + 1) else KR n m d (nxL (trL n).length c) many) = some K := by
        rw [← hcc]; exact hk
      have p9 := p64 hn
      have hcT : ∀ j, j < m → c.getD j 0 < (trL n).length := by
        intro j hj
        rw [List.getD_eq_getElem?_getD, List.getElem?_eq_getElem (by omega)]
        exact hI.2 _ (List.getElem_mem _)
      have hw : ∀ j, j < m → (X7_layTriples_c110 tm n) (A.2.2.2.2.2.2 j).toNatClampNeg = nI ((wsN n c).getD j 0) := by
        intro j hj
        rw [hc j hj, nI_clamp (by have := hcT j hj; omega), (t2 _ (hcT j hj)).1]
        unfold wsN
        rw [List.getD_eq_getElem?_getD (l := c.map _), List.getElem?_map, List.getElem?_eq_getElem (by omega)]
        rw [List.getD_eq_getElem?_getD (l := c), List.getElem?_eq_getElem (by omega)]
        rfl
      have hwl : (wsN n c).length = m := by unfold wsN; rw [List.length_map, hl]
      have hwb : ∀ x, x ∈ wsN n c → x < 64 := by
        intro x hx
        obtain ⟨y, hy, rfl⟩ := List.mem_map.mp hx
        have := (t2 y (hI.2 y hy)).2
        omega
      have g1 := good_is (tm := X7_layTriples_c110 tm n) (ch := A.2.2.2.2.2.2) hwb (fun j hj => hw j (by omega))
      rw [hwl] at g1
      have g2 := ref_least (n := n) (m := m) (tm := X7_layTriples_c110 tm n) (ch := A.2.2.2.2.2.2) (fm := A.2.2.1) (ow := A.2.2.2.1) (nm := A.2.2.2.2.1) (fr := A.2.2.2.2.2.1) (by omega)
      have g3 : toL (srtF (fun k => X7_layTriples_c110 tm n (A.2.2.2.2.2.2 k).toNatClampNeg) m) m = (srtN (wsN n c)).map nI := sort_N (toL_of hwl hw) (fun x hx => by have := hwb x hx; omega)
      rw [LS_iff (by omega : n ≤ 7) g3 (fun x hx => hwb x ((srtN_perm _).mem_iff.mp hx))] at g2
      have g4 := nxt_is h4 hm hT hl hI hc
      have eB : X7_kinds_L89v2_B tm kk (nI n) (nI m) i A = none := by
        unfold X7_kinds_L89v2_B
        rw [if_neg ne]
        split
        · rfl
        · split <;> rfl
      have e2 : zfoldB (X7_kinds_L89v2_B tm kk (nI n) (nI m)) (X7_kinds_L89v2_F tm (nI n) (nI m)) (d' + 1) i A = zfoldB (X7_kinds_L89v2_B tm kk (nI n) (nI m)) (X7_kinds_L89v2_F tm (nI n) (nI m)) d' (i + 1) (X7_kinds_L89v2_F tm (nI n) (nI m) i A) := by
        simp only [zfoldB, eB]
      rw [e2]
      have g5 : (nxL (trL n).length c = 0 ∧ X7_nextSet_v (trL n).length A.2.2.2.2.2.2 m = nI 0) ∨ (∃ P, nxL (trL n).length c = P + 1 ∧ X7_nextSet_v (trL n).length A.2.2.2.2.2.2 m = nI 1 ∧ INV (trL n).length (unp m P) ∧ ∀ j, j < m → X7_nextSet_c111 (trL n).length A.2.2.2.2.2.2 m j = nI ((unp m P).getD j 0)) := g4
      have eF : ∃ x f1 f2 f3 f4, X7_kinds_L89v2_F tm (nI n) (nI m) i A = (A.1 + nI x, X7_nextSet_v (trL n).length A.2.2.2.2.2.2 m, f1, f2, f3, f4, X7_nextSet_c111 (trL n).length A.2.2.2.2.2.2 m) ∧ KR n m d (nxL (trL n).length c) (many + x) = some K := by
        unfold X7_kinds_L89v2_F
        rw [if_neg ne, cn, cm, t1, g1]
        by_cases c1 : goodL (wsN n c) = true
        · rw [if_pos c1, if_neg (by decide : ¬ nI 1 = 0)]
          by_cases c2 : LSb n (srtN (wsN n c)) = true
          · rw [g2.1 c2, if_neg (by decide : ¬ nI 1 = 0)]
            rw [c1, c2] at hk2
            exact ⟨1, _, _, _, _, rfl, hk2⟩
          · rw [g2.2 c2, if_pos (show nI 0 = 0 from rfl)]
            rw [c1, Bool.eq_false_iff.mpr c2] at hk2
            exact ⟨0, _, _, _, _, rfl, hk2⟩
        · rw [if_neg c1, if_pos (show nI 0 = 0 from rfl)]
          rw [Bool.eq_false_iff.mpr c1] at hk2
          exact ⟨0, _, _, _, _, rfl, hk2⟩
      obtain ⟨x, f1, f2, f3, f4, eF, hk3⟩ := eF
      rw [eF]
      exact ih (nxL (trL n).length c) (many + x) K d' (i + 1) (A.1 + nI x, X7_nextSet_v (trL n).length A.2.2.2.2.2.2 m, f1, f2, f3, f4, X7_nextSet_c111 (trL n).length A.2.2.2.2.2.2 m) hk3 (by omega) (by show A.1 + nI x = _; rw [h1, nI_add]) g5
