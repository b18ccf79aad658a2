/-! ===== kinds: the class's count ===== -/
def pcN (x : Nat) : Nat := x % 2 + x / 2 % 2 + x / 4 % 2 + x / 8 % 2 + x / 16 % 2 + x / 32 % 2
def bsdB (mk : Nat) (l : List Nat) : Bool := l.all (fun x => Nat.ble (pcN (x &&& mk)) 1)
def KC (n : Nat) : Nat → List Nat → Nat → Nat
  | 0, l, _ => bif LSb n l then 1 else 0
  | rem + 1, l, lo => zfold (fun mk a => bif Nat.beq (pcN mk) 3 && bsdB mk l then a + KC n rem (l ++ [mk]) (mk + 1) else a) (2 ^ n - lo) lo 0
theorem pc_ok : ∀ x, x < 64 → bcnt (nI x) = nI (pcN x) ∧ pcN x < 7 := by decide +kernel
theorem mb_ok0 : ∀ n, n < 7 → ∀ x, x < 64 → x < 2 ^ n → ∀ j, j < 7 → n ≤ j → (nI x >>> (nI j &&& 31)) &&& nI 1 = 0 := by decide +kernel
theorem mb_ok {n x : Nat} (hn : n ≤ 6) (hx : x < 2 ^ n) (h64 : x < 64) : MB n (nI x) := fun j h1 h2 => mb_ok0 n (by omega) x h64 hx j h2 h1
theorem p64 {n : Nat} (hn : n ≤ 6) : 2 ^ n ≤ 64 := by
  have := Nat.pow_le_pow_right (n := 2) (by omega) hn
  simpa using this
theorem bsd_go {mk : Nat} {ch : Nat → Int32} (hm : mk < 64) : ∀ (l : List Nat) (i : Nat), (∀ x, x ∈ l → x < 64) → (∀ j, j < l.length → ch (i + j) = nI (l.getD j 0)) → zpick (zfoldB (X1_standsBeside_L2_B (nI mk) ch) (X1_standsBeside_L2_F (nI mk) ch) l.length i ()) (fun b => b) (fun _ => nI 1) = if bsdB mk l = true then nI 1 else nI 0 := by
  intro l
  induction l with
  | nil => intro i _ _; rfl
  | cons x l ih =>
    intro i hx h
    have x9 : x &&& mk < 64 := by
      have := @Nat.and_le_right x mk
      omega
    have c0 : ch i = nI x := h 0 (by simp)
    have hB : X1_standsBeside_L2_B (nI mk) ch i () = if Nat.ble (pcN (x &&& mk)) 1 = true then none else some (nI 0) := by
      unfold X1_standsBeside_L2_B
      rw [c0, nI_and, (pc_ok _ x9).1]
      have := (pc_ok _ x9).2
      by_cases c : pcN (x &&& mk) ≤ 1
      · rw [if_pos ((nI_le31 (by omega) (by omega)).mpr c), if_pos (Nat.ble_eq_true_of_le c)]
      · rw [if_neg (fun q => c ((nI_le31 (by omega) (by omega)).mp q)), if_neg (fun q => c (Nat.le_of_ble_eq_true q))]
    have e : bsdB mk (x :: l) = (Nat.ble (pcN (x &&& mk)) 1 && bsdB mk l) := rfl
    rw [e]
    by_cases c : Nat.ble (pcN (x &&& mk)) 1 = true
    · rw [if_pos c] at hB
      rw [c, Bool.true_and, ← ih (i + 1) (fun y hy => hx y (List.mem_cons_of_mem _ hy)) (fun j hj => by rw [show i + 1 + j = i + (j + 1) by omega]; exact h (j + 1) (by simpa using hj))]
      simp only [List.length_cons, zfoldB, hB]
    · rw [if_neg c] at hB
      have c' : Nat.ble (pcN (x &&& mk)) 1 = false := Bool.eq_false_iff.mpr c
      rw [c', Bool.false_and, if_neg (by decide)]
      simp only [List.length_cons, zfoldB, hB]
      rfl
theorem toL_of {f : Nat → Int32} {l : List Nat} {m : Nat} (hl : l.length = m) (h : ∀ j, j < m → f j = nI (l.getD j 0)) : toL f m = l.map nI := by
  apply List.ext_getElem?
  intro j
  by_cases c : j < m
  · rw [toL_at c, h j c, List.getElem?_map, List.getElem?_eq_getElem (by omega), List.getD_eq_getElem?_getD, List.getElem?_eq_getElem (by omega)]
    rfl
  · rw [List.getElem?_eq_none (by simp [toL]; omega), List.getElem?_eq_none (by simp; omega)]
theorem getD_app {l : List Nat} {x j : Nat} (h : j < l.length) : (l ++ [x]).getD j 0 = l.getD j 0 := by
  rw [List.getD_eq_getElem?_getD, List.getD_eq_getElem?_getD, List.getElem?_append_left h]
theorem getD_new {l : List Nat} {x : Nat} : (l ++ [x]).getD l.length 0 = x := by
  rw [List.getD_eq_getElem?_getD, List.getElem?_append_right (Nat.le_refl _), Nat.sub_self]
  rfl
theorem leaf {n : Nat} (h2 : 2 ≤ n) (hn : n ≤ 6) {ren im ch : Nat → Int32} {l : List Nat} {m : Nat} (hl : l.length = m) (hb : ∀ x, x ∈ l → x < 2 ^ n) (h : ∀ j, j < m → ch j = nI (l.getD j 0)) : X1_isLeast_v ren im ch n m = if LSb n l = true then nI 1 else nI 0 := by
  have h64 : ∀ x, x ∈ l → x < 64 := fun x hx => by have := hb x hx; have := p64 hn; omega
  have hm : ∀ i, i < m → MB n (ch i) := by
    intro i hi
    rw [h i hi, List.getD_eq_getElem?_getD, List.getElem?_eq_getElem (by omega)]
    exact mb_ok hn (hb _ (List.getElem_mem _)) (h64 _ (List.getElem_mem _))
  obtain ⟨i1, i2⟩ := cls_least (ren := ren) (im := im) h2 (by omega) hm
  have q := LS_iff (by omega : n ≤ 7) (toL_of hl h) h64
  by_cases c : LSb n l = true
  · rw [if_pos c]; exact i1 (q.mpr c)
  · rw [if_neg c]; exact i2 (fun z => c (q.mp z))
theorem KC_s {n rem lo : Nat} {l : List Nat} : KC n (rem + 1) l lo = zfold (fun mk a => bif Nat.beq (pcN mk) 3 && bsdB mk l then a + KC n rem (l ++ [mk]) (mk + 1) else a) (2 ^ n - lo) lo 0 := rfl
theorem lf_4 {n : Nat} (h2 : 2 ≤ n) (hn : n ≤ 6) {ren im ch : Nat → Int32} {l : List Nat} (hl : l.length = 4) (hb : ∀ x, x ∈ l → x < 2 ^ n) (h : ∀ j, j < 4 → ch j = nI (l.getD j 0)) {lo : Nat} : nI (X1_leastFrom_n_4 ren im ch n 4) = nI (KC n 0 l lo) := by
  unfold X1_leastFrom_n_4
  rw [if_pos (Int32.le_refl _), leaf h2 hn hl hb h]
  show _ = nI (bif LSb n l then 1 else 0)
  cases LSb n l <;> rfl
theorem lf_3 {n m : Nat} (h2 : 2 ≤ n) (hn : n ≤ 6) (hm : 3 ≤ m) (h4 : m ≤ 4) {ren im ch : Nat → Int32} {l : List Nat} (hl : l.length = 3) (hb : ∀ x, x ∈ l → x < 2 ^ n) (h : ∀ j, j < 3 → ch j = nI (l.getD j 0)) {lo : Nat} (hlo : lo ≤ 2 ^ n) :
    X1_leastFrom_v_3 ren im ch lo n m = nI (KC n (m - 3) l lo) ∧ ∀ j, j < 3 → X1_leastFrom_c74_3 ren im ch lo n m j = ch j := by
  unfold X1_leastFrom_v_3 X1_leastFrom_c74_3
  by_cases c : m = 3
  · subst c
    rw [if_pos (Int32.le_refl _), if_pos (Int32.le_refl _), leaf h2 hn hl hb h]
    refine ⟨?_, fun j _ => by split <;> rfl⟩
    rw [Nat.sub_self]
    show _ = nI (bif LSb n l then 1 else 0)
    cases LSb n l <;> rfl
  · have cn : ¬ nI m ≤ nI 3 := fun q => by have := (nI_le31 (by omega) (by omega)).mp q; omega
    rw [if_neg cn, if_neg cn, show m - 3 = (m - 4) + 1 by omega, KC_s]
    simp only [zlet]
    have h9 := p64 hn
    refine zfold_R (n := 2 ^ n) (F := X1_leastFrom_L33_3_F n m) (fun _ (a : Int32 × (Nat → Int32) × (Nat → Int32) × (Nat → Int32)) (b : Nat) => a.1 = nI b ∧ ∀ j, j < 3 → a.2.2.2 j = ch j) (fun mk A b hk q => ?_) (2 ^ n - lo) lo (nI 0, im, ren, ch) 0 (by omega) ⟨rfl, fun _ _ => rfl⟩
    obtain ⟨q1, q2⟩ := q
    have mk64 : mk < 64 := by omega
    have sb : X1_standsBeside_v (nI mk) A.2.2.2 3 = if bsdB mk l = true then nI 1 else nI 0 := by
      have z := bsd_go (ch := A.2.2.2) mk64 l 0 (fun x hx => by have := hb x hx; omega) (fun j hj => by rw [Nat.zero_add, q2 j (by omega)]; exact h j (by omega))
      rw [hl] at z
      exact z
    unfold X1_leastFrom_L33_3_F
    rw [(pc_ok mk mk64).1, sb]
    have p7 := (pc_ok mk mk64).2
    by_cases c1 : pcN mk = 3
    · rw [if_pos (by rw [c1])]
      have c1' : Nat.beq (pcN mk) 3 = true := Nat.beq_eq.mpr c1
      show _ = nI (bif Nat.beq (pcN mk) 3 && bsdB mk l then _ else _) ∧ _
      rw [c1', Bool.true_and]
      cases hbs : bsdB mk l with
      | true =>
        rw [if_pos rfl, if_neg (by decide)]
        have hl' : (l ++ [mk]).length = 4 := by rw [List.length_append, hl]; rfl
        have hb' : ∀ x, x ∈ l ++ [mk] → x < 2 ^ n := by
          intro x hx
          rcases List.mem_append.mp hx with z | z
          · exact hb x z
          · rw [List.mem_singleton.mp z]; exact hk
        have h' : ∀ j, j < 4 → upd A.2.2.2 3 (nI mk) j = nI ((l ++ [mk]).getD j 0) := by
          intro j hj
          unfold upd
          by_cases cj : j = 3
          · rw [if_pos cj]; exact congrArg nI (by rw [show j = l.length by omega, getD_new])
          · rw [if_neg cj, q2 j (by omega), h j (by omega), getD_app (by omega)]
        have m4 : m = 4 := by omega
        subst m4
        refine ⟨?_, fun j hj => ?_⟩
        · show A.1 + nI (X1_leastFrom_n_4 _ _ _ n 4) = nI (b + _)
          rw [lf_4 h2 hn hl' hb' h' (lo := mk + 1), q1, nI_add]
        · show upd A.2.2.2 3 (nI mk) j = ch j
          unfold upd
          rw [if_neg (by omega)]
          exact q2 j hj
      | false =>
        rw [if_pos (show (if false = true then nI 1 else nI 0) = 0 from rfl)]
        exact ⟨q1, q2⟩
    · rw [if_neg (fun z => c1 ((nI_eq (by omega) (by omega)).mp z))]
      have c1' : Nat.beq (pcN mk) 3 = false := by
        cases z : Nat.beq (pcN mk) 3 with
        | true => exact absurd (Nat.eq_of_beq_eq_true z) c1
        | false => rfl
      show _ = nI (bif Nat.beq (pcN mk) 3 && bsdB mk l then _ else _) ∧ _
      rw [c1', Bool.false_and]
      exact ⟨q1, q2⟩
theorem lf_2 {n m : Nat} (h2 : 2 ≤ n) (hn : n ≤ 6) (hm : 2 ≤ m) (h4 : m ≤ 4) {ren im ch : Nat → Int32} {l : List Nat} (hl : l.length = 2) (hb : ∀ x, x ∈ l → x < 2 ^ n) (h : ∀ j, j < 2 → ch j = nI (l.getD j 0)) {lo : Nat} (hlo : lo ≤ 2 ^ n) :
    X1_leastFrom_v_2 ren im ch lo n m = nI (KC n (m - 2) l lo) ∧ ∀ j, j < 2 → X1_leastFrom_c74_2 ren im ch lo n m j = ch j := by
  unfold X1_leastFrom_v_2 X1_leastFrom_c74_2
  by_cases c : m = 2
  · subst c
    rw [if_pos (Int32.le_refl _), if_pos (Int32.le_refl _), leaf h2 hn hl hb h]
    refine ⟨?_, fun j _ => by split <;> rfl⟩
    rw [Nat.sub_self]
    show _ = nI (bif LSb n l then 1 else 0)
    cases LSb n l <;> rfl
  · have cn : ¬ nI m ≤ nI 2 := fun q => by have := (nI_le31 (by omega) (by omega)).mp q; omega
    rw [if_neg cn, if_neg cn, show m - 2 = (m - 3) + 1 by omega, KC_s]
    simp only [zlet]
    have h9 := p64 hn
    refine zfold_R (n := 2 ^ n) (F := X1_leastFrom_L33_2_F n m) (fun _ (a : Int32 × (Nat → Int32) × (Nat → Int32) × (Nat → Int32)) (b : Nat) => a.1 = nI b ∧ ∀ j, j < 2 → a.2.2.2 j = ch j) (fun mk A b hk q => ?_) (2 ^ n - lo) lo (nI 0, im, ren, ch) 0 (by omega) ⟨rfl, fun _ _ => rfl⟩
    obtain ⟨q1, q2⟩ := q
    have mk64 : mk < 64 := by omega
    have sb : X1_standsBeside_v (nI mk) A.2.2.2 2 = if bsdB mk l = true then nI 1 else nI 0 := by
      have z := bsd_go (ch := A.2.2.2) mk64 l 0 (fun x hx => by have := hb x hx; omega) (fun j hj => by rw [Nat.zero_add, q2 j (by omega)]; exact h j (by omega))
      rw [hl] at z
      exact z
    unfold X1_leastFrom_L33_2_F
    rw [(pc_ok mk mk64).1, sb]
    have p7 := (pc_ok mk mk64).2
    by_cases c1 : pcN mk = 3
    · rw [if_pos (by rw [c1])]
      have c1' : Nat.beq (pcN mk) 3 = true := Nat.beq_eq.mpr c1
      show _ = nI (bif Nat.beq (pcN mk) 3 && bsdB mk l then _ else _) ∧ _
      rw [c1', Bool.true_and]
      cases hbs : bsdB mk l with
      | true =>
        rw [if_pos rfl, if_neg (by decide)]
        have hl' : (l ++ [mk]).length = 3 := by rw [List.length_append, hl]; rfl
        have hb' : ∀ x, x ∈ l ++ [mk] → x < 2 ^ n := by
          intro x hx
          rcases List.mem_append.mp hx with z | z
          · exact hb x z
          · rw [List.mem_singleton.mp z]; exact hk
        have h' : ∀ j, j < 3 → upd A.2.2.2 2 (nI mk) j = nI ((l ++ [mk]).getD j 0) := by
          intro j hj
          unfold upd
          by_cases cj : j = 2
          · rw [if_pos cj]; exact congrArg nI (by rw [show j = l.length by omega, getD_new])
          · rw [if_neg cj, q2 j (by omega), h j (by omega), getD_app (by omega)]
        obtain ⟨w1, w2⟩ := lf_3 (ren := A.2.2.1) (im := A.2.1) h2 hn (by omega) h4 hl' hb' h' (lo := mk + 1) (by omega)
        refine ⟨?_, fun j hj => ?_⟩
        · show A.1 + X1_leastFrom_v_3 _ _ _ _ n m = nI (b + _)
          rw [w1, q1, nI_add]
        · show X1_leastFrom_c74_3 _ _ _ _ n m j = ch j
          rw [w2 j (by omega)]
          unfold upd
          rw [if_neg (by omega)]
          exact q2 j hj
      | false =>
        rw [if_pos (show (if false = true then nI 1 else nI 0) = 0 from rfl)]
        exact ⟨q1, q2⟩
    · rw [if_neg (fun z => c1 ((nI_eq (by omega) (by omega)).mp z))]
      have c1' : Nat.beq (pcN mk) 3 = false := by
        cases z : Nat.beq (pcN mk) 3 with
        | true => exact absurd (Nat.eq_of_beq_eq_true z) c1
        | false => rfl
      show _ = nI (bif Nat.beq (pcN mk) 3 && bsdB mk l then _ else _) ∧ _
      rw [c1', Bool.false_and]
      exact ⟨q1, q2⟩
theorem lf_1 {n m : Nat} (h2 : 2 ≤ n) (hn : n ≤ 6) (hm : 1 ≤ m) (h4 : m ≤ 4) {ren im ch : Nat → Int32} {l : List Nat} (hl : l.length = 1) (hb : ∀ x, x ∈ l → x < 2 ^ n) (h : ∀ j, j < 1 → ch j = nI (l.getD j 0)) {lo : Nat} (hlo : lo ≤ 2 ^ n) :
    X1_leastFrom_v_1 ren im ch lo n m = nI (KC n (m - 1) l lo) ∧ ∀ j, j < 1 → X1_leastFrom_c74_1 ren im ch lo n m j = ch j := by
  unfold X1_leastFrom_v_1 X1_leastFrom_c74_1
  by_cases c : m = 1
  · subst c
    rw [if_pos (Int32.le_refl _), if_pos (Int32.le_refl _), leaf h2 hn hl hb h]
    refine ⟨?_, fun j _ => by split <;> rfl⟩
    rw [Nat.sub_self]
    show _ = nI (bif LSb n l then 1 else 0)
    cases LSb n l <;> rfl
  · have cn : ¬ nI m ≤ nI 1 := fun q => by have := (nI_le31 (by omega) (by omega)).mp q; omega
    rw [if_neg cn, if_neg cn, show m - 1 = (m - 2) + 1 by omega, KC_s]
    simp only [zlet]
    have h9 := p64 hn
    refine zfold_R (n := 2 ^ n) (F := X1_leastFrom_L33_1_F n m) (fun _ (a : Int32 × (Nat → Int32) × (Nat → Int32) × (Nat → Int32)) (b : Nat) => a.1 = nI b ∧ ∀ j, j < 1 → a.2.2.2 j = ch j) (fun mk A b hk q => ?_) (2 ^ n - lo) lo (nI 0, im, ren, ch) 0 (by omega) ⟨rfl, fun _ _ => rfl⟩
    obtain ⟨q1, q2⟩ := q
    have mk64 : mk < 64 := by omega
    have sb : X1_standsBeside_v (nI mk) A.2.2.2 1 = if bsdB mk l = true then nI 1 else nI 0 := by
      have z := bsd_go (ch := A.2.2.2) mk64 l 0 (fun x hx => by have := hb x hx; omega) (fun j hj => by rw [Nat.zero_add, q2 j (by omega)]; exact h j (by omega))
      rw [hl] at z
      exact z
    unfold X1_leastFrom_L33_1_F
    rw [(pc_ok mk mk64).1, sb]
    have p7 := (pc_ok mk mk64).2
    by_cases c1 : pcN mk = 3
    · rw [if_pos (by rw [c1])]
      have c1' : Nat.beq (pcN mk) 3 = true := Nat.beq_eq.mpr c1
      show _ = nI (bif Nat.beq (pcN mk) 3 && bsdB mk l then _ else _) ∧ _
      rw [c1', Bool.true_and]
      cases hbs : bsdB mk l with
      | true =>
        rw [if_pos rfl, if_neg (by decide)]
        have hl' : (l ++ [mk]).length = 2 := by rw [List.length_append, hl]; rfl
        have hb' : ∀ x, x ∈ l ++ [mk] → x < 2 ^ n := by
          intro x hx
          rcases List.mem_append.mp hx with z | z
          · exact hb x z
          · rw [List.mem_singleton.mp z]; exact hk
        have h' : ∀ j, j < 2 → upd A.2.2.2 1 (nI mk) j = nI ((l ++ [mk]).getD j 0) := by
          intro j hj
          unfold upd
          by_cases cj : j = 1
          · rw [if_pos cj]; exact congrArg nI (by rw [show j = l.length by omega, getD_new])
          · rw [if_neg cj, q2 j (by omega), h j (by omega), getD_app (by omega)]
        obtain ⟨w1, w2⟩ := lf_2 (ren := A.2.2.1) (im := A.2.1) h2 hn (by omega) h4 hl' hb' h' (lo := mk + 1) (by omega)
        refine ⟨?_, fun j hj => ?_⟩
        · show A.1 + X1_leastFrom_v_2 _ _ _ _ n m = nI (b + _)
          rw [w1, q1, nI_add]
        · show X1_leastFrom_c74_2 _ _ _ _ n m j = ch j
          rw [w2 j (by omega)]
          unfold upd
          rw [if_neg (by omega)]
          exact q2 j hj
      | false =>
        rw [if_pos (show (if false = true then nI 1 else nI 0) = 0 from rfl)]
        exact ⟨q1, q2⟩
    · rw [if_neg (fun z => c1 ((nI_eq (by omega) (by omega)).mp z))]
      have c1' : Nat.beq (pcN mk) 3 = false := by
        cases z : Nat.beq (pcN mk) 3 with
        | true => exact absurd (Nat.eq_of_beq_eq_true z) c1
        | false => rfl
      show _ = nI (bif Nat.beq (pcN mk) 3 && bsdB mk l then _ else _) ∧ _
      rw [c1', Bool.false_and]
      exact ⟨q1, q2⟩
theorem lf_0 {n m : Nat} (h2 : 2 ≤ n) (hn : n ≤ 6) (hm : 0 ≤ m) (h4 : m ≤ 4) {ren im ch : Nat → Int32} {l : List Nat} (hl : l.length = 0) (hb : ∀ x, x ∈ l → x < 2 ^ n) (h : ∀ j, j < 0 → ch j = nI (l.getD j 0)) {lo : Nat} (hlo : lo ≤ 2 ^ n) :
    X1_leastFrom_v_0 ren im ch lo n m = nI (KC n (m - 0) l lo) ∧ ∀ j, j < 0 → X1_leastFrom_c74_0 ren im ch lo n m j = ch j := by
  unfold X1_leastFrom_v_0 X1_leastFrom_c74_0
  by_cases c : m = 0
  · subst c
    rw [if_pos (Int32.le_refl _), if_pos (Int32.le_refl _), leaf h2 hn hl hb h]
    refine ⟨?_, fun j _ => by split <;> rfl⟩
    rw [Nat.sub_self]
    show _ = nI (bif LSb n l then 1 else 0)
    cases LSb n l <;> rfl
  · have cn : ¬ nI m ≤ nI 0 := fun q => by have := (nI_le31 (by omega) (by omega)).mp q; omega
    rw [if_neg cn, if_neg cn, show m - 0 = (m - 1) + 1 by omega, KC_s]
    simp only [zlet]
    have h9 := p64 hn
    refine zfold_R (n := 2 ^ n) (F := X1_leastFrom_L33_0_F n m) (fun _ (a : Int32 × (Nat → Int32) × (Nat → Int32) × (Nat → Int32)) (b : Nat) => a.1 = nI b ∧ ∀ j, j < 0 → a.2.2.2 j = ch j) (fun mk A b hk q => ?_) (2 ^ n - lo) lo (nI 0, im, ren, ch) 0 (by omega) ⟨rfl, fun _ _ => rfl⟩
    obtain ⟨q1, q2⟩ := q
    have mk64 : mk < 64 := by omega
    have sb : X1_standsBeside_v (nI mk) A.2.2.2 0 = if bsdB mk l = true then nI 1 else nI 0 := by
      have z := bsd_go (ch := A.2.2.2) mk64 l 0 (fun x hx => by have := hb x hx; omega) (fun j hj => by rw [Nat.zero_add, q2 j (by omega)]; exact h j (by omega))
      rw [hl] at z
      exact z
    unfold X1_leastFrom_L33_0_F
    rw [(pc_ok mk mk64).1, sb]
    have p7 := (pc_ok mk mk64).2
    by_cases c1 : pcN mk = 3
    · rw [if_pos (by rw [c1])]
      have c1' : Nat.beq (pcN mk) 3 = true := Nat.beq_eq.mpr c1
      show _ = nI (bif Nat.beq (pcN mk) 3 && bsdB mk l then _ else _) ∧ _
      rw [c1', Bool.true_and]
      cases hbs : bsdB mk l with
      | true =>
        rw [if_pos rfl, if_neg (by decide)]
        have hl' : (l ++ [mk]).length = 1 := by rw [List.length_append, hl]; rfl
        have hb' : ∀ x, x ∈ l ++ [mk] → x < 2 ^ n := by
          intro x hx
          rcases List.mem_append.mp hx with z | z
          · exact hb x z
          · rw [List.mem_singleton.mp z]; exact hk
        have h' : ∀ j, j < 1 → upd A.2.2.2 0 (nI mk) j = nI ((l ++ [mk]).getD j 0) := by
          intro j hj
          unfold upd
          by_cases cj : j = 0
          · rw [if_pos cj]; exact congrArg nI (by rw [show j = l.length by omega, getD_new])
          · rw [if_neg cj, q2 j (by omega), h j (by omega), getD_app (by omega)]
        obtain ⟨w1, w2⟩ := lf_1 (ren := A.2.2.1) (im := A.2.1) h2 hn (by omega) h4 hl' hb' h' (lo := mk + 1) (by omega)
        refine ⟨?_, fun j hj => ?_⟩
        · show A.1 + X1_leastFrom_v_1 _ _ _ _ n m = nI (b + _)
          rw [w1, q1, nI_add]
        · show X1_leastFrom_c74_1 _ _ _ _ n m j = ch j
          rw [w2 j (by omega)]
          unfold upd
          rw [if_neg (by omega)]
          exact q2 j hj
      | false =>
        rw [if_pos (show (if false = true then nI 1 else nI 0) = 0 from rfl)]
        exact ⟨q1, q2⟩
    · rw [if_neg (fun z => c1 ((nI_eq (by omega) (by omega)).mp z))]
      have c1' : Nat.beq (pcN mk) 3 = false := by
        cases z : Nat.beq (pcN mk) 3 with
        | true => exact absurd (Nat.eq_of_beq_eq_true z) c1
        | false => rfl
      show _ = nI (bif Nat.beq (pcN mk) 3 && bsdB mk l then _ else _) ∧ _
      rw [c1', Bool.false_and]
      exact ⟨q1, q2⟩
theorem cls_kinds {n m : Nat} (h2 : 2 ≤ n) (hn : n ≤ 6) (h4 : m ≤ 4) {ren im ch : Nat → Int32} : X1_leastFrom_v_0 ren im ch 0 n m = nI (KC n m [] 0) := by
  have := (lf_0 (ren := ren) (im := im) (ch := ch) h2 hn (Nat.zero_le m) h4 (l := []) rfl (fun x hx => absurd hx List.not_mem_nil) (fun j hj => absurd hj (Nat.not_lt_zero j)) (lo := 0) (Nat.zero_le _)).1
  rw [Nat.sub_zero] at this
  exact this
