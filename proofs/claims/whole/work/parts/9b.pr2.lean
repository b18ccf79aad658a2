/-! ===== reading: both passes over the bytes, side by side ===== -/
def uN (S : Nat → Nat) (w v : Nat) : Nat → Nat := fun a => if a = w then v else S a
def uC (C : Nat → Nat → Nat) (w s c : Nat) : Nat → Nat → Nat := fun a b => if a = w ∧ b = s then c else C a b
def dL (r : Nat → Nat) : Nat → List Nat → List Nat
  | 0, D => D
  | s + 1, D => addD (dL r s D) (r s)
def dW (S : Nat → Nat) (C : Nat → Nat → Nat) : Nat → List Nat
  | 0 => []
  | k + 1 => dL (C k) (S k) (dW S C k)
def sm (S : Nat → Nat) : Nat → Nat
  | 0 => 0
  | k + 1 => sm S k + S k
theorem dL_ext {r r' : Nat → Nat} {D : List Nat} : ∀ s, (∀ j, j < s → r j = r' j) → dL r s D = dL r' s D := by
  intro s
  induction s with
  | zero => intro _; rfl
  | succ s ih => intro h; show addD _ _ = addD _ _; rw [ih (fun j hj => h j (by omega)), h s (by omega)]
theorem dW_ext {S S' : Nat → Nat} {C C' : Nat → Nat → Nat} : ∀ k, (∀ w, w < k → S w = S' w ∧ ∀ j, j < S w → C w j = C' w j) → dW S C k = dW S' C' k := by
  intro k
  induction k with
  | zero => intro _; rfl
  | succ k ih =>
    intro h
    show dL _ _ _ = dL _ _ _
    rw [ih (fun w hw => h w (by omega)), (h k (by omega)).1]
    exact dL_ext _ (fun j hj => (h k (by omega)).2 j (by rw [(h k (by omega)).1]; exact hj))
theorem sm_ext {S S' : Nat → Nat} : ∀ k, (∀ w, w < k → S w = S' w) → sm S k = sm S' k := by
  intro k
  induction k with
  | zero => intro _; rfl
  | succ k ih => intro h; show _ + _ = _ + _; rw [ih (fun w hw => h w (by omega)), h k (by omega)]
theorem dW_new {S : Nat → Nat} {C : Nat → Nat → Nat} {k c : Nat} : dW (uN S k 1) (uC C k 0 c) (k + 1) = addD (dW S C k) c := by
  have e1 : uN S k 1 k = 1 := if_pos rfl
  have e2 : uC C k 0 c k 0 = c := if_pos ⟨rfl, rfl⟩
  show dL (uC C k 0 c k) (uN S k 1 k) _ = _
  rw [e1]
  show addD (dW (uN S k 1) (uC C k 0 c) k) (uC C k 0 c k 0) = _
  rw [e2, dW_ext (S := uN S k 1) (C := uC C k 0 c) (S' := S) (C' := C) k (fun w hw => ⟨if_neg (by omega), fun j _ => if_neg (fun q => by omega)⟩)]
theorem dW_more {S : Nat → Nat} {C : Nat → Nat → Nat} {k c : Nat} : dW (uN S k (S k + 1)) (uC C k (S k) c) (k + 1) = addD (dW S C (k + 1)) c := by
  have e1 : uN S k (S k + 1) k = S k + 1 := if_pos rfl
  have e2 : uC C k (S k) c k (S k) = c := if_pos ⟨rfl, rfl⟩
  show dL (uC C k (S k) c k) (uN S k (S k + 1) k) _ = _
  rw [e1]
  show addD (dL (uC C k (S k) c k) (S k) (dW (uN S k (S k + 1)) (uC C k (S k) c) k)) (uC C k (S k) c k (S k)) = _
  rw [e2, dW_ext (S := uN S k (S k + 1)) (C := uC C k (S k) c) (S' := S) (C' := C) k (fun w hw => ⟨if_neg (by omega), fun j _ => if_neg (fun q => by omega)⟩), dL_ext (r := uC C k (S k) c k) (r' := C k) (S k) (fun j hj => if_neg (fun q => by omega))]
  rfl
theorem sm_new {S : Nat → Nat} {k v : Nat} : sm (uN S k v) (k + 1) = sm S k + v := by
  show sm (uN S k v) k + uN S k v k = _
  rw [sm_ext (S := uN S k v) (S' := S) k (fun w hw => if_neg (by omega)), show uN S k v k = v from if_pos rfl]
/-- the words read so far -/
def GH (wds size : Nat) (S : Nat → Nat) (C : Nat → Nat → Nat) : Prop :=
  (dW S C wds).Nodup ∧ (∀ c, c ∈ dW S C wds → c < 10) ∧ wds ≤ 12 ∧ (∀ w, w < wds → 1 ≤ S w ∧ S w ≤ 5 ∧ (∀ j, j < S w → C w j ∈ dW S C wds) ∧ (∀ j k, j < S w → k < S w → C w j = C w k → j = k) ∧ (w + 1 < wds ∨ size = 0 → 3 ≤ S w)) ∧
  (0 < size → 1 ≤ wds ∧ S (wds - 1) = size ∧ ∀ k, k < wds - 1 → ∀ j1 j2 i1 i2, j1 < S k → j2 < S k → i1 < size → i2 < size → C k j1 = C (wds - 1) i1 → C k j2 = C (wds - 1) i2 → C k j1 = C k j2)
abbrev TA := (Nat) × (Nat) × (Nat) × (Int32) × (Nat → Int32) × (Nat → Int32) × (Nat → Nat → Int32) × (Nat → Int32)
abbrev TB := (Nat) × (Nat) × (Nat → Int32) × (Nat → Int32) × (Nat → Int32)
/-- a set of points or letters as a mask -/
def MSK (m : Int32) (s : Nat) (x : Nat → Nat) : Prop := ∃ Q, Q < 1024 ∧ m = nI Q ∧ ∀ p, Q.testBit p = true ↔ ∃ j, j < s ∧ x j = p
theorem MSK_ext {m : Int32} {s : Nat} {x y : Nat → Nat} (h : MSK m s x) (e : ∀ j, j < s → x j = y j) : MSK m s y := by
  obtain ⟨Q, q1, q2, q3⟩ := h
  refine ⟨Q, q1, q2, fun p => ?_⟩
  rw [q3 p]
  exact ⟨fun ⟨j, h1, h2⟩ => ⟨j, h1, by rw [← e j h1]; exact h2⟩, fun ⟨j, h1, h2⟩ => ⟨j, h1, by rw [e j h1]; exact h2⟩⟩
theorem MSK_0 {x : Nat → Nat} : MSK (nI 0) 0 x := ⟨0, by decide, rfl, fun p => ⟨fun q => absurd (show false = true by rw [Nat.zero_testBit] at q; exact q) (by decide), fun ⟨j, h, _⟩ => absurd h (Nat.not_lt_zero j)⟩⟩
theorem MSK_add {m : Int32} {s c : Nat} {x : Nat → Nat} (h : MSK m s x) (hc : c < 10) (e : x s = c) : MSK (m ||| (nI 1 <<< (nI c &&& 31))) (s + 1) x := by
  obtain ⟨Q, q1, q2, q3⟩ := h
  refine ⟨Q ||| 2 ^ c, or_lt q1 (pow_lt hc), by rw [q2, one_shl0 c (by omega), nI_or], fun p => ?_⟩
  rw [Nat.testBit_or, Bool.or_eq_true, q3 p, tb_pow, decide_eq_true_eq]
  constructor
  · rintro (⟨j, h1, h2⟩ | h)
    · exact ⟨j, by omega, h2⟩
    · exact ⟨s, by omega, by rw [e, h]⟩
  · rintro ⟨j, h1, h2⟩
    by_cases q : j = s
    · subst q
      exact Or.inr (by rw [← e, h2])
    · exact Or.inl ⟨j, by omega, h2⟩
/-- the class's side -/
def CI (wds : Nat) (S : Nat → Nat) (C : Nat → Nat → Nat) (a : TA) : Prop :=
  a.1 = (dW S C wds).length ∧ a.2.1 = wds ∧ a.2.2.1 = sm S wds ∧ (∀ k c, (dW S C wds)[k]? = some c → a.2.2.2.2.1 k = nI (c + 97)) ∧ ∀ w, w < wds → a.2.2.2.2.2.1 w = nI (S w) ∧ (∀ j, j < S w → a.2.2.2.2.2.2.1 w j = nI ((dW S C wds).idxOf (C w j))) ∧ MSK (a.2.2.2.2.2.2.2 w) (S w) (fun j => (dW S C wds).idxOf (C w j))
/-- the reference's side -/
def RI (wds : Nat) (S : Nat → Nat) (C : Nat → Nat → Nat) (b : TB) : Prop :=
  b.1 = wds ∧ ∀ w, w < wds → b.2.2.1 w = nI (S w) ∧ (∀ j, j < S w → b.2.2.2.1 (5 * w + j) = nI (C w j)) ∧ MSK (b.2.2.2.2 w) (S w) (C w)
def SIM (a : TA) (b : TB) : Prop := ∃ (wds size : Nat) (S : Nat → Nat) (C : Nat → Nat → Nat), GH wds size S C ∧ CI wds S C a ∧ RI wds S C b ∧ b.2.1 = size ∧ a.2.2.2.1 = if size = 0 then nI 0 else nI 1
/-- a letter that may come -/
def NOK (w s : Nat) (S : Nat → Nat) (C : Nat → Nat → Nat) (c : Nat) : Prop := (∀ j, j < s → C w j ≠ c) ∧ ∀ k, k < w → (∀ j, j < S k → C k j ≠ c) ∨ ∀ j i, j < S k → i < s → C k j ≠ C w i
theorem may_same {wds : Nat} {S : Nat → Nat} {C : Nat → Nat → Nat} {wm : Nat → Int32} (h1 : 1 ≤ wds) (hM : ∀ w, w < wds → MSK (wm w) (S w) (C w)) {c : Nat} (hc : c < 10) {s : Nat} (hs : S (wds - 1) = s) (h5 : s < 5) (h0 : 0 < s) :
    (X7_mayCome_v wds wm (nI c) s = nI 1 ∧ NOK (wds - 1) s S C c) ∨ (X7_mayCome_v wds wm (nI c) s = nI 0 ∧ ¬ NOK (wds - 1) s S C c) := by
  have z : ¬ nI s = 0 := nI_ne0 h0 (by omega)
  have z5 : ¬ nI 5 ≤ nI s := nI_ge h5 (by omega)
  have bit : ∀ w, w < wds → ((wm w >>> (nI c &&& 31)) &&& nI 1 = 0 ↔ ∀ j, j < S w → C w j ≠ c) := fun w hw => by
    obtain ⟨Q, q1, q2, q3⟩ := hM w hw
    rw [q2, tb_is q1 hc]
    constructor
    · intro e j hj q
      have := (q3 c).mpr ⟨j, hj, q⟩
      rw [e] at this
      cases this
    · intro e
      cases t : Q.testBit c
      · rfl
      · obtain ⟨j, hj, q⟩ := (q3 c).mp t
        exact absurd q (e j hj)
  unfold X7_mayCome_v
  rw [if_neg z, if_neg z5]
  by_cases c1 : (wm (wds - 1) >>> (nI c &&& 31)) &&& nI 1 = 0
  · have own := (bit (wds - 1) (by omega)).mp c1
    rw [hs] at own
    rw [if_pos c1]
    rcases andX (R := fun k => (∀ j, j < S k → C k j ≠ c) ∨ ∀ j i, j < S k → i < s → C k j ≠ C (wds - 1) i) (B := X7_mayCome_L54v3_B wds wm (nI c)) (F := X7_mayCome_L54v3_F wds wm (nI c)) (n := wds - 1) (fun i => by unfold X7_mayCome_L54v3_B; rw [if_pos (show nI 0 = 0 from rfl)]) (fun i => by unfold X7_mayCome_L54v3_B; simp only [if_neg (show ¬ nI 1 = 0 by decide), ite_self]) 0 (fun k _ hk => by
      unfold X7_mayCome_L54v3_F
      rw [if_neg (show ¬ nI 1 = 0 by decide)]
      by_cases d1 : (wm k >>> (nI c &&& 31)) &&& nI 1 = 0
      · rw [if_pos d1]
        exact Or.inl ⟨rfl, Or.inl ((bit k (by omega)).mp d1)⟩
      · rw [if_neg d1]
        have n1 : ¬ ∀ j, j < S k → C k j ≠ c := fun q => d1 ((bit k (by omega)).mpr q)
        obtain ⟨Q, q1, q2, q3⟩ := hM k (by omega)
        obtain ⟨P, p1, p2, p3⟩ := hM (wds - 1) (by omega)
        rw [hs] at p3
        rw [q2, p2, nI_and]
        have e0 : nI (Q &&& P) = 0 ↔ ∀ j i, j < S k → i < s → C k j ≠ C (wds - 1) i := by
          rw [show (0 : Int32) = nI 0 from rfl, nI_eq (by have := and_lt (a := Q) p1; omega) (by omega), and_0]
          constructor
          · intro q j i hj hi e
            exact q (C k j) ⟨(q3 _).mpr ⟨j, hj, rfl⟩, (p3 _).mpr ⟨i, hi, e.symm⟩⟩
          · rintro q x ⟨u, v⟩
            obtain ⟨j, hj, ej⟩ := (q3 x).mp u
            obtain ⟨i, hi, ei⟩ := (p3 x).mp v
            exact q j i hj hi (by rw [ej, ei])
        by_cases d2 : nI (Q &&& P) = 0
        · rw [if_pos d2]
          exact Or.inl ⟨rfl, Or.inr (e0.mp d2)⟩
        · rw [if_neg d2]
          exact Or.inr ⟨rfl, fun q => q.elim n1 (fun q => d2 (e0.mpr q))⟩) (wds - 1) 0 (Nat.le_refl _) (by omega) with ⟨e, r⟩ | ⟨e, r⟩
    · exact Or.inl ⟨e, own, fun k hk => r k (Nat.zero_le _) hk⟩
    · exact Or.inr ⟨e, fun q => r (fun k _ hk => q.2 k hk)⟩
  · rw [if_neg c1, andX0 (fun i => by unfold X7_mayCome_L54v2_B; rw [if_pos (show nI 0 = 0 from rfl)])]
    refine Or.inr ⟨rfl, fun q => c1 ((bit (wds - 1) (by omega)).mpr ?_)⟩
    rw [hs]
    exact q.1
theorem andBv {v : Int32} {R : Nat → Prop} {B : Nat → Unit → Option Int32} {F : Nat → Unit → Unit} {n : Nat} (hB : ∀ i, i < n → (B i () = none ∧ R i) ∨ (B i () = some v ∧ ¬ R i)) : ∀ d i, i + d = n →
    ((∃ a, zfoldB B F d i () = (none, a)) ∧ ∀ j, i ≤ j → j < n → R j) ∨ ((∃ a, zfoldB B F d i () = (some v, a)) ∧ ¬ ∀ j, i ≤ j → j < n → R j) := by
  intro d
  induction d with
  | zero => intro i h; exact Or.inl ⟨⟨_, rfl⟩, fun j h1 h2 => by omega⟩
  | succ d ih =>
    intro i h
    rcases hB i (by omega) with ⟨e, r⟩ | ⟨e, r⟩
    · simp only [zfoldB, e]
      rcases ih (i + 1) (by omega) with ⟨e2, r2⟩ | ⟨e2, r2⟩
      · refine Or.inl ⟨e2, fun j h1 h2 => ?_⟩
        by_cases c : j = i
        · subst c; exact r
        · exact r2 j (by omega) h2
      · exact Or.inr ⟨e2, fun q => r2 (fun j h1 h2 => q j (by omega) h2)⟩
    · have e3 : zfoldB B F (d + 1) i () = (some v, ()) := by simp only [zfoldB, e]
      rw [e3]
      exact Or.inr ⟨⟨_, rfl⟩, fun q => r (q i (Nat.le_refl _) (by omega))⟩
/-- does a point clash, by the class -/
theorem clash_same {w : Nat} {S : Nat → Nat} {X : Nat → Nat → Nat} {msk : Nat → Int32} {s p : Nat} (hM : ∀ k, k < w → MSK (msk k) (S k) (X k)) (hw : MSK (msk w) s (X w)) (hp : p < 10)
    (h1 : ∀ k, k < w → ∀ j1 j2 i1 i2, j1 < S k → j2 < S k → i1 < s → i2 < s → X k j1 = X w i1 → X k j2 = X w i2 → X k j1 = X k j2) :
    (X4_clashes_v msk w (nI 1 <<< (nI p &&& 31)) = nI 0 ∧ NOK w s S X p) ∨ (X4_clashes_v msk w (nI 1 <<< (nI p &&& 31)) = nI 1 ∧ ¬ NOK w s S X p) := by
  obtain ⟨P, p1, p2, p3⟩ := hw
  rw [one_shl0 p (by omega)]
  unfold X4_clashes_v
  have e0 : msk w &&& nI (2 ^ p) = 0 ↔ ∀ j, j < s → X w j ≠ p := by
    rw [p2, nI_and, show (0 : Int32) = nI 0 from rfl, nI_eq (by have := and_lt (a := P) (pow_lt hp); omega) (by omega), and_0]
    constructor
    · intro q j hj e
      exact q p ⟨(p3 p).mpr ⟨j, hj, e⟩, by rw [tb_pow]; simp⟩
    · rintro q x ⟨u, v⟩
      rw [tb_pow, decide_eq_true_eq] at v
      subst v
      obtain ⟨j, hj, ej⟩ := (p3 p).mp u
      exact q j hj ej
  by_cases c : msk w &&& nI (2 ^ p) = 0
  · have own := e0.mp c
    rw [if_pos c]
    rcases andBv (v := nI 1) (R := fun k => (∀ j, j < S k → X k j ≠ p) ∨ ∀ j i, j < S k → i < s → X k j ≠ X w i) (B := X4_clashes_L25_B msk w (nI (2 ^ p))) (F := X4_clashes_L25_F msk w (nI (2 ^ p))) (n := w) (fun k hk => by
      obtain ⟨Q, q1, q2, q3⟩ := hM k hk
      have b1 : Q &&& (P ||| 2 ^ p) < 1024 := and_lt (or_lt p1 (pow_lt hp))
      unfold X4_clashes_L25_B
      rw [q2, p2, nI_or, nI_and]
      have tb : ∀ x, (Q &&& (P ||| 2 ^ p)).testBit x = true ↔ (∃ j, j < S k ∧ X k j = x) ∧ ((∃ i, i < s ∧ X w i = x) ∨ p = x) := fun x => by
        rw [Nat.testBit_and, Nat.testBit_or, Bool.and_eq_true, Bool.or_eq_true, q3 x, p3 x, tb_pow, decide_eq_true_eq]
      by_cases d : bcnt (nI (Q &&& (P ||| 2 ^ p))) ≤ nI 1
      · rw [if_pos d]
        refine Or.inl ⟨rfl, ?_⟩
        have D := (bc_is b1).mp d
        by_cases t : ∀ j, j < S k → X k j ≠ p
        · exact Or.inl t
        · refine Or.inr (fun j i hj hi e => t (fun j' hj' e' => ?_))
          have u1 := (tb (X k j)).mpr ⟨⟨j, hj, rfl⟩, Or.inl ⟨i, hi, e.symm⟩⟩
          have u2 := (tb p).mpr ⟨⟨j', hj', e'⟩, Or.inr rfl⟩
          have := D _ _ (tb_ext b1 u1) hp u1 u2
          exact own i hi (by rw [← e, this])
      · rw [if_neg d]
        refine Or.inr ⟨rfl, fun q => d ((bc_is b1).mpr (fun x y hx hy u1 u2 => ?_))⟩
        obtain ⟨⟨j1, hj1, e1⟩, v1⟩ := (tb x).mp u1
        obtain ⟨⟨j2, hj2, e2⟩, v2⟩ := (tb y).mp u2
        rcases v1 with ⟨i1, hi1, f1⟩ | f1
        · rcases v2 with ⟨i2, hi2, f2⟩ | f2
          · have := h1 k hk j1 j2 i1 i2 hj1 hj2 hi1 hi2 (by rw [e1, f1]) (by rw [e2, f2])
            rw [← e1, ← e2, this]
          · rcases q with q | q
            · exact absurd (by rw [e2, f2]) (q j2 hj2)
            · exact absurd (by rw [e1, f1]) (q j1 i1 hj1 hi1)
        · rcases v2 with ⟨i2, hi2, f2⟩ | f2
          · rcases q with q | q
            · exact absurd (by rw [e1, f1]) (q j1 hj1)
            · exact absurd (by rw [e2, f2]) (q j2 i2 hj2 hi2)
          · rw [← f1, ← f2]) w 0 (by omega) with ⟨⟨a, e⟩, r⟩ | ⟨⟨a, e⟩, r⟩
    · rw [e]
      exact Or.inl ⟨rfl, own, fun k hk => r k (Nat.zero_le _) hk⟩
    · rw [e]
      exact Or.inr ⟨rfl, fun q => r (fun k _ hk => q.2 k hk)⟩
  · rw [if_neg c]
    exact Or.inr ⟨rfl, fun q => c (e0.mpr q.1)⟩
