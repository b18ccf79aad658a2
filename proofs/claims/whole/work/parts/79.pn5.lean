/-! ===== sorting: both alike, and the same of any order of the entries ===== -/
theorem upd_upd {f : Nat → Int32} {k : Nat} {x y : Int32} : upd (upd f k x) k y = upd f k y := by
  funext j
  simp only [upd]
  split <;> rfl
theorem upd_self {f : Nat → Int32} {k : Nat} : upd f k (f k) = f := by
  funext j
  simp only [upd]
  split
  · rename_i e; rw [e]
  · rfl
theorem sh17 {k : Nat} {f : Nat → Int32} : ∀ (p : Nat) (a : Nat → Int32), p ≤ k → upd (zfoldX (X7_sortForm_L17_B k f) (X7_sortForm_L17_F k f) p (k - p) a).2 (k - (zfoldX (X7_sortForm_L17_B k f) (X7_sortForm_L17_F k f) p (k - p) a).1) (f k) = insF (upd a p (f k)) p := by
  intro p
  induction p with
  | zero =>
    intro a _
    show upd a (k - (k - 0)) (f k) = upd a 0 (f k)
    rw [show k - (k - 0) = 0 by omega]
  | succ p ih =>
    intro a hp
    have e1 : k - (k - (p + 1)) - 1 = p := by omega
    have e2 : k - (k - (p + 1)) = p + 1 := by omega
    by_cases c : a p ≤ f k
    · have hB : X7_sortForm_L17_B k f (k - (p + 1)) a = some a := by
        unfold X7_sortForm_L17_B
        rw [e1, if_pos c]
      rw [zfoldX_hit hB]
      show upd a (k - (k - (p + 1))) (f k) = (if upd a (p + 1) (f k) p ≤ upd a (p + 1) (f k) (p + 1) then upd a (p + 1) (f k) else _)
      rw [e2, pk_un (show p ≠ p + 1 by omega), pk_us, if_pos c]
    · have hB : X7_sortForm_L17_B k f (k - (p + 1)) a = none := by
        unfold X7_sortForm_L17_B
        rw [e1, if_neg c]
      have hF : X7_sortForm_L17_F k f (k - (p + 1)) a = upd a (p + 1) (a p) := by
        unfold X7_sortForm_L17_F
        rw [e1, if_neg c, e2]
      have e3 : zfoldX (X7_sortForm_L17_B k f) (X7_sortForm_L17_F k f) (p + 1) (k - (p + 1)) a = zfoldX (X7_sortForm_L17_B k f) (X7_sortForm_L17_F k f) p (k - p) (upd a (p + 1) (a p)) := by
        rw [zfoldX, hB, hF, show k - (p + 1) + 1 = k - p by omega]
      rw [e3, ih _ (by omega)]
      show _ = (if upd a (p + 1) (f k) p ≤ upd a (p + 1) (f k) (p + 1) then upd a (p + 1) (f k) else insF (upd (upd (upd a (p + 1) (f k)) (p + 1) (upd a (p + 1) (f k) p)) p (upd a (p + 1) (f k) (p + 1))) p)
      rw [pk_un (show p ≠ p + 1 by omega), pk_us, if_neg c, upd_upd]
theorem sort2 {k : Nat} {f : Nat → Int32} : X7_sortForm_L2_F k f = insF f k := by
  unfold X7_sortForm_L2_F
  simp only [zlet]
  have q := sh17 (k := k) (f := f) k f (Nat.le_refl _)
  rw [Nat.sub_self, upd_self] at q
  exact q
theorem sort_same {f : Nat → Int32} {n : Nat} : X7_sortForm_c105 f n = srtF f n := by
  have key : ∀ (d i : Nat) (f : Nat → Int32), zfold X7_sortForm_L2_F d i f = outF d i f := by
    intro d
    induction d with
    | zero => intro i f; rfl
    | succ d ih =>
      intro i f
      show zfold X7_sortForm_L2_F d (i + 1) (X7_sortForm_L2_F i f) = outF d (i + 1) (insF f i)
      rw [sort2, ih]
  unfold X7_sortForm_c105 srtF
  rw [key]
  rcases Nat.eq_zero_or_pos n with e | e
  · subst e; rfl
  · rw [Nat.max_eq_left e]
def toL (f : Nat → Int32) (n : Nat) : List Int32 := (List.range n).map f
theorem toL_succ {f : Nat → Int32} {n : Nat} : toL f (n + 1) = toL f n ++ [f n] := by
  unfold toL
  rw [List.range_succ, List.map_append]
  rfl
theorem toL_ext {f g : Nat → Int32} {n : Nat} (h : ∀ j, j < n → f j = g j) : toL f n = toL g n := by
  unfold toL
  exact List.map_congr_left (fun j hj => h j (List.mem_range.mp hj))
theorem ins_out : ∀ (i : Nat) (f : Nat → Int32) (j : Nat), i < j → insF f i j = f j := by
  intro i
  induction i with
  | zero => intro f j _; rfl
  | succ i ih =>
    intro f j hj
    show (if f i ≤ f (i + 1) then f else insF (upd (upd f (i + 1) (f i)) i (f (i + 1))) i) j = f j
    split
    · rfl
    · rw [ih _ j (by omega), pk_un (by omega), pk_un (by omega)]
theorem ins_perm : ∀ (i : Nat) (f : Nat → Int32), (toL (insF f i) (i + 1)).Perm (toL f (i + 1)) := by
  intro i
  induction i with
  | zero => intro f; exact List.Perm.refl _
  | succ i ih =>
    intro f
    show (toL (if f i ≤ f (i + 1) then f else insF (upd (upd f (i + 1) (f i)) i (f (i + 1))) i) (i + 1 + 1)).Perm _
    split
    · exact List.Perm.refl _
    · rw [toL_succ, ins_out i _ (i + 1) (by omega)]
      refine ((ih _).append_right _).trans ?_
      rw [toL_succ (n := i), toL_succ (f := f) (n := i + 1), toL_succ (f := f) (n := i), pk_us, pk_un (show i + 1 ≠ i by omega), pk_us, toL_ext (f := upd (upd f (i + 1) (f i)) i (f (i + 1))) (g := f) (fun j hj => by rw [pk_un (by omega), pk_un (by omega)]), List.append_assoc, List.append_assoc]
      exact List.Perm.append_left _ (List.Perm.swap _ _ _)
def srtd (f : Nat → Int32) (n : Nat) : Prop := ∀ a b, a < b → b < n → f a ≤ f b
theorem ins_le : ∀ (i : Nat) (f : Nat → Int32) (M : Int32), (∀ j, j ≤ i → f j ≤ M) → ∀ j, j ≤ i → insF f i j ≤ M := by
  intro i f M h j hj
  have hm : insF f i j ∈ toL (insF f i) (i + 1) := List.mem_map.mpr ⟨j, List.mem_range.mpr (by omega), rfl⟩
  obtain ⟨k, hk, e⟩ := List.mem_map.mp ((ins_perm i f).mem_iff.mp hm)
  rw [← e]
  exact h k (by have := List.mem_range.mp hk; omega)
theorem ins_sorted : ∀ (i : Nat) (f : Nat → Int32), srtd f i → srtd (insF f i) (i + 1) := by
  intro i
  induction i with
  | zero => intro f _ a b h1 h2; omega
  | succ i ih =>
    intro f h
    show srtd (if f i ≤ f (i + 1) then f else insF (upd (upd f (i + 1) (f i)) i (f (i + 1))) i) (i + 1 + 1)
    split
    · rename_i c
      intro a b h1 h2
      rcases Nat.lt_or_ge b (i + 1) with q | q
      · exact h a b h1 q
      · have e : b = i + 1 := by omega
        subst e
        rcases Nat.eq_or_lt_of_le (show a ≤ i by omega) with u | u
        · rw [u]; exact c
        · exact Int32.le_trans (h a i u (by omega)) c
    · rename_i c
      have hs : srtd (upd (upd f (i + 1) (f i)) i (f (i + 1))) i := by
        intro a b h1 h2
        rw [pk_un (show a ≠ i by omega), pk_un (show a ≠ i + 1 by omega), pk_un (show b ≠ i by omega), pk_un (show b ≠ i + 1 by omega)]
        exact h a b h1 (by omega)
      have h9 := ih _ hs
      intro a b h1 h2
      rcases Nat.lt_or_ge b (i + 1) with q | q
      · exact h9 a b h1 q
      · have e : b = i + 1 := by omega
        subst e
        rw [ins_out i _ (i + 1) (by omega), pk_un (show i + 1 ≠ i by omega), pk_us]
        refine ins_le i _ (f i) (fun j hj => ?_) a (by omega)
        rcases Nat.eq_or_lt_of_le hj with u | u
        · rw [u, pk_us]
          exact Int32.le_of_lt (Int32.not_le.mp c)
        · rw [pk_un (by omega), pk_un (by omega)]
          exact h j i u (by omega)
theorem out_ok : ∀ (d i : Nat) (f : Nat → Int32), 1 ≤ i → srtd f i → srtd (outF d i f) (i + d) ∧ (toL (outF d i f) (i + d)).Perm (toL f (i + d)) ∧ ∀ j, i + d ≤ j → outF d i f j = f j := by
  intro d
  induction d with
  | zero => intro i f _ h; exact ⟨h, List.Perm.refl _, fun j _ => rfl⟩
  | succ d ih =>
    intro i f h1 h
    obtain ⟨q1, q2, q3⟩ := ih (i + 1) (insF f i) (by omega) (ins_sorted i f h)
    rw [show i + (d + 1) = i + 1 + d by omega]
    refine ⟨q1, q2.trans ?_, fun j hj => ?_⟩
    · -- the entries behind i stay
      have key : ∀ e, (toL (insF f i) (i + 1 + e)).Perm (toL f (i + 1 + e)) := by
        intro e
        induction e with
        | zero => exact ins_perm i f
        | succ e ihe =>
          rw [show i + 1 + (e + 1) = i + 1 + e + 1 by omega, toL_succ, toL_succ, ins_out i f _ (by omega)]
          exact ihe.append_right _
      exact key d
    · rw [show outF (d + 1) i f = outF d (i + 1) (insF f i) from rfl, q3 j hj, ins_out i f j (by omega)]
theorem srt_ok {f : Nat → Int32} {n : Nat} : srtd (srtF f n) n ∧ (toL (srtF f n) n).Perm (toL f n) ∧ ∀ j, n ≤ j → srtF f n j = f j := by
  unfold srtF
  rcases Nat.eq_zero_or_pos n with e | e
  · subst e
    exact ⟨fun a b _ h => by omega, List.Perm.refl _, fun j _ => rfl⟩
  · have q := out_ok (n - 1) 1 f (Nat.le_refl _) (fun a b h1 h2 => by omega)
    rw [show 1 + (n - 1) = n by omega] at q
    exact q
theorem srtd_L {f : Nat → Int32} {n : Nat} (h : srtd f n) : (toL f n).Pairwise (fun a b => a ≤ b) := by
  induction n with
  | zero => exact List.Pairwise.nil
  | succ n ih =>
    rw [toL_succ]
    refine List.pairwise_append.mpr ⟨ih (fun a b h1 h2 => h a b h1 (by omega)), List.pairwise_singleton _ _, fun x hx y hy => ?_⟩
    obtain ⟨k, hk, rfl⟩ := List.mem_map.mp hx
    rw [List.mem_singleton.mp hy]
    exact h k n (List.mem_range.mp hk) (by omega)
theorem toL_at {f : Nat → Int32} {n j : Nat} (h : j < n) : (toL f n)[j]? = some (f j) := by
  unfold toL
  rw [List.getElem?_map, List.getElem?_range h]
  rfl
/-- the sorted row is the same of any order of the entries -/
theorem srt_perm {f g : Nat → Int32} {n : Nat} (h : (toL f n).Perm (toL g n)) : ∀ j, j < n → srtF f n j = srtF g n j := by
  obtain ⟨a1, a2, -⟩ := srt_ok (f := f) (n := n)
  obtain ⟨b1, b2, -⟩ := srt_ok (f := g) (n := n)
  have e := List.Perm.eq_of_pairwise (le := fun a b : Int32 => a ≤ b) (fun a b _ _ h1 h2 => Int32.le_antisymm h1 h2) (srtd_L a1) (srtd_L b1) (a2.trans (h.trans b2.symm))
  intro j hj
  have q := toL_at (f := srtF f n) hj
  rw [e, toL_at hj] at q
  exact (Option.some.inj q).symm
theorem srt_ext {f g : Nat → Int32} {n : Nat} (h : ∀ j, j < n → f j = g j) : ∀ j, j < n → srtF f n j = srtF g n j := srt_perm (by rw [toL_ext h])
