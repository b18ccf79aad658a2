/-! ===== the cells of the system: which object lies where, with its numbers as parameters ===== -/
abbrev zN : Nat := 113
abbrev oFol (G : zG) (x_rows x_outcome x_toldSign : Int32) : va_E := zO 0 [.int x_rows, .int x_outcome, .ref (zB G + 60), .ref (zB G + 61), .ref (zB G + 36), .ref (zB G + 62), .ref (zB G + 63), .ref (zB G + 64), .ref (zB G + 65), .ref (zB G + 66), .int x_toldSign]
abbrev oFrm (G : zG) (x_studied : Int32) : va_E := zO 1 [.ref (zB G + 68), .ref (zB G + 69), .int x_studied, .ref (zB G + 70), .ref (zB G + 71), .ref (zB G + 72), .ref (zB G + 73), .ref (zB G + 74), .ref (zB G + 75)]
abbrev oPln (G : zG) (x_field x_size : Int32) : va_E := zO 2 [.int x_field, .int x_size, .ref (zB G + 42)]
abbrev oSch (G : zG) (x_found x_steps : Int32) : va_E := zO 3 [.ref (zB G + 41), .int x_found, .int x_steps, .ref (zB G + 36), .ref (zB G + 46), .ref (zB G + 47), .ref (zB G + 48), .ref (zB G + 49), .ref (zB G + 50), .ref (zB G + 51), .ref (zB G + 55), .ref (zB G + 56), .ref (zB G + 57), .ref (zB G + 58)]
abbrev oTxt (G : zG) (b : Nat) (x_points x_lines x_letters x_inWord : Int32) : va_E := zO 4 [.int x_points, .int x_lines, .int x_letters, .ref (zB G + (b + 1)), .ref (zB G + (b + 2)), .ref (zB G + (b + 3)), .ref (zB G + (b + 16)), .int x_inWord]
abbrev oTld (G : zG) (x_barredOnes x_orientedOnes : Int32) : va_E := zO 5 [.ref (zB G + 37), .ref (zB G + 38), .ref (zB G + 39), .int x_barredOnes, .int x_orientedOnes]
abbrev oCfg (G : zG) (t u : Nat) (x_onTape : Int32) : va_E := zO 6 [.ref (zB G + 1), .int x_onTape, .ref (zB G + t), .ref (zB G + u), .ref (zB G + 36), .ref (zB G + 40), .ref (zB G + 59), .ref (zB G + 67)]
abbrev oMod (G : zG) (x_code x_tapeSize x_points x_lines x_words x_bars x_orients x_steps x_hasPicture x_field x_laid x_told x_rows x_comes x_comesTriple x_comesSign x_isNamed x_triples : Int32) : va_E := zO 7 [.int x_code, .ref (zB G + 77), .int x_tapeSize, .int x_points, .int x_lines, .ref (zB G + 78), .ref (zB G + 79), .ref (zB G + 80), .ref (zB G + 81), .ref (zB G + 82), .int x_words, .ref (zB G + 83), .ref (zB G + 84), .ref (zB G + 85), .int x_bars, .ref (zB G + 86), .int x_orients, .ref (zB G + 87), .ref (zB G + 88), .int x_steps, .int x_hasPicture, .int x_field, .ref (zB G + 89), .ref (zB G + 90), .ref (zB G + 91), .int x_laid, .ref (zB G + 92), .ref (zB G + 93), .ref (zB G + 94), .ref (zB G + 95), .ref (zB G + 96), .int x_told, .int x_rows, .ref (zB G + 97), .ref (zB G + 98), .ref (zB G + 99), .ref (zB G + 100), .ref (zB G + 101), .int x_comes, .int x_comesTriple, .int x_comesSign, .ref (zB G + 102), .ref (zB G + 103), .ref (zB G + 104), .ref (zB G + 105), .ref (zB G + 106), .ref (zB G + 107), .int x_isNamed, .ref (zB G + 108), .ref (zB G + 109), .int x_triples, .ref (zB G + 110), .ref (zB G + 111)]

/-- cells written over a heap, by their numbers, rising -/
def zus (g : Nat → va_E) : List (Nat × va_E) → (Nat → va_E)
  | [] => g
  | (k, e) :: L => zu (zus g L) k e
def zsl : List (Nat × va_E) → Nat → va_E → List (Nat × va_E)
  | [], k, e => [(k, e)]
  | (j, d) :: L, k, e => if k = j then (k, e) :: L else if k < j then (k, e) :: (j, d) :: L else (j, d) :: zsl L k e
theorem zus_sl (g : Nat → va_E) : ∀ (L : List (Nat × va_E)) (k : Nat) (e : va_E), zu (zus g L) k e = zus g (zsl L k e)
  | [], k, e => rfl
  | (j, d) :: L, k, e => by
    unfold zsl
    by_cases h1 : k = j
    · subst h1
      rw [if_pos rfl]
      exact zu_zu _ _ _ _
    · rw [if_neg h1]
      by_cases h2 : k < j
      · rw [if_pos h2]; rfl
      · rw [if_neg h2]
        show zu (zu (zus g L) j d) k e = zu (zus g (zsl L k e)) j d
        rw [← zus_sl g L k e]
        exact zu_comm _ _ _ (fun q => h1 q.symm)
def zmg (L : List (Nat × va_E)) : List (Nat × va_E) → List (Nat × va_E)
  | [] => L
  | (k, e) :: L2 => zsl (zmg L L2) k e
theorem zus_mg (g : Nat → va_E) (L : List (Nat × va_E)) : ∀ (L2 : List (Nat × va_E)), zus (zus g L) L2 = zus g (zmg L L2)
  | [] => rfl
  | (k, e) :: L2 => by
    show zu (zus (zus g L) L2) k e = zus g (zsl (zmg L L2) k e)
    rw [zus_mg g L L2]
    exact zus_sl g _ k e
/-- nothing but the cells S has changed -/
def zF (g g' : Nat → va_E) (S : List Nat) : Prop := ∀ k, k ∉ S → g' k = g k
theorem zF_r {g : Nat → va_E} {S : List Nat} : zF g g S := fun _ _ => rfl
theorem zF_u {g g' : Nat → va_E} {S : List Nat} {k : Nat} {e : va_E} (hk : k ∈ S) (h : zF g g' S) : zF g (zu g' k e) S := fun j hj => by
  rw [zu_n _ _ (fun q => hj (by rw [q]; exact hk))]
  exact h j hj
theorem zF_t {g g' g'' : Nat → va_E} {S : List Nat} (h : zF g g' S) (h' : zF g' g'' S) : zF g g'' S := fun j hj => (h' j hj).trans (h j hj)
theorem zF_m {g g' : Nat → va_E} {S S' : List Nat} (h : zF g g' S) (hS : ∀ k, k ∈ S → k ∈ S') : zF g g' S' := fun j hj => h j (fun q => hj (hS j q))
section ZR
variable {G : zG} {M : zM} {rm : Room} {ex : Bool} {Q : Option Value → zAH → Prop} {pc n : Nat} {lv : List (Option Value)} {st : List Value} {h : zAH} {cu su : Nat}
theorem z_putN {nn : Nat} {g9 : Nat → va_E} {index : Nat} {k ci : Nat} {C : String} {T : u_T} {N : Nat} {fs : List Value} {v : Value} {ty : FieldType} {e9 : va_E} (ty0 : Nat → FieldType) (hty : ∀ k, k < N → parseFieldDescriptor (T k).2.2.1 = some (ty0 k)) (hnm0 : ∀ a, a < N → ∀ b, b < N → a ≠ b → (T a).2.1 ≠ (T b).2.1)
    (hd : decode (zcc M) pc = .ok (.putfield index, 3)) (hn : pc + 3 = n) (hin : ∀ w ∈ u_ws C T N, w ∈ zws M) (j : Nat) (hlk : Cond.fieldLink (zown M) index (T j).1 (T j).2.1 (T j).2.2.1 ∈ zws M) (hfin : (T j).2.2.2 = false) (hpd : parseFieldDescriptor (T j).2.2.1 = some (ty0 j)) (hk : k < nn) (he : g9 k = .inr (ci, fs)) (hc : vwCl[ci]? = some (C, T, N)) (hj : j < N) (hl : j < fs.length) (hnar : narrow (ty0 j) v = v) (hfit : fits (ty0 j) v = true) (he9 : .inr (ci, fs.set j v) = e9)
    (K : Z G M rm ex Q n lv st (nn, zu g9 k e9) cu su) : Z G M rm ex Q pc lv (v :: .ref (zB G + k) :: st) (nn, g9) cu su := by
  subst he9
  exact z_put ty0 hty hnm0 hd hn hin j hlk hfin hpd hk he hc hj hl hnar hfit K
theorem z_n {nn k : Nat} {g9 : Nat → va_E} {L L' : List (Nat × va_E)} {e9 : va_E} (hL : zsl L k e9 = L') (K : Z G M rm ex Q pc lv st (nn, zus g9 L') cu su) : Z G M rm ex Q pc lv st (nn, zu (zus g9 L) k e9) cu su := by
  subst hL
  rw [zus_sl]
  exact K
theorem z_nn {nn : Nat} {g9 : Nat → va_E} {L L' L2 : List (Nat × va_E)} (hL : zmg L L2 = L') (K : Z G M rm ex Q pc lv st (nn, zus g9 L') cu su) : Z G M rm ex Q pc lv st (nn, zus (zus g9 L) L2) cu su := by
  subst hL
  rw [zus_mg]
  exact K
theorem z_ialdN {k N j : Nat} {f : Nat → Int32} {i : Int32} (hd : decode (zcc M) pc = .ok (.iaload, 1)) (hn : pc + 1 = n) (hk : k < h.1) (he : h.2 k = zI G N f) (hi : i = nI j) (hj : j < N) (hN : N < 2147483648)
    (K : Z G M rm ex Q n lv (.int (f j) :: st) h cu su) : Z G M rm ex Q pc lv (.int i :: .ref (zB G + k) :: st) h cu su := by
  subst hi
  refine z_iald hd hn hk he (vp_in_nI hj hN) ?_
  rw [nI_clamp (by omega)]
  exact K
theorem z_zaldN {k N j : Nat} {f : Nat → Int32} {i : Int32} (hd : decode (zcc M) pc = .ok (.baload, 1)) (hn : pc + 1 = n) (hk : k < h.1) (he : h.2 k = zZ G N f) (hi : i = nI j) (hj : j < N) (hN : N < 2147483648)
    (K : Z G M rm ex Q n lv (.int (f j) :: st) h cu su) : Z G M rm ex Q pc lv (.int i :: .ref (zB G + k) :: st) h cu su := by
  subst hi
  refine z_zald hd hn hk he (vp_in_nI hj hN) ?_
  rw [nI_clamp (by omega)]
  exact K
theorem z_aaldN {k N j a : Nat} {f : Nat → Option Nat} {i : Int32} (hd : decode (zcc M) pc = .ok (.aaload, 1)) (hn : pc + 1 = n) (hk : k < h.1) (he : h.2 k = zR G N f) (hi : i = nI j) (hj : j < N) (hN : N < 2147483648) (hv : f j = some a)
    (K : Z G M rm ex Q n lv (.ref a :: st) h cu su) : Z G M rm ex Q pc lv (.int i :: .ref (zB G + k) :: st) h cu su := by
  subst hi
  exact z_aald hd hn hk he (vp_in_nI hj hN) (by rw [nI_clamp (by omega)]; exact hv) K
theorem z_iastN {nn : Nat} {g9 : Nat → va_E} {k N j : Nat} {f : Nat → Int32} {i x : Int32} (hd : decode (zcc M) pc = .ok (.iastore, 1)) (hn : pc + 1 = n) (hk : k < nn) (he : g9 k = zI G N f) (hi : i = nI j) (hj : j < N) (hN : N < 2147483648)
    (K : Z G M rm ex Q n lv st (nn, zu g9 k (zI G N (upd f j x))) cu su) : Z G M rm ex Q pc lv (.int x :: .int i :: .ref (zB G + k) :: st) (nn, g9) cu su := by
  subst hi
  refine z_iast hd hn hk he (vp_in_nI hj hN) ?_
  rw [nI_clamp (by omega)]
  exact K
theorem z_zastN {nn : Nat} {g9 : Nat → va_E} {k N j : Nat} {f : Nat → Int32} {i x : Int32} (hd : decode (zcc M) pc = .ok (.bastore, 1)) (hn : pc + 1 = n) (hk : k < nn) (he : g9 k = zZ G N f) (hi : i = nI j) (hj : j < N) (hN : N < 2147483648) (hb01 : vp_nar .boolean x = x)
    (K : Z G M rm ex Q n lv st (nn, zu g9 k (zZ G N (upd f j x))) cu su) : Z G M rm ex Q pc lv (.int x :: .int i :: .ref (zB G + k) :: st) (nn, g9) cu su := by
  subst hi
  refine z_zast hd hn hk he (vp_in_nI hj hN) hb01 ?_
  rw [nI_clamp (by omega)]
  exact K
theorem z_0 {nn : Nat} {g9 : Nat → va_E} (K : Z G M rm ex Q pc lv st (nn, zus g9 []) cu su) : Z G M rm ex Q pc lv st (nn, g9) cu su := K
/-- the walk goes on from any heap that is like this one -/
theorem z_heap {g' : Nat → va_E} (hh : h.2 = g') (K : Z G M rm ex Q pc lv st (h.1, g') cu su) : Z G M rm ex Q pc lv st h cu su := by
  subst hh
  exact K
end ZR
theorem zinc (j : Nat) : nI j + Int32.ofInt 1 = nI (j + 1) := (nI_succ j).symm
theorem zdec (j : Nat) : nI (j + 1) + Int32.ofInt (-1) = nI j := by
  rw [nI_succ]
  show nI j + 1 + (-1) = nI j
  rw [Int32.add_assoc, show (1 : Int32) + (-1) = 0 from rfl, Int32.add_zero]
theorem zsub1 (j : Nat) : nI (j + 1) - nI 1 = nI j := by
  rw [pk_sub (by omega)]
  rfl
theorem zclamp {j : Nat} (h : j < 2 ^ 31) : (nI j).toNatClampNeg = j := nI_clamp h
theorem z_vin {j n : Nat} (h : j < n) (hn : n < 2147483648) : vp_in (nI j) n := vp_in_nI h hn
theorem z_n0 (j : Nat) : (nI j ≤ 0) = (nI j ≤ nI 0) := rfl
/-- the rows of an array, as a list -/
def rowL (f : Nat → Int32) (n : Nat) : List Int32 := (List.range n).map f
theorem rowL_len (f : Nat → Int32) (n : Nat) : (rowL f n).length = n := by simp [rowL]
theorem rowL_s (f : Nat → Int32) (n : Nat) : rowL f (n + 1) = rowL f n ++ [f n] := by simp [rowL, List.range_succ]
theorem rowL_c {f f' : Nat → Int32} {n : Nat} (h : ∀ j, j < n → f' j = f j) : rowL f' n = rowL f n := by
  unfold rowL
  exact List.map_congr_left (fun j hj => h j (List.mem_range.mp hj))
theorem rowL_get {f : Nat → Int32} {n j : Nat} (h : j < n) : (rowL f n)[j]? = some (f j) := by
  simp [rowL, List.getElem?_map, List.getElem?_range h]
theorem rowL_inj {f f' : Nat → Int32} {n : Nat} (h : rowL f' n = rowL f n) : ∀ j, j < n → f' j = f j := fun j hj => by
  have h1 := rowL_get (f := f') hj
  rw [h, rowL_get hj] at h1
  exact (Option.some.inj h1).symm

