/-! ===== the cells of the system: which object lies where, with its numbers as parameters ===== -/
abbrev zN : Nat := 113
abbrev oFol (G : zG) (x_rows x_outcome x_toldSign : Int32) : va_E := zO 0 [.int x_rows, .int x_outcome, .ref (zB G + 60), .ref (zB G + 61), .ref (zB G + 36), .ref (zB G + 62), .ref (zB G + 63), .ref (zB G + 64), .ref (zB G + 65), .ref (zB G + 66), .int x_toldSign]
abbrev oFrm (G : zG) (x_studied : Int32) : va_E := zO 1 [.ref (zB G + 68), .ref (zB G + 69), .int x_studied, .ref (zB G + 70), .ref (zB G + 71), .ref (zB G + 72), .ref (zB G + 73), .ref (zB G + 74), .ref (zB G + 75)]
abbrev oPln (G : zG) (x_field x_size : Int32) : va_E := zO 2 [.int x_field, .int x_size, .ref (zB G + 42)]
abbrev oSch (G : zG) (x_found x_steps : Int32) : va_E := zO 3 [.ref (zB G + 41), .int x_found, .int x_steps, .ref (zB G + 36), .ref (zB G + 46), .ref (zB G + 47), .ref (zB G + 48), .ref (zB G + 49), .ref (zB G + 50), .ref (zB G + 51), .ref (zB G + 55), .ref (zB G + 56), .ref (zB G + 57), .ref (zB G + 58)]
abbrev oTxt (G : zG) (b : Nat) (x_points x_lines x_letters x_inWord : Int32) : va_E := zO 4 [.int x_points, .int x_lines, .int x_letters, .ref (zB G + (b + 1)), .ref (zB G + (b + 2)), .ref (zB G + (b + 3)), .ref (zB G + (b + 16)), .int x_inWord]
abbrev oTld (G : zG) (x_barredOnes x_orientedOnes : Int32) : va_E := zO 5 [.ref (zB G + 37), .ref (zB G + 38), .ref (zB G + 39), .int x_barredOnes, .int x_orientedOnes]
abbrev oCfg (G : zG) (t u : Nat) (x_onTape : Int32) : va_E := zO 6 [.ref (zB G + 1), .int x_onTape, .ref (zB G + t), .ref (zB G + u), .ref (zB G + 36), .ref (zB G + 40), .ref (zB G + 59), .ref (zB G + 67)]
abbrev oMod (G : zG) (x_code x_tapeSize x_points x_lines x_words x_bars x_orients x_steps x_hasPicture x_field x_laid x_told x_rows x_comes x_comesTriple x_comesSign x_isNamed x_triples : Int32) : va_E := zO 7 [.int x_code, .ref (zB G + 77), .int x_tapeSize, .int x_points, .int x_lines, .ref (zB G + 78), .ref (zB G + 79), .ref (zB G + 80), .ref (zB G + 81), .ref (zB G + 82), .int x_words, .ref (zB G + 83), .ref (zB G + 84), .ref (zB G + 85), .int x_bars, .ref (zB G + 86), .int x_orients, .ref (zB G + 87), .ref (zB G + 88), .int x_steps, .int x_hasPicture, .int x_field, .ref (zB G + 89), .ref (zB G + 90), .ref (zB G + 91), .int x_laid, .ref (zB G + 92), .ref (zB G + 93), .ref (zB G + 94), .ref (zB G + 95), .ref (zB G + 96), .int x_told, .int x_rows, .ref (zB G + 97), .ref (zB G + 98), .ref (zB G + 99), .ref (zB G + 100), .ref (zB G + 101), .int x_comes, .int x_comesTriple, .int x_comesSign, .ref (zB G + 102), .ref (zB G + 103), .ref (zB G + 104), .ref (zB G + 105), .ref (zB G + 106), .ref (zB G + 107), .int x_isNamed, .ref (zB G + 108), .ref (zB G + 109), .int x_triples, .ref (zB G + 110), .ref (zB G + 111)]

/-- cells written over a heap, by their numbers, rising -/
def zus (g : Nat → va_E) : List (Nat × va_E) → (Nat → va_E)
  | [] => g
  | (k, e) :: L => zu (zus g L) k e
def zsl : List (Nat × va_E) → Nat → va_E → List (Nat × va_E)
  | [], k, e => [(k, e)]
  | (j, d) :: L, k, e => if k = j then (k, e) :: L else if k < j then (k, e) :: (j, d) :: L else (j, d) :: zsl L k e
theorem zus_sl (g : Nat → va_E) : ∀ (L : List (Nat × va_E)) (k : Nat) (e : va_E), zu (zus g L) k e = zus g (zsl L k e)
  | [], k, e => rfl
  | (j, d) :: L, k, e => by
    unfold zsl
    by_cases h1 : k = j
    · subst h1
      rw [if_pos rfl]
      exact zu_zu _ _ _ _
    · rw [if_neg h1]
      by_cases h2 : k < j
      · rw [if_pos h2]; rfl
      · rw [if_neg h2]
        show zu (zu (zus g L) j d) k e = zu (zus g (zsl L k e)) j d
        rw [← zus_sl g L k e]
        exact zu_comm _ _ _ (fun q => h1 q.symm)
def zmg (L : List (Nat × va_E)) : List (Nat × va_E) → List (Nat × va_E)
  | [] => L
  | (k, e) :: L2 => zsl (zmg L L2) k e
theorem zus_mg (g : Nat → va_E) (L : List (Nat × va_E)) : ∀ (L2 : List (Nat × va_E)), zus (zus g L) L2 = zus g (zmg L L2)
  | [] => rfl
  | (k, e) :: L2 => by
    show zu (zus (zus g L) L2) k e = zus g (zsl (zmg L L2) k e)
    rw [zus_mg g L L2]
    exact zus_sl g _ k e
/-- a contract out of a walk, of a class that the machine has entries for (not for this method) -/
theorem zC_ofF {G : zG} {y : MethodName} {ws ws' : List Cond} {cc : ByteArray} {nL : Nat} {ret : Option FieldType} {rm : Room} {ex : Bool} {as : List Value} {lv : List (Option Value)} {h : zAH} {Q : Option Value → zAH → Prop} (M : zM)
    (hw : ws = Cond.code y cc nL ret :: ws') (hM : (cc, nL, ret, y.cls, ws, y.name) = M) (hy : plainFor y = true) (hv : ∀ v ∈ as, v.category = 1) (hn : as.length ≤ nL) (hlv : as.map some ++ List.replicate (nL - as.length) none = lv)
    (K : Z G M rm ex Q 0 lv [] h 0 0) : zC G y ws rm ex as h Q := by
  subst hw
  subst hM
  subst hlv
  refine va_MetF (cc := cc) (maxL := nL) (ret := ret) hy rfl ?_
  intro p e s m args below meth c s₁ B hml hvv
  obtain ⟨rfl, hH, hK, hex⟩ := hvv
  rw [entry_eq m as hv nL]
  exact K p e s m _ below meth c s.heap [] _ ⟨B.exec, B.bytes, hml, B.returns, findClass_of_methodNamed B.named, atoms_spec (ws := Cond.code y cc nL ret :: ws') B.pre, B.notSynchronized, (name_of_methodNamed B.named B.method).1, hK⟩
    (fun h1 => by rw [hex h1]; rfl) (zL_entry hv hn) hH va_S.rf
theorem zq_add {x y : Int32} {a b : Nat} (h1 : x = nI a) (h2 : y = nI b) : x + y = nI (a + b) := by rw [h1, h2, nI_add]
theorem zq_mul {x y : Int32} {a b : Nat} (h1 : x = nI a) (h2 : y = nI b) : x * y = nI (a * b) := by rw [h1, h2, pk_mul]
theorem zq_sub {x y : Int32} {a b : Nat} (h1 : x = nI a) (h2 : y = nI b) (h : b ≤ a) : x - y = nI (a - b) := by rw [h1, h2, pk_sub h]
def beN (j : Nat) : Nat := [1, 2, 3, 4, 1, 3, 2, 4, 1, 4, 2, 3].getD j 3
def ttI (j : Nat) : Int32 := if j = 1 then -1 else 1
def prN (j : Nat) : Nat := [2, 3, 5, 7, 11].getD j 13
theorem beN_ok : ∀ j, j < 12 → zf_B j = .int (nI (beN j)) := by decide +kernel
theorem ttI_ok : ∀ j, j < 3 → zf_T j = .int (ttI j) := by decide +kernel
theorem prN_ok : ∀ j, j < 6 → zf_P j = .int (nI (prN j)) := by decide +kernel
theorem beN_lt0 : ∀ j, j < 12 → 0 < beN j ∧ beN j < 5 := by decide +kernel
theorem beN_lt {j : Nat} (h : j < 12) : beN j < 5 := (beN_lt0 j h).2
theorem beN_ne0 {j : Nat} (h : j < 12) : 0 ≠ beN j := Nat.ne_of_lt (beN_lt0 j h).1
theorem beN_ne1 : ∀ t, t < 3 → ∀ o, o < 2 → beN (4 * t + 2 * o) ≠ beN (4 * t + 2 * o + 1) := by decide +kernel
theorem ord_lt {a b c : Nat} (ha : a < 10) (hb : b < 10) (hc : c < 10) : (a * 10 + b) * 10 + c < 1000 := by omega
theorem zb01 {x : Int32} (h : x = nI 0 ∨ x = nI 1) : narrow .boolean (.int x) = .int x := by
  rcases h with rfl | rfl <;> rfl
theorem zsw_out {w : Int32} {n : Nat} (h : ∀ k, k ≤ n → ¬ w = nI k) : w.toInt < 0 ∨ (n : Int) < w.toInt := by
  by_cases h0 : w < 0
  · exact Or.inl (by simpa [Int32.lt_iff_toInt_lt] using h0)
  · obtain ⟨j, h1, rfl⟩ := nI_of h0
    refine Or.inr ?_
    rw [nI_toInt h1]
    have : ¬ j ≤ n := fun q => h j q rfl
    omega
theorem znlt {a n : Nat} (h : a ≤ n) (hc : ¬ nI a = nI n) : a < n := by
  rcases Nat.lt_or_ge a n with q | q
  · exact q
  · exact absurd (by rw [show a = n by omega]) hc
theorem zq_div {x y : Int32} {a b : Nat} (h1 : x = nI a) (h2 : y = nI b) (ha : a < 2147483648) (h0 : 0 < b) (hb : b < 2147483648) : x / y = nI (a / b) := by rw [h1, h2, pk_div ha h0 hb]
theorem zq_rem {x y : Int32} {a b : Nat} (h1 : x = nI a) (h2 : y = nI b) (ha : a < 2147483648) (h0 : 0 < b) (hb : b < 2147483648) : x - x / y * y = nI (a % b) := by rw [h1, h2, pk_rem ha h0 hb]
/-- rows of a grid that lie behind one another from cell b on -/
def zrw (G : zG) (n b : Nat) : Nat → Option Nat := fun i => if i < n then some (zB G + (b + i)) else none
theorem zrw_at {G : zG} {n b i : Nat} (h : i < n) : zrw G n b i = some (zB G + (b + i)) := if_pos h
theorem zdecN {j : Nat} (h : 1 ≤ j) : nI j + Int32.ofInt (-1) = nI (j - 1) := by
  obtain ⟨k, rfl⟩ : ∃ k, j = k + 1 := ⟨j - 1, by omega⟩
  rw [Nat.add_sub_cancel]
  rw [nI_succ]
  show nI k + 1 + (-1) = nI k
  rw [Int32.add_assoc, show (1 : Int32) + (-1) = 0 from rfl, Int32.add_zero]
theorem zus_out {g : Nat → va_E} {k : Nat} {e : va_E} : ∀ {L : List (Nat × va_E)}, (∀ q, q ∈ L.map Prod.fst → k ≠ q) → g k = e → zus g L k = e
  | [], _, hk => hk
  | (j, d) :: L, h, hk => by
    show zu (zus g L) j d k = e
    rw [zu_n _ _ (h j (by simp))]
    exact zus_out (fun q hq => h q (by simp; exact Or.inr (by simpa using hq))) hk
/-- nothing but the cells S has changed -/
def zF (g g' : Nat → va_E) (S : List Nat) : Prop := ∀ k, k ∉ S → g' k = g k
theorem zF_r {g : Nat → va_E} {S : List Nat} : zF g g S := fun _ _ => rfl
theorem zF_u {g g' : Nat → va_E} {S : List Nat} {k : Nat} {e : va_E} (hk : k ∈ S) (h : zF g g' S) : zF g (zu g' k e) S := fun j hj => by
  rw [zu_n _ _ (fun q => hj (by rw [q]; exact hk))]
  exact h j hj
theorem zF_t {g g' g'' : Nat → va_E} {S : List Nat} (h : zF g g' S) (h' : zF g' g'' S) : zF g g'' S := fun j hj => (h' j hj).trans (h j hj)
theorem zF_m {g g' : Nat → va_E} {S S' : List Nat} (h : zF g g' S) (hS : ∀ k, k ∈ S → k ∈ S') : zF g g' S' := fun j hj => h j (fun q => hj (hS j q))
section ZR
variable {G : zG} {M : zM} {rm : Room} {ex : Bool} {Q : Option Value → zAH → Prop} {pc n : Nat} {lv : List (Option Value)} {st : List Value} {h : zAH} {cu su : Nat}
theorem z_putN {nn : Nat} {g9 : Nat → va_E} {index : Nat} {k ci : Nat} {C : String} {T : u_T} {N : Nat} {fs : List Value} {v : Value} {e9 : va_E} (ty0 : Nat → FieldType) (hty : ∀ k, k < N → parseFieldDescriptor (T k).2.2.1 = some (ty0 k)) (hnm0 : ∀ a, a < N → ∀ b, b < N → a ≠ b → (T a).2.1 ≠ (T b).2.1)
    (hd : decode (zcc M) pc = .ok (.putfield index, 3)) (hn : pc + 3 = n) (hin : ∀ w ∈ u_ws C T N, w ∈ zws M) (j : Nat) (hlk : Cond.fieldLink (zown M) index (T j).1 (T j).2.1 (T j).2.2.1 ∈ zws M) (hfin : (T j).2.2.2 = false) (hpd : parseFieldDescriptor (T j).2.2.1 = some (ty0 j)) (hk : k < nn) (he : g9 k = .inr (ci, fs)) (hc : vwCl[ci]? = some (C, T, N)) (hj : j < N) (hl : j < fs.length) (hnar : narrow (ty0 j) v = v) (hfit : fits (ty0 j) v = true) (he9 : .inr (ci, fs.set j v) = e9)
    (K : Z G M rm ex Q n lv st (nn, zu g9 k e9) cu su) : Z G M rm ex Q pc lv (v :: .ref (zB G + k) :: st) (nn, g9) cu su := by
  subst he9
  exact z_put ty0 hty hnm0 hd hn hin j hlk hfin hpd hk he hc hj hl hnar hfit K
theorem z_n {nn k : Nat} {g9 : Nat → va_E} {L L' : List (Nat × va_E)} {e9 : va_E} (hL : zsl L k e9 = L') (K : Z G M rm ex Q pc lv st (nn, zus g9 L') cu su) : Z G M rm ex Q pc lv st (nn, zu (zus g9 L) k e9) cu su := by
  subst hL
  rw [zus_sl]
  exact K
theorem z_nn {nn : Nat} {g9 : Nat → va_E} {L L' L2 : List (Nat × va_E)} (hL : zmg L L2 = L') (K : Z G M rm ex Q pc lv st (nn, zus g9 L') cu su) : Z G M rm ex Q pc lv st (nn, zus (zus g9 L) L2) cu su := by
  subst hL
  rw [zus_mg]
  exact K
theorem z_ialdN {k N j : Nat} {f : Nat → Int32} {i : Int32} (hd : decode (zcc M) pc = .ok (.iaload, 1)) (hn : pc + 1 = n) (hk : k < h.1) (he : h.2 k = zI G N f) (hi : i = nI j) (hj : j < N) (hN : N < 2147483648)
    (K : Z G M rm ex Q n lv (.int (f j) :: st) h cu su) : Z G M rm ex Q pc lv (.int i :: .ref (zB G + k) :: st) h cu su := by
  subst hi
  refine z_iald hd hn hk he (vp_in_nI hj hN) ?_
  rw [nI_clamp (by omega)]
  exact K
theorem z_zaldN {k N j : Nat} {f : Nat → Int32} {i : Int32} (hd : decode (zcc M) pc = .ok (.baload, 1)) (hn : pc + 1 = n) (hk : k < h.1) (he : h.2 k = zZ G N f) (hi : i = nI j) (hj : j < N) (hN : N < 2147483648)
    (K : Z G M rm ex Q n lv (.int (f j) :: st) h cu su) : Z G M rm ex Q pc lv (.int i :: .ref (zB G + k) :: st) h cu su := by
  subst hi
  refine z_zald hd hn hk he (vp_in_nI hj hN) ?_
  rw [nI_clamp (by omega)]
  exact K
theorem z_aaldN {k N j a : Nat} {f : Nat → Option Nat} {i : Int32} (hd : decode (zcc M) pc = .ok (.aaload, 1)) (hn : pc + 1 = n) (hk : k < h.1) (he : h.2 k = zR G N f) (hi : i = nI j) (hj : j < N) (hN : N < 2147483648) (hv : f j = some a)
    (K : Z G M rm ex Q n lv (.ref a :: st) h cu su) : Z G M rm ex Q pc lv (.int i :: .ref (zB G + k) :: st) h cu su := by
  subst hi
  exact z_aald hd hn hk he (vp_in_nI hj hN) (by rw [nI_clamp (by omega)]; exact hv) K
theorem z_iastN {nn : Nat} {g9 : Nat → va_E} {k N j : Nat} {f : Nat → Int32} {i x : Int32} (hd : decode (zcc M) pc = .ok (.iastore, 1)) (hn : pc + 1 = n) (hk : k < nn) (he : g9 k = zI G N f) (hi : i = nI j) (hj : j < N) (hN : N < 2147483648)
    (K : Z G M rm ex Q n lv st (nn, zu g9 k (zI G N (upd f j x))) cu su) : Z G M rm ex Q pc lv (.int x :: .int i :: .ref (zB G + k) :: st) (nn, g9) cu su := by
  subst hi
  refine z_iast hd hn hk he (vp_in_nI hj hN) ?_
  rw [nI_clamp (by omega)]
  exact K
theorem z_zastN {nn : Nat} {g9 : Nat → va_E} {k N j : Nat} {f : Nat → Int32} {i x : Int32} (hd : decode (zcc M) pc = .ok (.bastore, 1)) (hn : pc + 1 = n) (hk : k < nn) (he : g9 k = zZ G N f) (hi : i = nI j) (hj : j < N) (hN : N < 2147483648) (hb01 : vp_nar .boolean x = x)
    (K : Z G M rm ex Q n lv st (nn, zu g9 k (zZ G N (upd f j x))) cu su) : Z G M rm ex Q pc lv (.int x :: .int i :: .ref (zB G + k) :: st) (nn, g9) cu su := by
  subst hi
  refine z_zast hd hn hk he (vp_in_nI hj hN) hb01 ?_
  rw [nI_clamp (by omega)]
  exact K
theorem z_callSi {index : Nat} {y : MethodName} {ws ws' : List Cond} {bytes : ByteArray} {maxL : Nat} {ret : Option FieldType} {f9 l9 : Nat} {As rest : List Value} {v : Int32} {h' : zAH} (hC : zC G y ws (zrm f9 l9) ex As h (fun r h9 => r = some (.int v) ∧ h9 = h')) (hG : GoodIn (zws M) (va_wsS (zown M) index y ws)) (hw : ws = Cond.code y bytes maxL ret :: ws') (hd : decode (zcc M) pc = .ok (.invokestatic index, 3)) (hn : pc + 3 = n)
    (hst : st = As.reverse ++ rest) (ho : zOk y As.length) (hR : f9 + 1 ≤ rm.frames ∧ 8 + (maxL + 11) + l9 ≤ rm.locals) (hf : cu ≤ rm.cells ∧ su ≤ rm.slots) (hs : (rest.map fun v => v.category).sum ≤ 8)
    (K : Z G M rm ex Q n lv (.int v :: rest) h' cu su) : Z G M rm ex Q pc lv st h cu su :=
  z_callS hC hG hw hd hn hst ho hR hf hs (fun r h9 hq => by obtain ⟨rfl, rfl⟩ := hq; exact K)
theorem z_callSv {index : Nat} {y : MethodName} {ws ws' : List Cond} {bytes : ByteArray} {maxL : Nat} {ret : Option FieldType} {f9 l9 : Nat} {As rest : List Value} {h' : zAH} (hC : zC G y ws (zrm f9 l9) ex As h (fun r h9 => r = none ∧ h9 = h')) (hG : GoodIn (zws M) (va_wsS (zown M) index y ws)) (hw : ws = Cond.code y bytes maxL ret :: ws') (hd : decode (zcc M) pc = .ok (.invokestatic index, 3)) (hn : pc + 3 = n)
    (hst : st = As.reverse ++ rest) (ho : zOk y As.length) (hR : f9 + 1 ≤ rm.frames ∧ 8 + (maxL + 11) + l9 ≤ rm.locals) (hf : cu ≤ rm.cells ∧ su ≤ rm.slots) (hs : (rest.map fun v => v.category).sum ≤ 8)
    (K : Z G M rm ex Q n lv rest h' cu su) : Z G M rm ex Q pc lv st h cu su :=
  z_callS hC hG hw hd hn hst ho hR hf hs (fun r h9 hq => by obtain ⟨rfl, rfl⟩ := hq; exact K)
theorem z_callVi {index : Nat} {y : MethodName} {ws ws' : List Cond} {bytes : ByteArray} {maxL : Nat} {ret : Option FieldType} {f9 l9 : Nat} {As rest : List Value} {v : Int32} {h' : zAH} {k ci N : Nat} {C : String} {T0 : u_T} {fs : List Value} (hC : zC G y ws (zrm f9 l9) ex (.ref (zB G + k) :: As) h (fun r h9 => r = some (.int v) ∧ h9 = h')) (hG : GoodIn (zws M) (wsV (zown M) index C y ws)) (hw : ws = Cond.code y bytes maxL ret :: ws') (hd : decode (zcc M) pc = .ok (.invokevirtual index, 3)) (hn : pc + 3 = n)
    (hst : st = As.reverse ++ .ref (zB G + k) :: rest) (hyC : y.cls = C) (ho : zOk y As.length) (hk : k < h.1) (he : h.2 k = .inr (ci, fs)) (hc : vwCl[ci]? = some (C, T0, N)) (hR : f9 + 1 ≤ rm.frames ∧ 8 + (maxL + 11) + l9 ≤ rm.locals) (hf : cu ≤ rm.cells ∧ su ≤ rm.slots) (hs : (rest.map fun v => v.category).sum ≤ 8)
    (K : Z G M rm ex Q n lv (.int v :: rest) h' cu su) : Z G M rm ex Q pc lv st h cu su :=
  z_callV hC hG hw hd hn hst hyC ho hk he hc hR hf hs (fun r h9 hq => by obtain ⟨rfl, rfl⟩ := hq; exact K)
theorem z_callVv {index : Nat} {y : MethodName} {ws ws' : List Cond} {bytes : ByteArray} {maxL : Nat} {ret : Option FieldType} {f9 l9 : Nat} {As rest : List Value} {h' : zAH} {k ci N : Nat} {C : String} {T0 : u_T} {fs : List Value} (hC : zC G y ws (zrm f9 l9) ex (.ref (zB G + k) :: As) h (fun r h9 => r = none ∧ h9 = h')) (hG : GoodIn (zws M) (wsV (zown M) index C y ws)) (hw : ws = Cond.code y bytes maxL ret :: ws') (hd : decode (zcc M) pc = .ok (.invokevirtual index, 3)) (hn : pc + 3 = n)
    (hst : st = As.reverse ++ .ref (zB G + k) :: rest) (hyC : y.cls = C) (ho : zOk y As.length) (hk : k < h.1) (he : h.2 k = .inr (ci, fs)) (hc : vwCl[ci]? = some (C, T0, N)) (hR : f9 + 1 ≤ rm.frames ∧ 8 + (maxL + 11) + l9 ≤ rm.locals) (hf : cu ≤ rm.cells ∧ su ≤ rm.slots) (hs : (rest.map fun v => v.category).sum ≤ 8)
    (K : Z G M rm ex Q n lv rest h' cu su) : Z G M rm ex Q pc lv st h cu su :=
  z_callV hC hG hw hd hn hst hyC ho hk he hc hR hf hs (fun r h9 hq => by obtain ⟨rfl, rfl⟩ := hq; exact K)
theorem z_copyN {n8 : Nat} {g9 : Nat → va_E} {index k0 k1 N0 N1 sp9 dp9 n9 : Nat} {f g : Nat → Int32} {sp dp nn : Int32} (hd : decode (zcc M) pc = .ok (.invokestatic index, 3)) (hn : pc + 3 = n) (h1 : Cond.methodLink (zown M) index arraycopyName ∈ zws M) (h2 : Cond.native arraycopyName ∈ zws M) (h3 : Cond.static arraycopyName ∈ zws M) (h4 : Cond.initialized "java/lang/System" ∈ zws M)
    (hk0 : k0 < n8) (he0 : g9 k0 = zI G N0 f) (hk1 : k1 < n8) (he1 : g9 k1 = zI G N1 g) (e1 : sp = nI sp9) (e2 : dp = nI dp9) (e3 : nn = nI n9) (g4 : sp9 + n9 ≤ N0) (g5 : dp9 + n9 ≤ N1) (g6 : N0 < 2147483648) (g7 : N1 < 2147483648) (hR : 1 ≤ rm.frames ∧ (st.map fun v => v.category).sum + (nativeFrameWords "java/lang/System" "arraycopy" 5 + 11) ≤ rm.locals)
    (K : Z G M rm ex Q n lv st (n8, zu g9 k1 (zI G N1 (va_cpy f g sp9 dp9 n9))) cu su) : Z G M rm ex Q pc lv (.int nn :: .int dp :: .ref (zB G + k1) :: .int sp :: .ref (zB G + k0) :: st) (n8, g9) cu su := by
  subst e1
  subst e2
  subst e3
  have c1 : (nI sp9).toNatClampNeg = sp9 := nI_clamp (by omega)
  have c2 : (nI dp9).toNatClampNeg = dp9 := nI_clamp (by omega)
  have c3 : (nI n9).toNatClampNeg = n9 := nI_clamp (by omega)
  refine z_copy hd hn h1 h2 h3 h4 hk0 he0 hk1 he1 (nI_pos (by omega)) (nI_pos (by omega)) (nI_pos (by omega)) (by rw [c1, c3]; exact g4) (by rw [c2, c3]; exact g5) hR ?_
  rw [c1, c2, c3]
  exact K
theorem z_tBN {i : Int32} {j : Nat} (hd : decode (zcc M) pc = .ok (.iaload, 1)) (hn : pc + 1 = n) (hi : i = nI j) (hj : j < 12)
    (K : Z G M rm ex Q n lv (.int (nI (beN j)) :: st) h cu su) : Z G M rm ex Q pc lv (.int i :: .ref (zs G 1) :: st) h cu su := by
  subst hi
  exact z_tB hd hn (vp_in_nI hj (by decide)) (by rw [nI_clamp (by omega)]; exact beN_ok j hj) K
theorem z_tTN {i : Int32} {j : Nat} (hd : decode (zcc M) pc = .ok (.iaload, 1)) (hn : pc + 1 = n) (hi : i = nI j) (hj : j < 3)
    (K : Z G M rm ex Q n lv (.int (ttI j) :: st) h cu su) : Z G M rm ex Q pc lv (.int i :: .ref (zs G 2) :: st) h cu su := by
  subst hi
  exact z_tT hd hn (vp_in_nI hj (by decide)) (by rw [nI_clamp (by omega)]; exact ttI_ok j hj) K
theorem z_tPN {i : Int32} {j : Nat} (hd : decode (zcc M) pc = .ok (.iaload, 1)) (hn : pc + 1 = n) (hi : i = nI j) (hj : j < 6)
    (K : Z G M rm ex Q n lv (.int (nI (prN j)) :: st) h cu su) : Z G M rm ex Q pc lv (.int i :: .ref (zs G 0) :: st) h cu su := by
  subst hi
  exact z_tP hd hn (vp_in_nI hj (by decide)) (by rw [nI_clamp (by omega)]; exact prN_ok j hj) K
theorem z_0 {nn : Nat} {g9 : Nat → va_E} (K : Z G M rm ex Q pc lv st (nn, zus g9 []) cu su) : Z G M rm ex Q pc lv st (nn, g9) cu su := K
/-- the walk goes on from any heap that is like this one -/
theorem z_heap {nn : Nat} {g9 g' : Nat → va_E} (hh : g9 = g') (K : Z G M rm ex Q pc lv st (nn, g') cu su) : Z G M rm ex Q pc lv st (nn, g9) cu su := by
  subst hh
  exact K
end ZR
/-- a loop that counts: i to n, d turns -/
def zfold {α : Type} (F : Nat → α → α) : Nat → Nat → α → α
  | 0, _, a => a
  | d + 1, i, a => zfold F d (i + 1) (F i a)
theorem z_for {α : Type} {head : Nat → α → Prop} {F : Nat → α → α} {n : Nat} (hstep : ∀ i a, i < n → head (i + 1) (F i a) → head i a) : ∀ (d i : Nat) (a : α), i + d = n → head n (zfold F d i a) → head i a := by
  intro d
  induction d with
  | zero =>
    intro i a h K
    have e : i = n := by omega
    subst e
    exact K
  | succ d ih =>
    intro i a h K
    exact hstep i a (by omega) (ih (i + 1) (F i a) (by omega) K)
/-- .. with an invariant -/
theorem z_forI {α : Type} {head : Nat → α → Prop} {F : Nat → α → α} {n : Nat} (I : Nat → α → Prop) (hI : ∀ i a, i < n → I i a → I (i + 1) (F i a)) (hstep : ∀ i a, i < n → I i a → head (i + 1) (F i a) → head i a) : ∀ (d i : Nat) (a : α), i + d = n → I i a → (I n (zfold F d i a) → head n (zfold F d i a)) → head i a := by
  intro d
  induction d with
  | zero =>
    intro i a h h0 K
    have e : i = n := by omega
    subst e
    exact K h0
  | succ d ih =>
    intro i a h h0 K
    exact hstep i a (by omega) h0 (ih (i + 1) (F i a) (by omega) (hI i a (by omega) h0) K)
theorem zfold_I {α : Type} {F : Nat → α → α} {n : Nat} (I : Nat → α → Prop) (hI : ∀ i a, i < n → I i a → I (i + 1) (F i a)) : ∀ (d i : Nat) (a : α), i + d = n → I i a → I n (zfold F d i a) := by
  intro d
  induction d with
  | zero =>
    intro i a h h0
    have e : i = n := by omega
    subst e
    exact h0
  | succ d ih =>
    intro i a h h0
    exact ih (i + 1) (F i a) (by omega) (hI i a (by omega) h0)
/-- a loop that counts and may be left: at turn i with b, if B says so -/
def zfoldB {α β : Type} (B : Nat → α → Option β) (F : Nat → α → α) : Nat → Nat → α → Option β × α
  | 0, _, a => (none, a)
  | d + 1, i, a => match B i a with
    | some b => (some b, a)
    | none => zfoldB B F d (i + 1) (F i a)
theorem z_forB {α β : Type} {head : Nat → α → Prop} {out : β → α → Prop} {B : Nat → α → Option β} {F : Nat → α → α} {n : Nat} (I : Nat → α → Prop) (hI : ∀ i a, i < n → I i a → B i a = none → I (i + 1) (F i a))
    (hstep : ∀ i a, i < n → I i a → (∀ b, B i a = some b → out b a) → (B i a = none → head (i + 1) (F i a)) → head i a) :
    ∀ (d i : Nat) (a : α), i + d = n → I i a → (∀ b a', zfoldB B F d i a = (some b, a') → out b a') → (∀ a', zfoldB B F d i a = (none, a') → I n a' → head n a') → head i a := by
  intro d
  induction d with
  | zero =>
    intro i a h h0 K1 K2
    have e : i = n := by omega
    subst e
    exact K2 a rfl h0
  | succ d ih =>
    intro i a h h0 K1 K2
    refine hstep i a (by omega) h0 (fun b hb => K1 b a (by simp [zfoldB, hb])) (fun hb => ?_)
    refine ih (i + 1) (F i a) (by omega) (hI i a (by omega) h0 hb) (fun b a' h9 => K1 b a' ?_) (fun a' h9 => K2 a' ?_)
    · simp only [zfoldB, hb]; exact h9
    · simp only [zfoldB, hb]; exact h9
def zpick {α β γ : Type} (r : Option β × α) (f : β → γ) (k : α → γ) : γ := match r with
  | (some b, _) => f b
  | (none, a) => k a
theorem zpick_s {α β γ : Type} (b : β) (a : α) (f : β → γ) (k : α → γ) : zpick (some b, a) f k = f b := rfl
theorem zpick_n {α β γ : Type} (a : α) (f : β → γ) (k : α → γ) : zpick ((none : Option β), a) f k = k a := rfl
/-- a loop that counts and may be left for where it ends anyway: the turn and the state there -/
def zfoldX {α : Type} (B : Nat → α → Option α) (F : Nat → α → α) : Nat → Nat → α → Nat × α
  | 0, i, a => (i, a)
  | d + 1, i, a => match B i a with
    | some b => (i, b)
    | none => zfoldX B F d (i + 1) (F i a)
theorem z_forX {α : Type} {head out : Nat → α → Prop} {B : Nat → α → Option α} {F : Nat → α → α} {n : Nat} (I J : Nat → α → Prop) (hI : ∀ i a, i < n → I i a → B i a = none → I (i + 1) (F i a)) (hJ : ∀ i a b, i < n → I i a → B i a = some b → J i b) (hIJ : ∀ a, I n a → J n a)
    (hstep : ∀ i a, i < n → I i a → (∀ b, B i a = some b → out i b) → (B i a = none → head (i + 1) (F i a)) → head i a) (hend : ∀ a, I n a → out n a → head n a) :
    ∀ (d i : Nat) (a : α), i + d = n → I i a → (J (zfoldX B F d i a).1 (zfoldX B F d i a).2 → (zfoldX B F d i a).1 ≤ n → out (zfoldX B F d i a).1 (zfoldX B F d i a).2) → head i a := by
  intro d
  induction d with
  | zero =>
    intro i a h h0 K
    have e : i = n := by omega
    subst e
    exact hend a h0 (K (hIJ a h0) (Nat.le_refl _))
  | succ d ih =>
    intro i a h h0 K
    refine hstep i a (by omega) h0 (fun b hb => ?_) (fun hb => ?_)
    · have e : zfoldX B F (d + 1) i a = (i, b) := by simp [zfoldX, hb]
      rw [e] at K
      exact K (hJ i a b (by omega) h0 hb) (by show i ≤ n; omega)
    · have e : zfoldX B F (d + 1) i a = zfoldX B F d (i + 1) (F i a) := by simp [zfoldX, hb]
      rw [e] at K
      exact ih (i + 1) (F i a) (by omega) (hI i a (by omega) h0 hb) K
def zlet {α γ : Type} (r : α) (k : α → γ) : γ := k r
theorem zlet_e {α γ : Type} (r : α) (k : α → γ) : zlet r k = k r := rfl
/-- a loop that counts, and may be left for good (with a β) or for where it ends anyway -/
def zfoldY {α β : Type} (B : Nat → α → Option (β ⊕ α)) (F : Nat → α → α) : Nat → Nat → α → β ⊕ α
  | 0, _, a => .inr a
  | d + 1, i, a => match B i a with
    | some b => b
    | none => zfoldY B F d (i + 1) (F i a)
theorem z_forY {α β : Type} {head : Nat → α → Prop} {ret : β → Prop} {out : α → Prop} {B : Nat → α → Option (β ⊕ α)} {F : Nat → α → α} {n : Nat} (I : Nat → α → Prop) (J : α → Prop) (hI : ∀ i a, i < n → I i a → B i a = none → I (i + 1) (F i a)) (hJ : ∀ i a b, i < n → I i a → B i a = some (.inr b) → J b) (hIJ : ∀ a, I n a → J a)
    (hstep : ∀ i a, i < n → I i a → (∀ b, B i a = some (.inl b) → ret b) → (∀ b, B i a = some (.inr b) → out b) → (B i a = none → head (i + 1) (F i a)) → head i a) (hend : ∀ a, I n a → out a → head n a) :
    ∀ (d i : Nat) (a : α), i + d = n → I i a → (∀ b, zfoldY B F d i a = .inl b → ret b) → (∀ a', zfoldY B F d i a = .inr a' → J a' → out a') → head i a := by
  intro d
  induction d with
  | zero =>
    intro i a h h0 K1 K2
    have e : i = n := by omega
    subst e
    exact hend a h0 (K2 a rfl (hIJ a h0))
  | succ d ih =>
    intro i a h h0 K1 K2
    refine hstep i a (by omega) h0 (fun b hb => K1 b (by simp [zfoldY, hb])) (fun b hb => K2 b (by simp [zfoldY, hb]) (hJ i a b (by omega) h0 hb)) (fun hb => ?_)
    have e : zfoldY B F (d + 1) i a = zfoldY B F d (i + 1) (F i a) := by simp [zfoldY, hb]
    rw [e] at K1 K2
    exact ih (i + 1) (F i a) (by omega) (hI i a (by omega) h0 hb) K1 K2
def zpickY {α β γ : Type} (r : β ⊕ α) (f : β → γ) (k : α → γ) : γ := match r with
  | .inl b => f b
  | .inr a => k a
theorem zpickY_l {α β γ : Type} (b : β) (f : β → γ) (k : α → γ) : zpickY (.inl b) f k = f b := rfl
theorem zpickY_r {α β γ : Type} (a : α) (f : β → γ) (k : α → γ) : zpickY (.inr a) f k = k a := rfl
theorem zfoldX_P {α : Type} (P : α → Prop) {B : Nat → α → Option α} {F : Nat → α → α} (hF : ∀ i a, P a → P (F i a)) (hB : ∀ i a b, P a → B i a = some b → P b) : ∀ (d i : Nat) (a : α), P a → P (zfoldX B F d i a).2 := by
  intro d
  induction d with
  | zero => intro i a h; exact h
  | succ d ih =>
    intro i a h
    cases hb : B i a with
    | some b =>
      have e : zfoldX B F (d + 1) i a = (i, b) := by simp [zfoldX, hb]
      rw [e]
      exact hB i a b h hb
    | none =>
      have e : zfoldX B F (d + 1) i a = zfoldX B F d (i + 1) (F i a) := by simp [zfoldX, hb]
      rw [e]
      exact ih (i + 1) (F i a) (hF i a h)
theorem zfold_P {α : Type} (P : α → Prop) {F : Nat → α → α} (hF : ∀ i a, P a → P (F i a)) : ∀ (d i : Nat) (a : α), P a → P (zfold F d i a) := by
  intro d
  induction d with
  | zero => intro i a h; exact h
  | succ d ih => intro i a h; exact ih (i + 1) (F i a) (hF i a h)
theorem zinc (j : Nat) : nI j + Int32.ofInt 1 = nI (j + 1) := (nI_succ j).symm
theorem zdec (j : Nat) : nI (j + 1) + Int32.ofInt (-1) = nI j := by
  rw [nI_succ]
  show nI j + 1 + (-1) = nI j
  rw [Int32.add_assoc, show (1 : Int32) + (-1) = 0 from rfl, Int32.add_zero]
theorem zsub1 (j : Nat) : nI (j + 1) - nI 1 = nI j := by
  rw [pk_sub (by omega)]
  rfl
theorem zclamp {j : Nat} (h : j < 2 ^ 31) : (nI j).toNatClampNeg = j := nI_clamp h
theorem z_vin {j n : Nat} (h : j < n) (hn : n < 2147483648) : vp_in (nI j) n := vp_in_nI h hn
theorem z_n0 (j : Nat) : (nI j ≤ 0) = (nI j ≤ nI 0) := rfl
/-- the rows of an array, as a list -/
def rowL (f : Nat → Int32) (n : Nat) : List Int32 := (List.range n).map f
theorem rowL_len (f : Nat → Int32) (n : Nat) : (rowL f n).length = n := by simp [rowL]
theorem rowL_s (f : Nat → Int32) (n : Nat) : rowL f (n + 1) = rowL f n ++ [f n] := by simp [rowL, List.range_succ]
theorem rowL_c {f f' : Nat → Int32} {n : Nat} (h : ∀ j, j < n → f' j = f j) : rowL f' n = rowL f n := by
  unfold rowL
  exact List.map_congr_left (fun j hj => h j (List.mem_range.mp hj))
theorem rowL_get {f : Nat → Int32} {n j : Nat} (h : j < n) : (rowL f n)[j]? = some (f j) := by
  simp [rowL, List.getElem?_map, List.getElem?_range h]
theorem rowL_inj {f f' : Nat → Int32} {n : Nat} (h : rowL f' n = rowL f n) : ∀ j, j < n → f' j = f j := fun j hj => by
  have h1 := rowL_get (f := f') hj
  rw [h, rowL_get hj] at h1
  exact (Option.some.inj h1).symm

