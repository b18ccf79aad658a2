/-! ===== the law's entry ===== -/
theorem va_XT {b L : Nat} {xs : Nat → Int32} {s : State} {A : Nat → Prop} (h : va_X b L xs s s.heap) (hA : ¬ A b) : va_T .int b L (fun j => .int (xs j)) A s s.heap := by
  obtain ⟨scr, h1, h2, h3, h4, h5⟩ := h
  exact ⟨scr, h1, h2, h3, Nat.le_of_eq h4.symm, by rw [h4], h5, hA⟩
theorem arr_of {args : Array Value} {s : State} {ty : FieldType} (h : (Cond.arrayClass ty).before args s = true) (hty : ∀ C, ty ≠ .object C) : ∃ cA, ArrOfT s cA ty ∧ va_RA s cA ty := by
  obtain ⟨cA, kA, comp, h1, h2, h3⟩ := Cond.arrayClass_spec h
  refine ⟨cA, fun n z => ⟨fun k h => (by cases h), kA, h2, comp, h3⟩, ?_⟩
  cases ty with
  | object C => exact absurd rfl (hty C)
  | _ => exact h1
theorem arr_ofM {args : Array Value} {s : State} (h : (Cond.arrayOver (.array .int)).before args s = true) : ∃ cA, ArrOfT s cA (.array .int) ∧ va_RA s cA (.array .int) := by
  obtain ⟨comp, cA, kA, -, -, h2, h3, h1⟩ := arrayOverA_spec h
  exact ⟨cA, fun n z => ⟨fun k h => (by cases h), kA, h2, comp, h3⟩, h1⟩
/-- a static array of ints, and the field that holds it -/
theorem st_of {args : Array Value} {s : State} {C n d : String} {N : Nat} {f : Nat → Value} (hN : N < 2 ^ 31) (hl : (Cond.laysStatic C n d).before args s = true) (hini : (Cond.initialized C).before args s = true) (harr : (Cond.arrayOf (.static C n d) .int).before args s = true) (hlen : (Cond.eq (.length (.static C n d)) (.int (Int32.ofNat N))).before args s = true)
    (hel : ∀ j : Nat, j < N → (Term.elem (.static C n d) (.int (Int32.ofNat j))).eval args s none [] s = some (f j)) : ∃ t : Nat, va_Z C n d (.ref t) (fun q => s.heap.size ≤ q) s s.heap ∧ va_T .int t N f (fun q => s.heap.size ≤ q) s s.heap := by
  have hA : ∀ a : Nat, a < s.heap.size → ¬ (fun q => s.heap.size ≤ q) a := fun a ha => Nat.not_le.mpr ha
  obtain ⟨t, e, hT⟩ := va_Tof (A := fun q => s.heap.size ≤ q) hN harr (va_eqt hlen) hel hA
  exact ⟨t, va_Zof hl hini e hA, hT⟩
/-- a text of the class file -/
theorem tx_of {args : Array Value} {s : State} {own tx : String} {k : Nat} (h1 : (Cond.stringRef own k tx).before args s = true) (h2 : (Cond.exactly (.string own k) "java/lang/String").before args s = true) : ∃ a : Nat, vk_R own k tx a s := by
  obtain ⟨a, c, cell, kk, e, -⟩ := Cond.exactly_spec h2
  exact ⟨a, vk_R.of h1 e⟩
theorem law_PRIMES {args : Array Value} {s : State} (hts : ∀ w ∈ lw_tbl, w.before args s = true) (hgv : (Cond.and given_1 narrow_1).before args s = true) : ∃ t : Nat, va_Z "ConfigSearch" "PRIMES" "[I" (.ref t) (fun q => s.heap.size ≤ q) s s.heap ∧ va_T .int t 6 zf_P (fun q => s.heap.size ≤ q) s s.heap := by
  have hs := flat_of_before _ hgv
  refine st_of (by decide) (hts (.laysStatic "ConfigSearch" "PRIMES" "[I") (lw_ch_in 19 _ (List.mem_of_getElem? (i := 17) (by decide +kernel)))) (hts (.initialized "ConfigSearch") (lw_ch_in 3 _ (List.mem_of_getElem? (i := 1) (by decide +kernel)))) (hs (.arrayOf (.static "ConfigSearch" "PRIMES" "[I") .int) (by decide +kernel)) (hs (.eq (.length (.static "ConfigSearch" "PRIMES" "[I")) (.int 6)) (by decide +kernel)) (fun j hj => ?_)
  match j, hj with
  | 0, _ => exact va_eqt (hs (.eq (.elem (.static "ConfigSearch" "PRIMES" "[I") (.int 0)) (.int 2)) (by decide +kernel))
  | 1, _ => exact va_eqt (hs (.eq (.elem (.static "ConfigSearch" "PRIMES" "[I") (.int 1)) (.int 3)) (by decide +kernel))
  | 2, _ => exact va_eqt (hs (.eq (.elem (.static "ConfigSearch" "PRIMES" "[I") (.int 2)) (.int 5)) (by decide +kernel))
  | 3, _ => exact va_eqt (hs (.eq (.elem (.static "ConfigSearch" "PRIMES" "[I") (.int 3)) (.int 7)) (by decide +kernel))
  | 4, _ => exact va_eqt (hs (.eq (.elem (.static "ConfigSearch" "PRIMES" "[I") (.int 4)) (.int 11)) (by decide +kernel))
  | 5, _ => exact va_eqt (hs (.eq (.elem (.static "ConfigSearch" "PRIMES" "[I") (.int 5)) (.int 13)) (by decide +kernel))
  | j + 6, q => exact absurd q (by omega)
theorem law_BEHIND {args : Array Value} {s : State} (hts : ∀ w ∈ lw_tbl, w.before args s = true) (hgv : (Cond.and given_1 narrow_1).before args s = true) : ∃ t : Nat, va_Z "ConfigSearch$Following" "BEHIND" "[I" (.ref t) (fun q => s.heap.size ≤ q) s s.heap ∧ va_T .int t 12 zf_B (fun q => s.heap.size ≤ q) s s.heap := by
  have hs := flat_of_before _ hgv
  refine st_of (by decide) (hts (.laysStatic "ConfigSearch$Following" "BEHIND" "[I") (lw_ch_in 25 _ (List.mem_of_getElem? (i := 16) (by decide +kernel)))) (hts (.initialized "ConfigSearch$Following") (lw_ch_in 3 _ (List.mem_of_getElem? (i := 6) (by decide +kernel)))) (hs (.arrayOf (.static "ConfigSearch$Following" "BEHIND" "[I") .int) (by decide +kernel)) (hs (.eq (.length (.static "ConfigSearch$Following" "BEHIND" "[I")) (.int 12)) (by decide +kernel)) (fun j hj => ?_)
  match j, hj with
  | 0, _ => exact va_eqt (hs (.eq (.elem (.static "ConfigSearch$Following" "BEHIND" "[I") (.int 0)) (.int 1)) (by decide +kernel))
  | 1, _ => exact va_eqt (hs (.eq (.elem (.static "ConfigSearch$Following" "BEHIND" "[I") (.int 1)) (.int 2)) (by decide +kernel))
  | 2, _ => exact va_eqt (hs (.eq (.elem (.static "ConfigSearch$Following" "BEHIND" "[I") (.int 2)) (.int 3)) (by decide +kernel))
  | 3, _ => exact va_eqt (hs (.eq (.elem (.static "ConfigSearch$Following" "BEHIND" "[I") (.int 3)) (.int 4)) (by decide +kernel))
  | 4, _ => exact va_eqt (hs (.eq (.elem (.static "ConfigSearch$Following" "BEHIND" "[I") (.int 4)) (.int 1)) (by decide +kernel))
  | 5, _ => exact va_eqt (hs (.eq (.elem (.static "ConfigSearch$Following" "BEHIND" "[I") (.int 5)) (.int 3)) (by decide +kernel))
  | 6, _ => exact va_eqt (hs (.eq (.elem (.static "ConfigSearch$Following" "BEHIND" "[I") (.int 6)) (.int 2)) (by decide +kernel))
  | 7, _ => exact va_eqt (hs (.eq (.elem (.static "ConfigSearch$Following" "BEHIND" "[I") (.int 7)) (.int 4)) (by decide +kernel))
  | 8, _ => exact va_eqt (hs (.eq (.elem (.static "ConfigSearch$Following" "BEHIND" "[I") (.int 8)) (.int 1)) (by decide +kernel))
  | 9, _ => exact va_eqt (hs (.eq (.elem (.static "ConfigSearch$Following" "BEHIND" "[I") (.int 9)) (.int 4)) (by decide +kernel))
  | 10, _ => exact va_eqt (hs (.eq (.elem (.static "ConfigSearch$Following" "BEHIND" "[I") (.int 10)) (.int 2)) (by decide +kernel))
  | 11, _ => exact va_eqt (hs (.eq (.elem (.static "ConfigSearch$Following" "BEHIND" "[I") (.int 11)) (.int 3)) (by decide +kernel))
  | j + 12, q => exact absurd q (by omega)
theorem law_TERM_TURN {args : Array Value} {s : State} (hts : ∀ w ∈ lw_tbl, w.before args s = true) (hgv : (Cond.and given_1 narrow_1).before args s = true) : ∃ t : Nat, va_Z "ConfigSearch$Following" "TERM_TURN" "[I" (.ref t) (fun q => s.heap.size ≤ q) s s.heap ∧ va_T .int t 3 zf_T (fun q => s.heap.size ≤ q) s s.heap := by
  have hs := flat_of_before _ hgv
  refine st_of (by decide) (hts (.laysStatic "ConfigSearch$Following" "TERM_TURN" "[I") (lw_ch_in 25 _ (List.mem_of_getElem? (i := 18) (by decide +kernel)))) (hts (.initialized "ConfigSearch$Following") (lw_ch_in 3 _ (List.mem_of_getElem? (i := 6) (by decide +kernel)))) (hs (.arrayOf (.static "ConfigSearch$Following" "TERM_TURN" "[I") .int) (by decide +kernel)) (hs (.eq (.length (.static "ConfigSearch$Following" "TERM_TURN" "[I")) (.int 3)) (by decide +kernel)) (fun j hj => ?_)
  match j, hj with
  | 0, _ => exact va_eqt (hs (.eq (.elem (.static "ConfigSearch$Following" "TERM_TURN" "[I") (.int 0)) (.int 1)) (by decide +kernel))
  | 1, _ => exact va_eqt (hs (.eq (.elem (.static "ConfigSearch$Following" "TERM_TURN" "[I") (.int 1)) (.int (-1))) (by decide +kernel))
  | 2, _ => exact va_eqt (hs (.eq (.elem (.static "ConfigSearch$Following" "TERM_TURN" "[I") (.int 2)) (.int 1)) (by decide +kernel))
  | j + 3, q => exact absurd q (by omega)
set_option maxHeartbeats 4000000 in
theorem law_zK {args : Array Value} {s : State} (l : Launch) (hts : ∀ w ∈ lw_tbl, w.before args s = true) (hgv : (Cond.and given_1 narrow_1).before args s = true) : ∃ G : zG, zl G = l ∧ s.heap.size = zB G ∧ zK G s := by
  have hs := flat_of_before _ hgv
  obtain ⟨c0, i0, k0⟩ := u_known (C := RX0) (T := TX0) (N := 11) (n := 11) hts inX0 (hts (.instantiable RX0 11) (lw_ch_in 10 _ (List.mem_of_getElem? (i := 11) (by decide +kernel))))
  obtain ⟨c1, i1, k1⟩ := u_known (C := RX1) (T := TX1) (N := 9) (n := 9) hts inX1 (hts (.instantiable RX1 9) (lw_ch_in 12 _ (List.mem_of_getElem? (i := 7) (by decide +kernel))))
  obtain ⟨c2, i2, k2⟩ := u_known (C := RX2) (T := TX2) (N := 3) (n := 3) hts inX2 (hts (.instantiable RX2 3) (lw_ch_in 7 _ (List.mem_of_getElem? (i := 15) (by decide +kernel))))
  obtain ⟨c3, i3, k3⟩ := u_known (C := RX3) (T := TX3) (N := 14) (n := 14) hts inX3 (hts (.instantiable RX3 14) (lw_ch_in 7 _ (List.mem_of_getElem? (i := 9) (by decide +kernel))))
  obtain ⟨c4, i4, k4⟩ := u_known (C := RX4) (T := TX4) (N := 8) (n := 8) hts inX4 (hts (.instantiable RX4 8) (lw_ch_in 4 _ (List.mem_of_getElem? (i := 2) (by decide +kernel))))
  obtain ⟨c5, i5, k5⟩ := u_known (C := RX5) (T := TX5) (N := 5) (n := 5) hts inX5 (hts (.instantiable RX5 5) (lw_ch_in 6 _ (List.mem_of_getElem? (i := 0) (by decide +kernel))))
  obtain ⟨c6, i6, k6⟩ := u_known (C := RX6) (T := TX6) (N := 8) (n := 8) hts inX6 (hts (.instantiable RX6 8) (lw_ch_in 3 _ (List.mem_of_getElem? (i := 18) (by decide +kernel))))
  obtain ⟨c7, i7, k7⟩ := u_known (C := RX7) (T := TX7) (N := 53) (n := 53) hts inX7 (hts (.instantiable RX7 53) (lw_ch_in 34 _ (List.mem_of_getElem? (i := 18) (by decide +kernel))))
  obtain ⟨dC, dI, hKc⟩ : ∃ (dC : Nat → ClassId) (dI : Nat → Nat → Nat), ∀ (k : Nat) (q : vw_C), vwCl[k]? = some q → u_Kn s q.1 q.2.1 q.2.2 (dC k) (dI k) := by
    refine ⟨fun k => match k with | 0 => c0 | 1 => c1 | 2 => c2 | 3 => c3 | 4 => c4 | 5 => c5 | 6 => c6 | _ => c7, fun k => match k with | 0 => i0 | 1 => i1 | 2 => i2 | 3 => i3 | 4 => i4 | 5 => i5 | 6 => i6 | _ => i7, ?_⟩
    intro k q hq
    match k, hq with
    | 0, hq => cases hq; exact k0
    | 1, hq => cases hq; exact k1
    | 2, hq => cases hq; exact k2
    | 3, hq => cases hq; exact k3
    | 4, hq => cases hq; exact k4
    | 5, hq => cases hq; exact k5
    | 6, hq => cases hq; exact k6
    | 7, hq => cases hq; exact k7
    | k + 8, hq => simp [vwCl] at hq
  obtain ⟨aI, hI⟩ := arr_of (hts (.arrayClass .int) (lw_ch_in 5 _ (List.mem_of_getElem? (i := 22) (by decide +kernel)))) (fun C h => by cases h)
  obtain ⟨aZ, hZ⟩ := arr_of (hts (.arrayClass .boolean) (lw_ch_in 7 _ (List.mem_of_getElem? (i := 7) (by decide +kernel)))) (fun C h => by cases h)
  obtain ⟨aJ, hJ⟩ := arr_of (hts (.arrayClass .long) (lw_ch_in 52 _ (List.mem_of_getElem? (i := 6) (by decide +kernel)))) (fun C h => by cases h)
  obtain ⟨aM, hM⟩ := arr_ofM (hts (.arrayOver (.array .int)) (lw_ch_in 4 _ (List.mem_of_getElem? (i := 8) (by decide +kernel))))
  obtain ⟨t0, z0, w0⟩ := law_PRIMES hts hgv
  obtain ⟨t1, z1, w1⟩ := law_BEHIND hts hgv
  obtain ⟨t2, z2, w2⟩ := law_TERM_TURN hts hgv
  obtain ⟨t3, w3⟩ := tx_of (hts (.stringRef "ConfigSearch" 158 "the lines lie on one another") (lw_ch_in 33 _ (List.mem_of_getElem? (i := 5) (by decide +kernel)))) (hs (.exactly (.string "ConfigSearch" 158) "java/lang/String") (by decide +kernel))
  obtain ⟨t4, w4⟩ := tx_of (hts (.stringRef "ConfigSearch" 168 "the divisor is a multiple of the prime") (lw_ch_in 34 _ (List.mem_of_getElem? (i := 16) (by decide +kernel)))) (hs (.exactly (.string "ConfigSearch" 168) "java/lang/String") (by decide +kernel))
  have hA : ∀ a : Nat, a < s.heap.size → ¬ (fun q => s.heap.size ≤ q) a := fun a ha => Nat.not_le.mpr ha
  have q1 := vx_Zqof (A := fun q => s.heap.size ≤ q) (hts (.laysStatic "java/lang/Throwable" "UNASSIGNED_STACK" "[Ljava/lang/StackTraceElement;") (lw_ch_in 32 _ (List.mem_of_getElem? (i := 17) (by decide +kernel)))) (hts (.initialized "java/lang/Throwable") (lw_ch_in 3 _ (List.mem_of_getElem? (i := 12) (by decide +kernel)))) (hs (.isRef (.static "java/lang/Throwable" "UNASSIGNED_STACK" "[Ljava/lang/StackTraceElement;")) (by decide +kernel)) hA
  have q2 := vx_Zqof (A := fun q => s.heap.size ≤ q) (hts (.laysStatic "java/lang/Throwable" "SUPPRESSED_SENTINEL" "Ljava/util/List;") (lw_ch_in 32 _ (List.mem_of_getElem? (i := 19) (by decide +kernel)))) (hts (.initialized "java/lang/Throwable") (lw_ch_in 3 _ (List.mem_of_getElem? (i := 12) (by decide +kernel)))) (hs (.isRef (.static "java/lang/Throwable" "SUPPRESSED_SENTINEL" "Ljava/util/List;")) (by decide +kernel)) hA
  have q3 : ∀ w ∈ zThW, w.before #[] s = true := by
    intro w hw
    refine zThW_moved (a := args) (Vm.Alike.refl s.vm) w hw ?_
    rcases List.mem_cons.mp hw with rfl | hw
    · exact (hts (.declares (Bundle.initS "java/lang/RuntimeException")) (lw_ch_in 31 _ (List.mem_of_getElem? (i := 18) (by decide +kernel))))
    rcases List.mem_cons.mp hw with rfl | hw
    · exact (hts (.declares (Bundle.initS "java/lang/Exception")) (lw_ch_in 31 _ (List.mem_of_getElem? (i := 20) (by decide +kernel))))
    rcases List.mem_cons.mp hw with rfl | hw
    · exact (hts (.declares (Bundle.initS "java/lang/Throwable")) (lw_ch_in 31 _ (List.mem_of_getElem? (i := 22) (by decide +kernel))))
    rcases List.mem_cons.mp hw with rfl | hw
    · exact (hts (.castable "java/lang/ArithmeticException" "java/lang/ArithmeticException") (lw_ch_in 31 _ (List.mem_of_getElem? (i := 16) (by decide +kernel))))
    · cases hw
  refine ⟨(l, (dC, dI), (aI, aZ, aM, aJ), s.heap.size, fun k => match k with | 0 => t0 | 1 => t1 | 2 => t2 | 3 => t3 | _ => t4), rfl, rfl, ⟨hKc, fun k q hq => ?_⟩, ⟨⟨z0, w0⟩, ⟨z1, w1⟩, z2, w2, q1, q2, w3, w4, q3, ⟨s, Vm.Alike.refl _, over_moved (Vm.Alike.refl _) (hts (.arrayOver (.array .int)) (lw_ch_in 4 _ (List.mem_of_getElem? (i := 8) (by decide +kernel))))⟩, va_Nw.of (w := .methodLinkNest RX6 19 yX4_init RX6) rfl (hts (.methodLinkNest RX6 19 yX4_init RX6) (lw_ch_in 4 _ (List.mem_of_getElem? (i := 3) (by decide +kernel)))), va_Nw.of (w := .methodLinkNest RX6 29 yX5_init RX6) rfl (hts (.methodLinkNest RX6 29 yX5_init RX6) (lw_ch_in 6 _ (List.mem_of_getElem? (i := 1) (by decide +kernel)))), va_Nw.of (w := .methodLinkNest RX3 11 yX2_init RX6) rfl (hts (.methodLinkNest RX3 11 yX2_init RX6) (lw_ch_in 7 _ (List.mem_of_getElem? (i := 16) (by decide +kernel))))⟩, Nat.le_refl _⟩
  match k, hq with
  | 0, hq => cases hq; exact hI
  | 1, hq => cases hq; exact hZ
  | 2, hq => cases hq; exact hM
  | 3, hq => cases hq; exact hJ
  | k + 4, hq => simp [zT] at hq
set_option maxHeartbeats 4000000 in
/-- THE LAW, from its entry -/
theorem whole_start {p : Program} {e : Env} {s : State} {m : MethodId} {below : List Frame} {meth : Method} {c : Code} (l : Launch) (hlT : l.stackTraces = false) (hnm : meth.name = "law") {b L : Nat} {xs : Nat → Int32} (hL : L ≤ 2560) (C0 : lw_At p s m meth c b L xs) : W p l e room_1 s m #[Value.ref b] below meth c s.heap [] 0 0 (lw_Z below #[Value.ref b] s) (entryFrame m ([Value.ref b] : List Value).toArray 7) := by
  obtain ⟨hx, hb, hr, hml, hown, hts, hX, hbl, hlocks, hgv⟩ := id C0
  obtain ⟨G, hl, hB, hK⟩ := law_zK l hts hgv
  subst hl
  have hv : ∀ v ∈ ([Value.ref b] : List Value), v.category = 1 := by
    intro v hv
    simp at hv
    subst hv
    rfl
  rw [entry_eq m [Value.ref b] hv 7]
  exact law_start (G := G) (b9 := b) (L9 := L) (xs9 := xs) hlT hL (fun _ => zI G 0 (fun _ => 0)) p e s m #[Value.ref b] below meth c s.heap [] _
    ⟨rfl, hB, va_XT hX (fun h => by have : zB G ≤ b := h; omega)⟩ ⟨hx, hb, hml, hr, hown, fun w hw => hts w (wsL_law_in w hw), hlocks, hnm, hK⟩ (fun _ => by rw [hB]) (zL_entry hv (Nat.le_of_ble_eq_true rfl)) (fun k q h => by simp [zw] at h) va_S.rf
