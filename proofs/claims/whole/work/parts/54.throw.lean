/-! ===== methods that throw an ArithmeticException ===== -/
abbrev zAE : String := "java/lang/ArithmeticException"
/-- where such a method has thrown: the class, the heap behind it -/
def zXC (G : zG) (h9 : zAH) : String → State → State → Prop := fun E st t => E = zAE ∧ zHd G h9 t.heap ∧ va_F (zA G) st t
/-- a contract: from the heap h, with the arguments as, the method throws, and the heap is h9 -/
def zCX (G : zG) (y : MethodName) (ws : List Cond) (rm : Room) (as : List Value) (h h9 : zAH) : Prop :=
  vx_Met (zl G) y ws rm (zPc G false as h) (fun _ _ _ _ => False) (zXC G h9) rm.cells rm.slots (zA G)
/-- the method M stands at pc: it comes to throw, and the heap is h9 -/
def ZT (G : zG) (M : zM) (rm : Room) (h9 : zAH) (pc : Nat) (lv : List (Option Value)) (st : List Value) (h : zAH) (cu su : Nat) : Prop :=
  ∀ (p : Program) (e : Env) (s : State) (m : MethodId) (args : Array Value) (below : List Frame) (meth : Method) (c : Code) (H : Heap) (locs : List Loc) (ls : Array Slot),
    zX G M p s m args meth c → (∀ x ∈ c.exceptionTable.toList, False) → zL ls (znL M) lv → zHd G h H → va_S (zA G) s.heap H locs →
    W p (zl G) e rm s m args below meth c H locs cu su (vx_MQ below (fun _ _ _ _ => False) (zXC G h9) args s rm.cells rm.slots (zA G)) (F0 m pc ls st)
theorem zHd_grow {G : zG} {h : zAH} {H H1 : Heap} (hP : zHd G h H) (hq : ∀ q : Nat, q < H.size → H1[q]? = H[q]?) : zHd G h H1 := va_P.kept hP (fun _ q hk => hq q.1 (vx_lt hP hk))
section ZTR
variable {G : zG} {M : zM} {rm : Room} {h9 : zAH} {pc n : Nat} {lv : List (Option Value)} {st : List Value} {h : zAH} {cu su : Nat}
theorem zt_aload_n {k : Fin 4} {x : Nat} (hd : decode (zcc M) pc = .ok (.aload_n k, 1)) (hn : pc + 1 = n) (hl : lv[k.val]? = some (some (.ref x))) (K : ZT G M rm h9 n lv (.ref x :: st) h cu su) : ZT G M rm h9 pc lv (st) h cu su := by
  subst hn
  intro p e s m args below meth c H locs ls X hz hL hP hS
  exact lv_aload_n X.1 X.2.1 hd rfl (hL.2.2.2 _ _ hl).2 (K p e s m args below meth c H locs ls X hz hL hP hS)
theorem zt_iload_n {k : Fin 4} {x : Int32} (hd : decode (zcc M) pc = .ok (.iload_n k, 1)) (hn : pc + 1 = n) (hl : lv[k.val]? = some (some (.int x))) (K : ZT G M rm h9 n lv (.int x :: st) h cu su) : ZT G M rm h9 pc lv (st) h cu su := by
  subst hn
  intro p e s m args below meth c H locs ls X hz hL hP hS
  exact lv_iload_n X.1 X.2.1 hd rfl (hL.2.2.2 _ _ hl).2 (K p e s m args below meth c H locs ls X hz hL hP hS)
theorem zt_iload {k : Nat} {x : Int32} (hd : decode (zcc M) pc = .ok (.iload k, 2)) (hn : pc + 2 = n) (hl : lv[k]? = some (some (.int x))) (K : ZT G M rm h9 n lv (.int x :: st) h cu su) : ZT G M rm h9 pc lv (st) h cu su := by
  subst hn
  intro p e s m args below meth c H locs ls X hz hL hP hS
  exact lv_iload X.1 X.2.1 hd (hL.2.2.2 _ _ hl).2 (K p e s m args below meth c H locs ls X hz hL hP hS)
theorem zt_bipush {v : Int32} {j : Int} (hd : decode (zcc M) pc = .ok (.bipush j, 2)) (hn : pc + 2 = n) (hv : (Int8.ofInt j).toInt32 = v) (K : ZT G M rm h9 n lv (.int v :: st) h cu su) : ZT G M rm h9 pc lv (st) h cu su := by
  subst hn
  intro p e s m args below meth c H locs ls X hz hL hP hS
  exact lv_bipush X.1 X.2.1 hd hv (K p e s m args below meth c H locs ls X hz hL hP hS)
theorem zt_istore_n0 {k : Fin 4} {x : Int32} (hd : decode (zcc M) pc = .ok (.istore_n k, 1)) (hn : pc + 1 = n) (hi : k.val < lv.length) (K : ZT G M rm h9 n (lv.set k.val (some (.int x))) st h cu su) : ZT G M rm h9 pc lv (.int x :: st) h cu su := by
  subst hn
  intro p e s m args below meth c H locs ls X hz hL hP hS
  exact lv_istore_n X.1 X.2.1 hd rfl (zL_has hL) (by rw [← hL.2.1]; exact hi) rfl (fun ls' h' => K p e s m args below meth c H locs ls' X hz (zL_set hL hi rfl h') hP hS)
theorem zt_istore0 {k : Nat} {x : Int32} (hd : decode (zcc M) pc = .ok (.istore k, 2)) (hn : pc + 2 = n) (hi : k < lv.length) (K : ZT G M rm h9 n (lv.set k (some (.int x))) st h cu su) : ZT G M rm h9 pc lv (.int x :: st) h cu su := by
  subst hn
  intro p e s m args below meth c H locs ls X hz hL hP hS
  exact lv_istore X.1 X.2.1 hd (zL_has hL) (by rw [← hL.2.1]; exact hi) rfl (fun ls' h' => K p e s m args below meth c H locs ls' X hz (zL_set hL hi rfl h') hP hS)
theorem zt_istore_3 {a0 a1 a2 a3 : Option Value} {r : List (Option Value)} {x : Int32} (hd : decode (zcc M) pc = .ok (.istore_n 3, 1)) (hn : pc + 1 = n) (K : ZT G M rm h9 n (a0 :: a1 :: a2 :: some (.int x) :: r) st h cu su) : ZT G M rm h9 pc (a0 :: a1 :: a2 :: a3 :: r) (.int x :: st) h cu su := zt_istore_n0 hd hn (by show 3 < ((a0 :: a1 :: a2 :: a3 :: r) : List (Option Value)).length; simp) K
theorem zt_istore_4 {a0 a1 a2 a3 a4 : Option Value} {r : List (Option Value)} {x : Int32} (hd : decode (zcc M) pc = .ok (.istore 4, 2)) (hn : pc + 2 = n) (K : ZT G M rm h9 n (a0 :: a1 :: a2 :: a3 :: some (.int x) :: r) st h cu su) : ZT G M rm h9 pc (a0 :: a1 :: a2 :: a3 :: a4 :: r) (.int x :: st) h cu su := zt_istore0 hd hn (by simp) K
theorem zt_icmp_ne {x y : Int32} {off : Int} {tgt : Nat} (hd : decode (zcc M) pc = .ok (.if_icmp .ne off, 3)) (hn : pc + 3 = n) (ht : (pc : Int) + off = (tgt : Int)) (kt : ¬ x = y → ZT G M rm h9 tgt lv st h cu su) (kf : x = y → ZT G M rm h9 n lv st h cu su) : ZT G M rm h9 pc lv (.int y :: .int x :: st) h cu su := by
  subst hn
  intro p e s m args below meth c H locs ls X hz hL hP hS
  exact lv_icmp_ne X.1 X.2.1 hd ht (fun q => kt q p e s m args below meth c H locs ls X hz hL hP hS) (fun q => kf q p e s m args below meth c H locs ls X hz hL hP hS)
theorem zt_if_ne {x : Int32} {off : Int} {tgt : Nat} (hd : decode (zcc M) pc = .ok (.ifCond .ne off, 3)) (hn : pc + 3 = n) (ht : (pc : Int) + off = (tgt : Int)) (kt : ¬ x = 0 → ZT G M rm h9 tgt lv st h cu su) (kf : x = 0 → ZT G M rm h9 n lv st h cu su) : ZT G M rm h9 pc lv (.int x :: st) h cu su := by
  subst hn
  intro p e s m args below meth c H locs ls X hz hL hP hS
  exact lv_if_ne X.1 X.2.1 hd ht (fun q => kt q p e s m args below meth c H locs ls X hz hL hP hS) (fun q => kf q p e s m args below meth c H locs ls X hz hL hP hS)
theorem zt_n {nn k : Nat} {g9 : Nat → va_E} {L L' : List (Nat × va_E)} {e9 : va_E} (hL : zsl L k e9 = L') (K : ZT G M rm h9 pc lv st (nn, zus g9 L') cu su) : ZT G M rm h9 pc lv st (nn, zu (zus g9 L) k e9) cu su := by
  subst hL
  rw [zus_sl]
  exact K
theorem zt_nn {nn : Nat} {g9 : Nat → va_E} {L L' L2 : List (Nat × va_E)} (hL : zmg L L2 = L') (K : ZT G M rm h9 pc lv st (nn, zus g9 L') cu su) : ZT G M rm h9 pc lv st (nn, zus (zus g9 L) L2) cu su := by
  subst hL
  rw [zus_mg]
  exact K
theorem zt_0 {nn : Nat} {g9 : Nat → va_E} (K : ZT G M rm h9 pc lv st (nn, zus g9 []) cu su) : ZT G M rm h9 pc lv st (nn, g9) cu su := K
theorem zt_heap {nn : Nat} {g9 g' : Nat → va_E} (hh : g9 = g') (K : ZT G M rm h9 pc lv st (nn, g') cu su) : ZT G M rm h9 pc lv st (nn, g9) cu su := by
  subst hh
  exact K
theorem zt_lv {lv' : List (Option Value)} (hh : lv = lv') (K : ZT G M rm h9 pc lv' st h cu su) : ZT G M rm h9 pc lv st h cu su := by
  subst hh
  exact K
theorem zt_top {x y : Int32} (e : x = y) (K : ZT G M rm h9 pc lv (.int y :: st) h cu su) : ZT G M rm h9 pc lv (.int x :: st) h cu su := by
  subst e
  exact K
theorem zt_callSi {index : Nat} {y : MethodName} {ws ws' : List Cond} {bytes : ByteArray} {maxL : Nat} {ret : Option FieldType} {f9 l9 : Nat} {As rest : List Value} {v : Int32} {h' : zAH} (hC : zC G y ws (zrm f9 l9) false As h (fun r h9 => r = some (.int v) ∧ h9 = h')) (hG : GoodIn (zws M) (va_wsS (zown M) index y ws)) (hw : ws = Cond.code y bytes maxL ret :: ws') (hd : decode (zcc M) pc = .ok (.invokestatic index, 3)) (hn : pc + 3 = n)
    (hst : st = As.reverse ++ rest) (ho : zOk y As.length) (hR : f9 + 1 ≤ rm.frames ∧ 8 + (maxL + 11) + l9 ≤ rm.locals) (hf : cu ≤ rm.cells ∧ su ≤ rm.slots) (hs : (rest.map fun v => v.category).sum ≤ 8)
    (K : ZT G M rm h9 n lv (.int v :: rest) h' cu su) : ZT G M rm h9 pc lv st h cu su := by
  subst hn
  intro p e s m args below meth c H locs ls X hz hL hP hS
  obtain ⟨hx, hb, hml, hr, hown, hts, hlk9, hnm, hK⟩ := id X
  exact z_run (ex := false) (rm' := zrm f9 l9) (va_runS (As := As) (rest := rest) ⟨hx, hb, hml, hown, hts⟩ hC (va_cwS As.length hts hG hw rfl rfl ho hR) ⟨z_blind, fun U hU hW => ⟨rfl, by rw [hU]; exact hP, hK.moved hU hW hS, fun he => nomatch he⟩⟩ rfl rfl hL.1 hst (lv_room hs) hd hf) hP hS hK.2.2 (fun he => nomatch he)
    (fun r h' H1 locs1 hq hP1 hz1 hS1 => by obtain ⟨rfl, rfl⟩ := hq; exact K p e s m args below meth c H1 locs1 ls X hz hL hP1 hS1)
theorem zt_callVi {index : Nat} {y : MethodName} {ws ws' : List Cond} {bytes : ByteArray} {maxL : Nat} {ret : Option FieldType} {f9 l9 : Nat} {As rest : List Value} {v : Int32} {h' : zAH} {k ci N : Nat} {C : String} {T0 : u_T} {fs : List Value} (hC : zC G y ws (zrm f9 l9) false (.ref (zB G + k) :: As) h (fun r h9 => r = some (.int v) ∧ h9 = h')) (hG : GoodIn (zws M) (wsV (zown M) index C y ws)) (hw : ws = Cond.code y bytes maxL ret :: ws') (hd : decode (zcc M) pc = .ok (.invokevirtual index, 3)) (hn : pc + 3 = n)
    (hst : st = As.reverse ++ .ref (zB G + k) :: rest) (hyC : y.cls = C) (ho : zOk y As.length) (hk : k < h.1) (he : h.2 k = .inr (ci, fs)) (hc : vwCl[ci]? = some (C, T0, N)) (hR : f9 + 1 ≤ rm.frames ∧ 8 + (maxL + 11) + l9 ≤ rm.locals) (hf : cu ≤ rm.cells ∧ su ≤ rm.slots) (hs : (rest.map fun v => v.category).sum ≤ 8)
    (K : ZT G M rm h9 n lv (.int v :: rest) h' cu su) : ZT G M rm h9 pc lv st h cu su := by
  subst hn
  intro p e s m args below meth c H locs ls X hz hL hP hS
  obtain ⟨hx, hb, hml, hr, hown, hts, hlk9, hnm, hK⟩ := id X
  exact z_run (ex := false) (rm' := zrm f9 l9) (va_runV (As := As) (rest := rest) (b := zB G + k) ⟨hx, hb, hml, hown, hts⟩ hC (cwV As.length hts hG hw rfl rfl ⟨hyC, ho⟩ hR) ⟨z_blind, va_recv hK.1 hP (ci := ci) (q0 := k) (fs := fs) hc (by rw [zw_at hk, he]), fun U hU hW => ⟨rfl, by rw [hU]; exact hP, hK.moved hU hW hS, fun he => nomatch he⟩⟩ rfl rfl hL.1 hst (lv_room hs) hd hf) hP hS hK.2.2 (fun he => nomatch he)
    (fun r h' H1 locs1 hq hP1 hz1 hS1 => by obtain ⟨rfl, rfl⟩ := hq; exact K p e s m args below meth c H1 locs1 ls X hz hL hP1 hS1)
/-- throw new ArithmeticException(text) -/
theorem zt_throw {ik is ic sa : Nat} {tx : String} (hlT : (zl G).stackTraces = false) (hns : vx_atS (zown M) ic zAE ["java/lang/RuntimeException", "java/lang/Exception"] = vx_atS RX6 160 zAE ["java/lang/RuntimeException", "java/lang/Exception"])
    (hk : Cond.classLink (zown M) ik zAE ∈ zws M) (hini : Cond.initialized zAE ∈ zws M) (hin : ∀ w ∈ (vx_atS RX6 160 zAE ["java/lang/RuntimeException", "java/lang/Exception"]).filter goodWord, w ∈ zws M)
    (hstr : ∀ s, zK G s → vk_R (zown M) is tx sa s)
    (d0 : decode (zcc M) pc = .ok (.new ik, 3)) (d3 : decode (zcc M) (pc + 3) = .ok (.dup, 1)) (d4 : decode (zcc M) (pc + 4) = .ok (.ldc is, 2)) (d6 : decode (zcc M) (pc + 6) = .ok (.invokespecial ic, 3)) (d9 : decode (zcc M) (pc + 9) = .ok (.athrow, 1))
    (hR : 5 < rm.frames ∧ 82 ≤ rm.locals) (hc : cu + 1 ≤ rm.cells) (hs : su + 6 ≤ rm.slots) (hh : h = h9) : ZT G M rm h9 pc lv [] h cu su := by
  subst hh
  intro p e s m args below meth c H locs ls X hz hL hP hS
  obtain ⟨hx, hb, hml, hr, hown, hts, hlk9, hnm, hK⟩ := id X
  obtain ⟨hU, hN, -, -, hw, -, -, -, -⟩ := hK.2.1.2.2.2.2
  refine vx_throwS hx hb hlT (own := zown M) (cls := zAE) (text := tx) (names := ["java/lang/RuntimeException", "java/lang/Exception"]) (ik := ik) (is := is) (ic := ic) (sa := sa) (A := zA G) hown (by decide) (by decide) (hts _ hk) (hts _ hini) (hstr s hK) ?_ ?_ hU hN hS (hL.1.trans hml.symm) d0 d3 d4 d6 d9 (fun x hx => absurd (hz x hx) id) (by show 2 + 3 < _; omega) (by show 0 + (13 * (2 + 1) + 43) ≤ _; omega) hc hs hlk9 ?_ hS.2.2 hc hs
  · rw [hns]
    exact vx_hat (fun w h => hts w (hin w h)) (B := zThW) (by decide +kernel) (fun w h => zThW_moved (Vm.Alike.refl _) w h (hw w h))
  · rw [hns]
    have e1 : ∀ w ∈ vx_atS RX6 160 zAE ["java/lang/RuntimeException", "java/lang/Exception"], vx_ot w = true := by decide +kernel
    intro w h
    rcases List.mem_cons.mp h with rfl | h
    · rfl
    rcases List.mem_cons.mp h with rfl | h
    · rfl
    · exact e1 w h
  · intro t hal h1 h2
    exact ⟨rfl, zHd_grow hP h2, Nat.le_trans hS.1 h1, fun q h3 h4 => by rw [h2 q (Nat.lt_of_lt_of_le h3 hS.1)]; exact hS.2.1 q h3 h4⟩
end ZTR
theorem zCX_of {G : zG} {y : MethodName} {ws ws' : List Cond} {cc : ByteArray} {nL : Nat} {ret : Option FieldType} {rm : Room} {as : List Value} {lv : List (Option Value)} {h h9 : zAH} (M : zM)
    (hw : ws = Cond.code y cc nL ret :: ws') (hM : (cc, nL, ret, y.cls, ws, y.name) = M) (hy : plainName y.cls = true) (hv : ∀ v ∈ as, v.category = 1) (hn : as.length ≤ nL) (hlv : as.map some ++ List.replicate (nL - as.length) none = lv)
    (K : ZT G M rm h9 0 lv [] h 0 0) : zCX G y ws rm as h h9 := by
  subst hw
  subst hM
  subst hlv
  refine vx_ofW (cc := cc) (maxL := nL) (ret := ret) hy rfl ?_
  intro p e s m args below meth c s₁ B hml ht hvv
  obtain ⟨rfl, hH, hK, hex⟩ := hvv
  rw [entry_eq m as hv nL]
  exact K p e s m _ below meth c s.heap [] _ ⟨B.exec, B.bytes, hml, B.returns, findClass_of_methodNamed B.named, atoms_spec (ws := Cond.code y cc nL ret :: ws') B.pre, B.notSynchronized, (name_of_methodNamed B.named B.method).1, hK⟩
    ht (zL_entry hv hn) hH va_S.rf
