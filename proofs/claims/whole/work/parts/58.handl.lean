section
variable {p : Program} {l : Launch} {e : Env} {R : Room} {s : State} {m : MethodId} {args : Array Value} {below : List Frame} {meth : Method} {c : Code} {H : Heap} {locs : List Loc} {cells slots : Nat} {Q : State → Prop}
variable {mc ms : Nat} {free : Addr → Prop} {A0 A1 : Nat → Prop} {H0 : Heap} {a : Array Value} {pc : Nat} {ls : Array Slot} {st0 rest : List Value}
theorem vx_catch {own name : String} {E : String} {ce : Cell} {q : Addr} (hown : s.vm.findClass own = some m.cls) (pre : List ExceptionTableEntry) (x : ExceptionTableEntry) (suf : List ExceptionTableEntry) (hsplit : c.exceptionTable.toList = pre ++ x :: suf)
    (hpass : ∀ z ∈ pre, covers z pc = false ∨ (z.catchType ≠ 0 ∧ ∃ nm : String, (Cond.classLink own z.catchType nm).before args s = true ∧ va_Nc E nm s)) (hx : covers x pc = true) (h0 : x.catchType ≠ 0)
    (hlink : (Cond.classLink own x.catchType name).before args s = true) (hcast : (Cond.castable E name).before args s = true) (hcell : H[q]? = some ce) (hv : ce.vm = .none) (hcl : s.vm.findClass E = some ce.cls)
    (kk : W p l e R s m args below meth c H locs cells slots Q (F0 m x.handlerPc ls [.ref q])) : vx_W p l e R s m args below meth c H locs cells slots Q (F0 m pc ls rest) q := by
  intro T hT X
  have hpl : e.platform.magicAccessors = ({} : Platform).magicAccessors := by rw [X.admits.platform]
  obtain ⟨c3, c4, hc3, hc4, hasg⟩ := Cond.castable_spec hcast
  cases Option.some.inj (hc3.symm.trans hcl)
  obtain ⟨c5, hc5, hcl5⟩ := Cond.classLink_spec hown hlink e.platform hpl
  cases Option.some.inj (hc4.symm.trans hc5)
  obtain ⟨vm', X', st⟩ := X.thenCaughtThrough q (g := F0 m pc ls rest) rfl (Steps.refl _) (by rw [hT]; exact hcell) (by rw [hv]; rfl) (by obtain ⟨k9, h9, -⟩ := Vm.findClass_spec hcl; exact ⟨k9, h9⟩) pre x suf hsplit
    (fun z hz => by
      rcases hpass z hz with h | ⟨hz0, nm, hl1, hn1⟩
      · exact Or.inl h
      · obtain ⟨c6, hc6, hcl6⟩ := Cond.classLink_spec hown hl1 e.platform hpl
        obtain ⟨a8, b8, h1, h2, h3⟩ := hn1
        cases Option.some.inj (h1.symm.trans hcl)
        cases Option.some.inj (h2.symm.trans hc6)
        exact Or.inr ⟨hz0, _, hcl6, h3⟩) hx (Or.inr ⟨h0, c4, hcl5, hasg⟩)
  obtain ⟨t, a1, b1⟩ := kk (T.setVm vm') hT X'
  exact ⟨t, st.trans a1, b1⟩
end

/-! ===== methods with handlers ===== -/
/-- the method M with the handlers hh stands at pc: it comes to its end, and Q holds there -/
def ZH (G : zG) (M : zM) (rm : Room) (hh : List (Nat × Nat × Nat × Nat)) (Q : Option Value → zAH → Prop) (pc : Nat) (lv : List (Option Value)) (st : List Value) (h : zAH) (cu su : Nat) : Prop :=
  ∀ (p : Program) (e : Env) (s : State) (m : MethodId) (args : Array Value) (below : List Frame) (meth : Method) (c : Code) (H : Heap) (locs : List Loc) (ls : Array Slot),
    zX G M p s m args meth c → c.exceptionTable.toList = tableOf hh → zL ls (znL M) lv → zHd G h H → va_S (zA G) s.heap H locs →
    W p (zl G) e rm s m args below meth c H locs cu su (MQ below (zQ G false rm.cells Q) args s rm.cells rm.slots (zA G)) (F0 m pc ls st)
section ZHR
variable {G : zG} {M : zM} {rm : Room} {hh : List (Nat × Nat × Nat × Nat)} {Q : Option Value → zAH → Prop} {pc n : Nat} {lv : List (Option Value)} {st : List Value} {h : zAH} {cu su : Nat}
theorem zh_aload_n {k : Fin 4} {x : Nat} (hd : decode (zcc M) pc = .ok (.aload_n k, 1)) (hn : pc + 1 = n) (hl : lv[k.val]? = some (some (.ref x))) (K : ZH G M rm hh Q n lv (.ref x :: st) h cu su) : ZH G M rm hh Q pc lv (st) h cu su := by
  subst hn
  intro p e s m args below meth c H locs ls X hz hL hP hS
  exact lv_aload_n X.1 X.2.1 hd rfl (hL.2.2.2 _ _ hl).2 (K p e s m args below meth c H locs ls X hz hL hP hS)
theorem zh_aload {k : Nat} {x : Nat} (hd : decode (zcc M) pc = .ok (.aload k, 2)) (hn : pc + 2 = n) (hl : lv[k]? = some (some (.ref x))) (K : ZH G M rm hh Q n lv (.ref x :: st) h cu su) : ZH G M rm hh Q pc lv (st) h cu su := by
  subst hn
  intro p e s m args below meth c H locs ls X hz hL hP hS
  exact lv_aload X.1 X.2.1 hd (hL.2.2.2 _ _ hl).2 (K p e s m args below meth c H locs ls X hz hL hP hS)
theorem zh_iload_n {k : Fin 4} {x : Int32} (hd : decode (zcc M) pc = .ok (.iload_n k, 1)) (hn : pc + 1 = n) (hl : lv[k.val]? = some (some (.int x))) (K : ZH G M rm hh Q n lv (.int x :: st) h cu su) : ZH G M rm hh Q pc lv (st) h cu su := by
  subst hn
  intro p e s m args below meth c H locs ls X hz hL hP hS
  exact lv_iload_n X.1 X.2.1 hd rfl (hL.2.2.2 _ _ hl).2 (K p e s m args below meth c H locs ls X hz hL hP hS)
theorem zh_iconst {v : Int32} {j : Int} (hd : decode (zcc M) pc = .ok (.iconst j, 1)) (hn : pc + 1 = n) (hv : Int32.ofInt j = v) (K : ZH G M rm hh Q n lv (.int v :: st) h cu su) : ZH G M rm hh Q pc lv (st) h cu su := by
  subst hn
  intro p e s m args below meth c H locs ls X hz hL hP hS
  exact lv_iconst X.1 X.2.1 hd hv (K p e s m args below meth c H locs ls X hz hL hP hS)
theorem zh_istore_n0 {k : Fin 4} {x : Int32} (hd : decode (zcc M) pc = .ok (.istore_n k, 1)) (hn : pc + 1 = n) (hi : k.val < lv.length) (K : ZH G M rm hh Q n (lv.set k.val (some (.int x))) st h cu su) : ZH G M rm hh Q pc lv (.int x :: st) h cu su := by
  subst hn
  intro p e s m args below meth c H locs ls X hz hL hP hS
  exact lv_istore_n X.1 X.2.1 hd rfl (zL_has hL) (by rw [← hL.2.1]; exact hi) rfl (fun ls' h' => K p e s m args below meth c H locs ls' X hz (zL_set hL hi rfl h') hP hS)
theorem zh_istore0 {k : Nat} {x : Int32} (hd : decode (zcc M) pc = .ok (.istore k, 2)) (hn : pc + 2 = n) (hi : k < lv.length) (K : ZH G M rm hh Q n (lv.set k (some (.int x))) st h cu su) : ZH G M rm hh Q pc lv (.int x :: st) h cu su := by
  subst hn
  intro p e s m args below meth c H locs ls X hz hL hP hS
  exact lv_istore X.1 X.2.1 hd (zL_has hL) (by rw [← hL.2.1]; exact hi) rfl (fun ls' h' => K p e s m args below meth c H locs ls' X hz (zL_set hL hi rfl h') hP hS)
theorem zh_astore0 {k : Nat} {x : Nat} (hd : decode (zcc M) pc = .ok (.astore k, 2)) (hn : pc + 2 = n) (hi : k < lv.length) (K : ZH G M rm hh Q n (lv.set k (some (.ref x))) st h cu su) : ZH G M rm hh Q pc lv (.ref x :: st) h cu su := by
  subst hn
  intro p e s m args below meth c H locs ls X hz hL hP hS
  exact lv_astore X.1 X.2.1 hd (zL_has hL) (by rw [← hL.2.1]; exact hi) rfl (fun ls' h' => K p e s m args below meth c H locs ls' X hz (zL_set hL hi rfl h') hP hS)
theorem zh_astore_4 {a0 a1 a2 a3 a4 : Option Value} {r : List (Option Value)} {x : Nat} (hd : decode (zcc M) pc = .ok (.astore 4, 2)) (hn : pc + 2 = n) (K : ZH G M rm hh Q n (a0 :: a1 :: a2 :: a3 :: some (.ref x) :: r) st h cu su) : ZH G M rm hh Q pc (a0 :: a1 :: a2 :: a3 :: a4 :: r) (.ref x :: st) h cu su := zh_astore0 hd hn (by simp) K
theorem zh_astore_5 {a0 a1 a2 a3 a4 a5 : Option Value} {r : List (Option Value)} {x : Nat} (hd : decode (zcc M) pc = .ok (.astore 5, 2)) (hn : pc + 2 = n) (K : ZH G M rm hh Q n (a0 :: a1 :: a2 :: a3 :: a4 :: some (.ref x) :: r) st h cu su) : ZH G M rm hh Q pc (a0 :: a1 :: a2 :: a3 :: a4 :: a5 :: r) (.ref x :: st) h cu su := zh_astore0 hd hn (by simp) K
theorem zh_n {nn k : Nat} {g9 : Nat → va_E} {L L' : List (Nat × va_E)} {e9 : va_E} (hL : zsl L k e9 = L') (K : ZH G M rm hh Q pc lv st (nn, zus g9 L') cu su) : ZH G M rm hh Q pc lv st (nn, zu (zus g9 L) k e9) cu su := by
  subst hL
  rw [zus_sl]
  exact K
theorem zh_nn {nn : Nat} {g9 : Nat → va_E} {L L' L2 : List (Nat × va_E)} (hL : zmg L L2 = L') (K : ZH G M rm hh Q pc lv st (nn, zus g9 L') cu su) : ZH G M rm hh Q pc lv st (nn, zus (zus g9 L) L2) cu su := by
  subst hL
  rw [zus_mg]
  exact K
theorem zh_0 {nn : Nat} {g9 : Nat → va_E} (K : ZH G M rm hh Q pc lv st (nn, zus g9 []) cu su) : ZH G M rm hh Q pc lv st (nn, g9) cu su := K
theorem zh_heap {nn : Nat} {g9 g' : Nat → va_E} (hh9 : g9 = g') (K : ZH G M rm hh Q pc lv st (nn, g') cu su) : ZH G M rm hh Q pc lv st (nn, g9) cu su := by
  subst hh9
  exact K
theorem zh_goto {off : Int} {tgt : Nat} (hd : decode (zcc M) pc = .ok (.goto off, 3)) (ht : (pc : Int) + off = (tgt : Int)) (K : ZH G M rm hh Q tgt lv st h cu su) : ZH G M rm hh Q pc lv st h cu su := by
  intro p e s m args below meth c H locs ls X hz hL hP hS
  exact lv_goto X.1 X.2.1 hd ht (K p e s m args below meth c H locs ls X hz hL hP hS)
theorem zh_i2l {x : Int32} (hd : decode (zcc M) pc = .ok (.i2l, 1)) (hn : pc + 1 = n) (K : ZH G M rm hh Q n lv (.long x.toInt64 :: st) h cu su) : ZH G M rm hh Q pc lv (.int x :: st) h cu su := by
  subst hn
  intro p e s m args below meth c H locs ls X hz hL hP hS
  exact lv_i2l X.1 X.2.1 hd rfl (K p e s m args below meth c H locs ls X hz hL hP hS)
theorem zh_last {nn : Nat} {g9 : Nat → va_E} {k N : Nat} {f : Nat → Int64} {i : Int32} {x : Int64} (hd : decode (zcc M) pc = .ok (.lastore, 1)) (hn : pc + 1 = n) (hk : k < nn) (he : g9 k = zJ G N f) (hi : vp_in i N)
    (K : ZH G M rm hh Q n lv st (nn, zu g9 k (zJ G N (vp_updL f i.toNatClampNeg x))) cu su) : ZH G M rm hh Q pc lv (.long x :: .int i :: .ref (zB G + k) :: st) (nn, g9) cu su := by
  subst hn
  intro p e s m args below meth c H locs ls X hz hL hP hS
  obtain ⟨hx, hb, hml, hr, hown, hts, hlk9, hnm, hK⟩ := id X
  exact va_last hx hb hK.1 hP (zw_D G (nn, g9)) hS k 3 (by rw [zw_at (h := (nn, g9)) hk]; show some (_, g9 k) = _; rw [he]) rfl hi hd (fun H1 locs1 hP1 hD1 hS1 => by
    rw [zw_set (n := nn) (g := g9) hk] at hP1
    exact K p e s m args below meth c H1 locs1 ls X hz hL hP1 hS1)
theorem zh_ireturn {x : Int32} {ty : FieldType} (hd : decode (zcc M) pc = .ok (.ireturn, 1)) (hr0 : zret M = some ty) (hnar : narrow ty (.int x) = .int x) (hcu : cu ≤ rm.cells) (hsu : su ≤ rm.slots) (hq : Q (some (.int x)) h) : ZH G M rm hh Q pc lv [.int x] h cu su := by
  intro p e s m args below meth c H locs ls X hz hL hP hS
  obtain ⟨hx, hb, hml, hr, hown, hts, hlk9, hnm, hK⟩ := id X
  refine W.widen hcu hsu ?_
  exact W.zret hx hb (hr.trans hr0) hnar (fun t ht hW => ⟨⟨_, h, rfl, hq, by rw [ht]; exact hP, fun he => nomatch he⟩, hS.F ht⟩) hS.2.2 hd
theorem zh_callVi {index : Nat} {y : MethodName} {ws ws' : List Cond} {bytes : ByteArray} {maxL : Nat} {ret : Option FieldType} {f9 l9 : Nat} {As rest : List Value} {v : Int32} {h' : zAH} {k ci N : Nat} {C : String} {T0 : u_T} {fs : List Value} (hC : zC G y ws (zrm f9 l9) false (.ref (zB G + k) :: As) h (fun r h9 => r = some (.int v) ∧ h9 = h')) (hG : GoodIn (zws M) (wsV (zown M) index C y ws)) (hw : ws = Cond.code y bytes maxL ret :: ws') (hd : decode (zcc M) pc = .ok (.invokevirtual index, 3)) (hn : pc + 3 = n)
    (hst : st = As.reverse ++ .ref (zB G + k) :: rest) (hyC : y.cls = C) (ho : zOk y As.length) (hk : k < h.1) (he : h.2 k = .inr (ci, fs)) (hc : vwCl[ci]? = some (C, T0, N)) (hR : f9 + 1 ≤ rm.frames ∧ 8 + (maxL + 11) + l9 ≤ rm.locals) (hf : cu ≤ rm.cells ∧ su ≤ rm.slots) (hs : (rest.map fun v => v.category).sum ≤ 8)
    (K : ZH G M rm hh Q n lv (.int v :: rest) h' cu su) : ZH G M rm hh Q pc lv st h cu su := by
  subst hn
  intro p e s m args below meth c H locs ls X hz hL hP hS
  obtain ⟨hx, hb, hml, hr, hown, hts, hlk9, hnm, hK⟩ := id X
  exact z_run (ex := false) (rm' := zrm f9 l9) (va_runV (As := As) (rest := rest) (b := zB G + k) ⟨hx, hb, hml, hown, hts⟩ hC (cwV As.length hts hG hw rfl rfl ⟨hyC, ho⟩ hR) ⟨z_blind, va_recv hK.1 hP (ci := ci) (q0 := k) (fs := fs) hc (by rw [zw_at hk, he]), fun U hU hW => ⟨rfl, by rw [hU]; exact hP, hK.moved hU hW hS, fun he => nomatch he⟩⟩ rfl rfl hL.1 hst (lv_room hs) hd hf) hP hS hK.2.2 (fun he => nomatch he)
    (fun r h' H1 locs1 hq hP1 hz1 hS1 => by obtain ⟨rfl, rfl⟩ := hq; exact K p e s m args below meth c H1 locs1 ls X hz hL hP1 hS1)
/-- a call that throws, and its handler -/
theorem zh_callVX {index : Nat} {y : MethodName} {ws ws' : List Cond} {bytes : ByteArray} {maxL : Nat} {ret : Option FieldType} {rm' : Room} {As rest : List Value} {h9 : zAH} {k ci N : Nat} {C : String} {T0 : u_T} {fs : List Value} {x9 : ExceptionTableEntry} (hC : zCX G y ws rm' (.ref (zB G + k) :: As) h h9) (hG : GoodIn (zws M) (wsV (zown M) index C y ws)) (hw : ws = Cond.code y bytes maxL ret :: ws') (hd : decode (zcc M) pc = .ok (.invokevirtual index, 3))
    (hst : st = As.reverse ++ .ref (zB G + k) :: rest) (hyC : y.cls = C) (ho : zOk y As.length) (hk : k < h.1) (he : h.2 k = .inr (ci, fs)) (hc : vwCl[ci]? = some (C, T0, N)) (hR : rm'.frames + 1 ≤ rm.frames ∧ 8 + (maxL + 11) + rm'.locals ≤ rm.locals) (hf : cu + rm'.cells ≤ rm.cells ∧ su + rm'.slots ≤ rm.slots) (hs : (rest.map fun v => v.category).sum ≤ 8)
    (ht : tableOf hh = [x9]) (hcov : covers x9 pc = true) (hct : x9.catchType ≠ 0) (hcl : Cond.classLink (zown M) x9.catchType zAE ∈ zws M) (hn : x9.handlerPc = n)
    (K : ∀ q : Nat, ZH G M rm hh Q n lv [.ref q] h9 (cu + rm'.cells) (su + rm'.slots)) : ZH G M rm hh Q pc lv st h cu su := by
  subst hn
  intro p e s m args below meth c H locs ls X hz hL hP hS
  obtain ⟨hx, hb, hml, hr, hown, hts, hlk9, hnm, hK⟩ := id X
  have hr := vx_runV (p := p) (e := e) (below := below) (meth := meth) (locs := locs) (cells := cu) (slots := su) (g := F0 m pc ls st) (As := As) (rest := rest) (b := zB G + k) ⟨hx, hb, hml, hown, hts⟩ hC (cwV As.length hts hG hw rfl rfl ⟨hyC, ho⟩ hR) ⟨z_blind, va_recv hK.1 hP (ci := ci) (q0 := k) (fs := fs) hc (by rw [zw_at hk, he]), fun U hU hW => ⟨rfl, by rw [hU]; exact hP, hK.moved hU hW hS, fun he => nomatch he⟩⟩ rfl rfl hL.1 hst (lv_room hs) hd hf
  intro T hT XT
  rcases hr T hT XT with ⟨v, st₀, t, T', L, h0, X', hLL, e1, e2, hfalse, st9⟩ | ⟨q, st₀, t, T', L, E, ce, h0, X', hLL, e1, e2, ⟨rfl, hP9, hF⟩, hce, hcv, hcl9, st9⟩
  · exact absurd hfalse id
  · obtain ⟨k1, k2, k3⟩ := vx_keep h0 e1 hS (fun _ _ z => z) (fun _ z => z) hLL hF
    have hw9 : (Cond.castable zAE zAE).before args s = true := zThW_moved (Vm.Alike.refl _) _ (by simp [zThW]) (hK.2.1.2.2.2.2.2.2.2.2.1 _ (by simp [zThW]))
    have key := vx_catch (p := p) (l := zl G) (e := e) (R := rm) (below := below) (meth := meth) (c := c) (ls := ls) (rest := rest) (pc := pc) (q := q) (ce := ce) (H := T'.heap) (name := zAE) (E := zAE) hown [] x9 [] (by rw [hz, ht]; rfl) (fun z hz => absurd hz List.not_mem_nil) hcov hct (hts _ hcl) hw9 (by rw [e1]; exact hce) hcv hcl9
      (K q p e s m args below meth c T'.heap (locs ++ L) ls X hz hL (by rw [e1]; exact hP9) k3)
    obtain ⟨t2, a1, b1⟩ := key T' rfl X'
    exact ⟨t2, st9.trans a1, b1⟩
end ZHR
theorem zC_ofH {G : zG} {y : MethodName} {ws ws' : List Cond} {cc : ByteArray} {nL : Nat} {ret : Option FieldType} {hh : List (Nat × Nat × Nat × Nat)} {rm : Room} {as : List Value} {lv : List (Option Value)} {h : zAH} {Q : Option Value → zAH → Prop} (M : zM)
    (hw : ws = Cond.codeWith y cc nL ret hh :: ws') (hM : (cc, nL, ret, y.cls, ws, y.name) = M) (hy : plainName y.cls = true) (hv : ∀ v ∈ as, v.category = 1) (hn : as.length ≤ nL) (hlv : as.map some ++ List.replicate (nL - as.length) none = lv)
    (K : ZH G M rm hh Q 0 lv [] h 0 0) : zC G y ws rm false as h Q := by
  subst hw
  subst hM
  subst hlv
  unfold zC Met
  refine MetFree.of_bodyS (code := cc) (maxLocals := nL) (ret := ret) hy ?_ ?_
  · intro args s m h hn
    obtain ⟨m9, meth, c, hn9, h1, h2, h3, h4, -, h5, h6, -⟩ := Cond.codeWith_spec (atoms_spec (ws := Cond.codeWith y cc nL ret hh :: ws') h _ List.mem_cons_self)
    cases hn.symm.trans hn9
    exact ⟨meth, c, h1, h2, h3, h4, h5, h6⟩
  · intro p e s m args below meth c s₁ B hml hvv _
    obtain ⟨rfl, hH, hK, hex⟩ := hvv
    have hh0 : s₁.heap = s.heap := by rw [B.state]; rfl
    have key := K p e s m _ below meth c s.heap [] _ ⟨B.exec, B.bytes, hml, B.returns, findClass_of_methodNamed B.named, atoms_spec (ws := Cond.codeWith y cc nL ret hh :: ws') B.pre, B.notSynchronized, (name_of_methodNamed B.named B.method).1, hK⟩
      (vx_table (x := y) (bytes := cc) (maxL' := nL) (ret' := ret) B (atoms_spec (ws := Cond.codeWith y cc nL ret hh :: ws') B.pre _ List.mem_cons_self)) (zL_entry hv hn) hH va_S.rf
    rw [← entry_eq m as hv nL] at key
    obtain ⟨t, a1, o, b1, b2, b3⟩ := key s₁ hh0 (Stand.of_body B)
    exact ⟨t, o, a1, b1, b2, b3⟩
