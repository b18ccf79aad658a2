/-! ===== THE LAYER Z: one heap of cells by number (cell k of the system lies at address B + k), one judgement over W ===== -/
/-- what is the same over a whole run: launch, class numbers and slots, array classes (int, boolean, int[], long), the first new address, where the static arrays lie -/
abbrev zG : Type := Launch × va_G × (ClassId × ClassId × ClassId × ClassId) × Nat × (Nat → Nat)
abbrev zl (G : zG) : Launch := G.1
abbrev zD (G : zG) : va_G := G.2.1
abbrev cI (G : zG) : ClassId := G.2.2.1.1
abbrev cZ (G : zG) : ClassId := G.2.2.1.2.1
abbrev cM (G : zG) : ClassId := G.2.2.1.2.2.1
abbrev cJ (G : zG) : ClassId := G.2.2.1.2.2.2
abbrev zB (G : zG) : Nat := G.2.2.2.1
abbrev zs (G : zG) : Nat → Nat := G.2.2.2.2
def zA (G : zG) : Nat → Prop := fun q => zB G ≤ q
def zT (G : zG) : List (ClassId × FieldType) := [(cI G, .int), (cZ G, .boolean), (cM G, .array .int), (cJ G, .long)]
/-- the heap: how many cells, what each holds -/
abbrev zAH : Type := Nat × (Nat → va_E)
abbrev zI (G : zG) (n : Nat) (f : Nat → Int32) : va_E := .inl (cI G, n, .inl f)
abbrev zZ (G : zG) (n : Nat) (f : Nat → Int32) : va_E := .inl (cZ G, n, .inl f)
abbrev zJ (G : zG) (n : Nat) (f : Nat → Int64) : va_E := .inl (cJ G, n, .inr (.inl f))
abbrev zR (G : zG) (n : Nat) (f : Nat → Option Nat) : va_E := .inl (cM G, n, .inr (.inr (.inr (.inr f))))
abbrev zO (ci : Nat) (fs : List Value) : va_E := .inr (ci, fs)
def zu (g : Nat → va_E) (k : Nat) (e : va_E) : Nat → va_E := fun j => if j = k then e else g j
theorem zu_s (g : Nat → va_E) (k : Nat) (e : va_E) : zu g k e k = e := by simp [zu]
theorem zu_n (g : Nat → va_E) {k j : Nat} (e : va_E) (h : j ≠ k) : zu g k e j = g j := by simp [zu, h]
theorem zu_self (g : Nat → va_E) (k : Nat) (e : va_E) (h : g k = e) : zu g k e = g := by
  funext j
  by_cases hj : j = k
  · subst hj; rw [zu_s, h]
  · rw [zu_n _ _ hj]
theorem zu_zu (g : Nat → va_E) (k : Nat) (e e' : va_E) : zu (zu g k e) k e' = zu g k e' := by
  funext j
  by_cases hj : j = k
  · subst hj; rw [zu_s, zu_s]
  · rw [zu_n _ _ hj, zu_n _ _ hj, zu_n _ _ hj]
theorem zu_comm (g : Nat → va_E) {k j : Nat} (e e' : va_E) (h : k ≠ j) : zu (zu g k e) j e' = zu (zu g j e') k e := by
  funext i
  by_cases h1 : i = k
  · subst h1; rw [zu_s, zu_n _ _ h, zu_s]
  · by_cases h2 : i = j
    · subst h2; rw [zu_s, zu_n _ _ h1, zu_s]
    · rw [zu_n _ _ h1, zu_n _ _ h2, zu_n _ _ h2, zu_n _ _ h1]
def zw (G : zG) (h : zAH) : va_W := (List.range h.1).map (fun k => (zB G + k, h.2 k))
theorem zw_at {G : zG} {h : zAH} {k : Nat} (hk : k < h.1) : (zw G h)[k]? = some (zB G + k, h.2 k) := by
  simp [zw, List.getElem?_map, List.getElem?_range hk]
theorem zw_of {G : zG} {h : zAH} {k : Nat} {q : Nat × va_E} (hq : (zw G h)[k]? = some q) : k < h.1 ∧ q = (zB G + k, h.2 k) := by
  have hk : k < h.1 := by
    have := (List.getElem?_eq_some_iff.mp hq).1
    simpa [zw] using this
  rw [zw_at hk] at hq
  exact ⟨hk, (Option.some.inj hq).symm⟩
theorem zw_D (G : zG) (h : zAH) : va_D (zA G) (zw G h) := by
  refine ⟨fun i j p q hp hq he => ?_, fun k q hq => ?_⟩
  · obtain ⟨-, rfl⟩ := zw_of hp
    obtain ⟨-, rfl⟩ := zw_of hq
    have : zB G + i = zB G + j := he
    omega
  · obtain ⟨-, rfl⟩ := zw_of hq
    exact Nat.le_add_right _ _
theorem zw_set {G : zG} {n : Nat} {g : Nat → va_E} {k : Nat} {e : va_E} (hk : k < n) : (zw G (n, g)).set k (zB G + k, e) = zw G (n, zu g k e) := by
  apply List.ext_getElem?
  intro j
  by_cases hj : j < n
  · rw [zw_at (h := (n, zu g k e)) hj]
    by_cases e1 : j = k
    · subst e1
      rw [List.getElem?_set_self (by simpa [zw] using hk)]
      simp [zu]
    · rw [List.getElem?_set_ne (by omega), zw_at (h := (n, g)) hj]
      simp [zu, e1]
  · rw [List.getElem?_eq_none (by simp [zw]; omega), List.getElem?_eq_none (by simp [zw]; omega)]
theorem zw_push {G : zG} {n : Nat} {g : Nat → va_E} {e : va_E} : zw G (n, g) ++ [(zB G + n, e)] = zw G (n + 1, zu g n e) := by
  unfold zw
  rw [List.range_succ, List.map_append]
  congr 1
  · apply List.map_congr_left
    intro a ha
    have : a < n := List.mem_range.mp ha
    simp [zu, show a ≠ n by omega]
  · simp [zu]
def zHd (G : zG) (h : zAH) (H : Heap) : Prop := va_P (zD G) vwCl (zw G h) H
def zf_P : Nat → Value := fun j => .int (match j with | 0 => 2 | 1 => 3 | 2 => 5 | 3 => 7 | 4 => 11 | _ => 13)
def zf_B : Nat → Value := fun j => .int (match j with | 0 => 1 | 1 => 2 | 2 => 3 | 3 => 4 | 4 => 1 | 5 => 3 | 6 => 2 | 7 => 4 | 8 => 1 | 9 => 4 | 10 => 2 | _ => 3)
def zf_T : Nat → Value := fun j => .int (match j with | 0 => 1 | 1 => -1 | _ => 1)
def zThW : List Cond := [.declares (Bundle.initS "java/lang/RuntimeException"), .declares (Bundle.initS "java/lang/Exception"), .declares (Bundle.initS Bundle.tN), .castable "java/lang/ArithmeticException" "java/lang/ArithmeticException"]
theorem zdecl_moved {u U : State} (h : u.vm.Alike U.vm) {a a' : Array Value} (x : MethodName) (hb : (Cond.declares x).before a u = true) : (Cond.declares x).before a' U = true := by
  have e1 : U.methodNamed? x = u.methodNamed? x := State.methodNamed?_setVm (s := u) h x
  simp only [Cond.before, Cond.holds, Cond.value] at hb ⊢
  rw [e1]
  have e2 : U.vm.method? = u.vm.method? := by funext m; exact h.method? m
  rw [e2]
  exact hb
theorem zcast_moved {u U : State} (h : u.vm.Alike U.vm) {a a' : Array Value} (x y : String) (hb : (Cond.castable x y).before a u = true) : (Cond.castable x y).before a' U = true := by
  have e := Cond.castable_setVm (s := u) (vm' := U.vm) (args := a) h x y
  rw [hb] at e
  exact e
theorem zThW_moved {u U : State} (h : u.vm.Alike U.vm) {a a' : Array Value} : ∀ w ∈ zThW, w.before a u = true → w.before a' U = true := by
  intro w hw hb
  rcases List.mem_cons.mp hw with rfl | hw
  · exact zdecl_moved h _ hb
  rcases List.mem_cons.mp hw with rfl | hw
  · exact zdecl_moved h _ hb
  rcases List.mem_cons.mp hw with rfl | hw
  · exact zdecl_moved h _ hb
  rcases List.mem_cons.mp hw with rfl | hw
  · exact zcast_moved h _ _ hb
  · cases hw
/-- what a throw needs: two static fields of Throwable, the texts of the two throws, four words -/
def zTh (G : zG) (U : State) (H : Heap) : Prop :=
  vx_Zq Bundle.tN "UNASSIGNED_STACK" Bundle.steD (zA G) U H ∧ vx_Zq Bundle.tN "SUPPRESSED_SENTINEL" Bundle.listD (zA G) U H ∧ vk_R "ConfigSearch" 158 "the lines lie on one another" (zs G 3) U ∧ vk_R "ConfigSearch" 168 "the divisor is a multiple of the prime" (zs G 4) U ∧ (∀ w ∈ zThW, w.before #[] U = true) ∧ (∃ u : State, u.vm.Alike U.vm ∧ (Cond.arrayOver (.array .int)).before #[] u = true) ∧
  va_Nw (.methodLinkNest RX6 19 yX4_init RX6) U ∧ va_Nw (.methodLinkNest RX6 29 yX5_init RX6) U ∧ va_Nw (.methodLinkNest RX3 11 yX2_init RX6) U
/-- what the system's static fields hold (they lie ahead of B) -/
def zSt (G : zG) (U : State) (H : Heap) : Prop :=
  (va_Z "ConfigSearch" "PRIMES" "[I" (.ref (zs G 0)) (zA G) U H ∧ va_T .int (zs G 0) 6 zf_P (zA G) U H) ∧
  (va_Z "ConfigSearch$Following" "BEHIND" "[I" (.ref (zs G 1)) (zA G) U H ∧ va_T .int (zs G 1) 12 zf_B (zA G) U H) ∧
  (va_Z "ConfigSearch$Following" "TERM_TURN" "[I" (.ref (zs G 2)) (zA G) U H ∧ va_T .int (zs G 2) 3 zf_T (zA G) U H ∧ zTh G U H)
theorem zSt.moved {G : zG} {u U : State} {H : Heap} (hW : u.WarmedH U.vm) (h : zSt G u H) : zSt G U H :=
  have hvm := hW.alike
  ⟨⟨h.1.1.moved hvm, h.1.2.moved hvm⟩, ⟨h.2.1.1.moved hvm, h.2.1.2.moved hvm⟩, ⟨h.2.2.1.moved hvm, h.2.2.2.1.moved hvm, vx_Zq.moved hvm h.2.2.2.2.1, vx_Zq.moved hvm h.2.2.2.2.2.1, h.2.2.2.2.2.2.1.warm hW, h.2.2.2.2.2.2.2.1.warm hW, fun w hw => zThW_moved hvm w hw (h.2.2.2.2.2.2.2.2.1 w hw), h.2.2.2.2.2.2.2.2.2.1.elim (fun u q => ⟨u, q.1.trans hvm, q.2⟩), va_Nw.warmM hW h.2.2.2.2.2.2.2.2.2.2.1, va_Nw.warmM hW h.2.2.2.2.2.2.2.2.2.2.2.1, va_Nw.warmM hW h.2.2.2.2.2.2.2.2.2.2.2.2⟩⟩
theorem zSt.kept {G : zG} {U : State} {H H1 : Heap} (h : zSt G U H) (hq : ∀ a : Nat, a < H.size → ¬ zA G a → H1[a]? = H[a]?) : zSt G U H1 :=
  ⟨⟨h.1.1.kept hq, h.1.2.kept hq⟩, ⟨h.2.1.1.kept hq, h.2.1.2.kept hq⟩, ⟨h.2.2.1.kept hq, h.2.2.2.1.kept hq, vx_Zq.kept h.2.2.2.2.1 hq, vx_Zq.kept h.2.2.2.2.2.1 hq, h.2.2.2.2.2.2⟩⟩
def zK (G : zG) (U : State) : Prop := va_K (zD G) vwCl (zT G) U ∧ zSt G U U.heap ∧ zB G ≤ U.heap.size
theorem zK.moved {G : zG} {u U : State} {H : Heap} {locs : List Loc} (h : zK G u) (hU : U.heap = H) (hvm : u.WarmedH U.vm) (hS : va_S (zA G) u.heap H locs) : zK G U := by
  subst hU
  exact ⟨h.1.moved hvm.alike, (h.2.1.moved hvm).kept (fun a h1 h2 => hS.2.1 a h1 h2), Nat.le_trans h.2.2 hS.1⟩
/-- a method: its bytes, its locals, its answer's type, its class, its words, its name -/
abbrev zM : Type := ByteArray × Nat × Option FieldType × String × List Cond × String
abbrev zcc (M : zM) : ByteArray := M.1
abbrev znL (M : zM) : Nat := M.2.1
abbrev zret (M : zM) : Option FieldType := M.2.2.1
abbrev zown (M : zM) : String := M.2.2.2.1
abbrev zws (M : zM) : List Cond := M.2.2.2.2.1
abbrev znm (M : zM) : String := M.2.2.2.2.2
abbrev zrm (f o : Nat) : Room := { frames := f, cells := 0, slots := 0, locals := o }
/-- the locals, by their places; all of one word -/
def zL (ls : Array Slot) (nL : Nat) (lv : List (Option Value)) : Prop := ls.size = nL ∧ lv.length = nL ∧ lv_wf ls ∧ ∀ (i : Nat) (v : Value), lv[i]? = some (some v) → v.category = 1 ∧ ls[i]? = some (.val v)
def zAs (lv : List (Option Value)) : List (Nat × Value) := (List.range lv.length).filterMap (fun i => (lv[i]?).join.map (fun v => (i, v)))
theorem zAs_in {lv : List (Option Value)} {i : Nat} {v : Value} : (i, v) ∈ zAs lv ↔ lv[i]? = some (some v) := by
  unfold zAs
  rw [List.mem_filterMap]
  constructor
  · rintro ⟨j, hj, he⟩
    cases hl : lv[j]? with
    | none => rw [hl] at he; cases he
    | some o =>
      cases o with
      | none => rw [hl] at he; cases he
      | some x =>
        rw [hl] at he
        cases he
        exact hl
  · intro h
    refine ⟨i, List.mem_range.mpr (List.getElem?_eq_some_iff.mp h).1, ?_⟩
    rw [h]; rfl
theorem zL_has {ls : Array Slot} {nL : Nat} {lv : List (Option Value)} (h : zL ls nL lv) : lv_has ls nL (zAs lv) :=
  ⟨h.1, h.2.2.1, fun q hq => (h.2.2.2 q.1 q.2 (zAs_in.mp hq)).2⟩
theorem zL_set {ls ls' : Array Slot} {nL : Nat} {lv : List (Option Value)} {i : Nat} {v : Value} (h : zL ls nL lv) (hi : i < lv.length) (hc : v.category = 1)
    (h' : lv_has ls' nL ((i, v) :: (zAs lv).filter (fun q => !(q.1 == i) && !(q.1 + 1 == i && q.2.category == 2)))) : zL ls' nL (lv.set i (some v)) := by
  refine ⟨h'.1, by rw [List.length_set]; exact h.2.1, h'.2.1, fun j x hj => ?_⟩
  by_cases e : j = i
  · subst e
    rw [List.getElem?_set_self hi] at hj
    cases hj
    exact ⟨hc, h'.2.2 (j, v) List.mem_cons_self⟩
  · rw [List.getElem?_set_ne (fun q => e q.symm)] at hj
    have h1 := (h.2.2.2 j x hj).1
    refine ⟨h1, h'.2.2 (j, x) (List.mem_cons_of_mem _ (List.mem_filter.mpr ⟨zAs_in.mpr hj, ?_⟩))⟩
    simp [e, h1]
theorem zL_entry {vs : List Value} {n : Nat} (hv : ∀ v ∈ vs, v.category = 1) (hn : vs.length ≤ n) : zL ((vs.map Slot.val ++ List.replicate (n - vs.length) Slot.unset).toArray) n (vs.map some ++ List.replicate (n - vs.length) none) := by
  have key : ∀ (i : Nat) (x : Slot), ((vs.map Slot.val ++ List.replicate (n - vs.length) Slot.unset).toArray)[i]? = some x → (∃ v, vs[i]? = some v ∧ x = .val v) ∨ x = .unset := by
    intro i x hx
    rw [List.getElem?_toArray] at hx
    by_cases hi : i < vs.length
    · rw [List.getElem?_append_left (by simpa using hi), List.getElem?_map] at hx
      rw [List.getElem?_eq_getElem hi] at hx ⊢
      exact Or.inl ⟨_, rfl, (Option.some.inj hx).symm⟩
    · rw [List.getElem?_append_right (by simpa using Nat.not_lt.mp hi)] at hx
      have := List.mem_of_getElem? hx
      exact Or.inr (List.eq_of_mem_replicate this)
  refine ⟨by simp; omega, by simp; omega, ⟨fun i v hx h2 => ?_, fun i hx => ?_⟩, fun i v hx => ?_⟩
  · rcases key i _ hx with ⟨w, hw, e⟩ | e
    · cases e
      rw [hv _ (List.mem_of_getElem? hw)] at h2
      cases h2
    · cases e
  · rcases key i _ hx with ⟨w, -, e⟩ | e <;> cases e
  · by_cases hi : i < vs.length
    · rw [List.getElem?_append_left (by simpa using hi), List.getElem?_map, List.getElem?_eq_getElem hi] at hx
      have e : vs[i] = v := by simpa using hx
      refine ⟨hv _ (by rw [← e]; exact List.getElem_mem hi), ?_⟩
      rw [List.getElem?_toArray, List.getElem?_append_left (by simpa using hi), List.getElem?_map, List.getElem?_eq_getElem hi, e]
      rfl
    · rw [List.getElem?_append_right (by simpa using Nat.not_lt.mp hi)] at hx
      have := List.eq_of_mem_replicate (List.mem_of_getElem? hx)
      cases this
/-- the end of a method: its answer and the heap behind it -/
def zQ (G : zG) (ex : Bool) (mc : Nat) (Q : Option Value → zAH → Prop) : Array Value → State → Outcome → State → Prop := fun _ st o t =>
  (∃ (r : Option Value) (h : zAH), o = .returned r ∧ Q r h ∧ zHd G h t.heap ∧ (ex = true → st.heap.size + mc = zB G + h.1)) ∧ va_F (zA G) st t
def zPc (G : zG) (ex : Bool) (as : List Value) (h : zAH) : Array Value → State → Prop := va_Pc as (fun U => zHd G h U.heap ∧ zK G U ∧ (ex = true → U.heap.size = zB G + h.1))
/-- a method's contract: from the heap h, with the arguments as, it returns, and Q holds of its answer and the heap behind it -/
def zC (G : zG) (y : MethodName) (ws : List Cond) (rm : Room) (ex : Bool) (as : List Value) (h : zAH) (Q : Option Value → zAH → Prop) : Prop :=
  Met (zl G) y ws rm (zPc G ex as h) (zQ G ex rm.cells Q) rm.cells rm.slots (zA G)
/-- what is known within a method's body -/
def zX (G : zG) (M : zM) (p : Program) (s : State) (m : MethodId) (args : Array Value) (meth : Method) (c : Code) : Prop :=
  p.tables.exec = Jvm.exec ∧ c.code = zcc M ∧ c.maxLocals = znL M ∧ meth.sig.returnType = zret M ∧ s.vm.findClass (zown M) = some m.cls ∧ (∀ w ∈ zws M, w.before args s = true) ∧ meth.locks = false ∧ meth.name = znm M ∧ zK G s
/-- the method M stands at pc, with locals lv, operands st, heap h: it comes to its end, and Q holds there -/
def Z (G : zG) (M : zM) (rm : Room) (ex : Bool) (Q : Option Value → zAH → Prop) (pc : Nat) (lv : List (Option Value)) (st : List Value) (h : zAH) (cu su : Nat) : Prop :=
  ∀ (p : Program) (e : Env) (s : State) (m : MethodId) (args : Array Value) (below : List Frame) (meth : Method) (c : Code) (H : Heap) (locs : List Loc) (ls : Array Slot),
    zX G M p s m args meth c → (ex = true → s.heap.size + cu = zB G + h.1) → zL ls (znL M) lv → zHd G h H → va_S (zA G) s.heap H locs →
    W p (zl G) e rm s m args below meth c H locs cu su (MQ below (zQ G ex rm.cells Q) args s rm.cells rm.slots (zA G)) (F0 m pc ls st)
theorem zA_of {G : zG} {H0 : Heap} (h : zB G ≤ H0.size) : ∀ q, H0.size ≤ q → zA G q := fun q hq => Nat.le_trans h hq
/-- a contract out of a walk -/
theorem zC_of {G : zG} {y : MethodName} {ws ws' : List Cond} {cc : ByteArray} {nL : Nat} {ret : Option FieldType} {rm : Room} {ex : Bool} {as : List Value} {lv : List (Option Value)} {h : zAH} {Q : Option Value → zAH → Prop} (M : zM)
    (hw : ws = Cond.code y cc nL ret :: ws') (hM : (cc, nL, ret, y.cls, ws, y.name) = M) (hy : plainName y.cls = true) (hv : ∀ v ∈ as, v.category = 1) (hn : as.length ≤ nL) (hlv : as.map some ++ List.replicate (nL - as.length) none = lv)
    (K : Z G M rm ex Q 0 lv [] h 0 0) : zC G y ws rm ex as h Q := by
  subst hw
  subst hM
  subst hlv
  refine Met.ofW (cc := cc) (maxL := nL) (ret := ret) hy rfl ?_
  intro p e s m args below meth c s₁ B hml hvv
  obtain ⟨rfl, hH, hK, hex⟩ := hvv
  rw [entry_eq m as hv nL]
  exact K p e s m _ below meth c s.heap [] _ ⟨B.exec, B.bytes, hml, B.returns, findClass_of_methodNamed B.named, atoms_spec (ws := Cond.code y cc nL ret :: ws') B.pre, B.notSynchronized, (name_of_methodNamed B.named B.method).1, hK⟩
    (fun h1 => by rw [hex h1]; rfl) (zL_entry hv hn) hH va_S.rf
section ZR
variable {G : zG} {M : zM} {rm : Room} {ex : Bool} {Q : Option Value → zAH → Prop} {pc n : Nat} {lv : List (Option Value)} {st : List Value} {h : zAH} {cu su : Nat}

theorem z_iconst {v : Int32} {j : Int} (hd : decode (zcc M) pc = .ok (.iconst j, 1)) (hn : pc + 1 = n) (hv : Int32.ofInt j = v) (K : Z G M rm ex Q n lv (.int v :: st) h cu su) : Z G M rm ex Q pc lv (st) h cu su := by
  subst hn
  intro p e s m args below meth c H locs ls X hz hL hP hS
  exact lv_iconst X.1 X.2.1 hd hv (K p e s m args below meth c H locs ls X hz hL hP hS)
theorem z_bipush {v : Int32} {j : Int} (hd : decode (zcc M) pc = .ok (.bipush j, 2)) (hn : pc + 2 = n) (hv : (Int8.ofInt j).toInt32 = v) (K : Z G M rm ex Q n lv (.int v :: st) h cu su) : Z G M rm ex Q pc lv (st) h cu su := by
  subst hn
  intro p e s m args below meth c H locs ls X hz hL hP hS
  exact lv_bipush X.1 X.2.1 hd hv (K p e s m args below meth c H locs ls X hz hL hP hS)
theorem z_sipush {v : Int32} {j : Int} (hd : decode (zcc M) pc = .ok (.sipush j, 3)) (hn : pc + 3 = n) (hv : (Int16.ofInt j).toInt32 = v) (K : Z G M rm ex Q n lv (.int v :: st) h cu su) : Z G M rm ex Q pc lv (st) h cu su := by
  subst hn
  intro p e s m args below meth c H locs ls X hz hL hP hS
  exact lv_sipush X.1 X.2.1 hd hv (K p e s m args below meth c H locs ls X hz hL hP hS)
theorem z_iload_n {k : Fin 4} {x : Int32} (hd : decode (zcc M) pc = .ok (.iload_n k, 1)) (hn : pc + 1 = n) (hl : lv[k.val]? = some (some (.int x))) (K : Z G M rm ex Q n lv (.int x :: st) h cu su) : Z G M rm ex Q pc lv (st) h cu su := by
  subst hn
  intro p e s m args below meth c H locs ls X hz hL hP hS
  exact lv_iload_n X.1 X.2.1 hd rfl (hL.2.2.2 _ _ hl).2 (K p e s m args below meth c H locs ls X hz hL hP hS)
theorem z_iload {k : Nat} {x : Int32} (hd : decode (zcc M) pc = .ok (.iload k, 2)) (hn : pc + 2 = n) (hl : lv[k]? = some (some (.int x))) (K : Z G M rm ex Q n lv (.int x :: st) h cu su) : Z G M rm ex Q pc lv (st) h cu su := by
  subst hn
  intro p e s m args below meth c H locs ls X hz hL hP hS
  exact lv_iload X.1 X.2.1 hd (hL.2.2.2 _ _ hl).2 (K p e s m args below meth c H locs ls X hz hL hP hS)
theorem z_aload_n {k : Fin 4} {x : Nat} (hd : decode (zcc M) pc = .ok (.aload_n k, 1)) (hn : pc + 1 = n) (hl : lv[k.val]? = some (some (.ref x))) (K : Z G M rm ex Q n lv (.ref x :: st) h cu su) : Z G M rm ex Q pc lv (st) h cu su := by
  subst hn
  intro p e s m args below meth c H locs ls X hz hL hP hS
  exact lv_aload_n X.1 X.2.1 hd rfl (hL.2.2.2 _ _ hl).2 (K p e s m args below meth c H locs ls X hz hL hP hS)
theorem z_aload {k : Nat} {x : Nat} (hd : decode (zcc M) pc = .ok (.aload k, 2)) (hn : pc + 2 = n) (hl : lv[k]? = some (some (.ref x))) (K : Z G M rm ex Q n lv (.ref x :: st) h cu su) : Z G M rm ex Q pc lv (st) h cu su := by
  subst hn
  intro p e s m args below meth c H locs ls X hz hL hP hS
  exact lv_aload X.1 X.2.1 hd (hL.2.2.2 _ _ hl).2 (K p e s m args below meth c H locs ls X hz hL hP hS)
theorem z_iadd {x y : Int32} (hd : decode (zcc M) pc = .ok (.iadd, 1)) (hn : pc + 1 = n) (K : Z G M rm ex Q n lv (.int (x + y) :: st) h cu su) : Z G M rm ex Q pc lv (.int y :: .int x :: st) h cu su := by
  subst hn
  intro p e s m args below meth c H locs ls X hz hL hP hS
  exact lv_iadd X.1 X.2.1 hd (K p e s m args below meth c H locs ls X hz hL hP hS)
theorem z_isub {x y : Int32} (hd : decode (zcc M) pc = .ok (.isub, 1)) (hn : pc + 1 = n) (K : Z G M rm ex Q n lv (.int (x - y) :: st) h cu su) : Z G M rm ex Q pc lv (.int y :: .int x :: st) h cu su := by
  subst hn
  intro p e s m args below meth c H locs ls X hz hL hP hS
  exact lv_isub X.1 X.2.1 hd (K p e s m args below meth c H locs ls X hz hL hP hS)
theorem z_imul {x y : Int32} (hd : decode (zcc M) pc = .ok (.imul, 1)) (hn : pc + 1 = n) (K : Z G M rm ex Q n lv (.int (x * y) :: st) h cu su) : Z G M rm ex Q pc lv (.int y :: .int x :: st) h cu su := by
  subst hn
  intro p e s m args below meth c H locs ls X hz hL hP hS
  exact lv_imul X.1 X.2.1 hd (K p e s m args below meth c H locs ls X hz hL hP hS)
theorem z_iand {x y : Int32} (hd : decode (zcc M) pc = .ok (.iand, 1)) (hn : pc + 1 = n) (K : Z G M rm ex Q n lv (.int (x &&& y) :: st) h cu su) : Z G M rm ex Q pc lv (.int y :: .int x :: st) h cu su := by
  subst hn
  intro p e s m args below meth c H locs ls X hz hL hP hS
  exact lv_iand X.1 X.2.1 hd (K p e s m args below meth c H locs ls X hz hL hP hS)
theorem z_ior {x y : Int32} (hd : decode (zcc M) pc = .ok (.ior, 1)) (hn : pc + 1 = n) (K : Z G M rm ex Q n lv (.int (x ||| y) :: st) h cu su) : Z G M rm ex Q pc lv (.int y :: .int x :: st) h cu su := by
  subst hn
  intro p e s m args below meth c H locs ls X hz hL hP hS
  exact lv_ior X.1 X.2.1 hd (K p e s m args below meth c H locs ls X hz hL hP hS)
theorem z_ixor {x y : Int32} (hd : decode (zcc M) pc = .ok (.ixor, 1)) (hn : pc + 1 = n) (K : Z G M rm ex Q n lv (.int (x ^^^ y) :: st) h cu su) : Z G M rm ex Q pc lv (.int y :: .int x :: st) h cu su := by
  subst hn
  intro p e s m args below meth c H locs ls X hz hL hP hS
  exact lv_ixor X.1 X.2.1 hd (K p e s m args below meth c H locs ls X hz hL hP hS)
theorem z_ishl {x y : Int32} (hd : decode (zcc M) pc = .ok (.ishl, 1)) (hn : pc + 1 = n) (K : Z G M rm ex Q n lv (.int (x <<< (y &&& 31)) :: st) h cu su) : Z G M rm ex Q pc lv (.int y :: .int x :: st) h cu su := by
  subst hn
  intro p e s m args below meth c H locs ls X hz hL hP hS
  exact lv_ishl X.1 X.2.1 hd (K p e s m args below meth c H locs ls X hz hL hP hS)
theorem z_ishr {x y : Int32} (hd : decode (zcc M) pc = .ok (.ishr, 1)) (hn : pc + 1 = n) (K : Z G M rm ex Q n lv (.int (x >>> (y &&& 31)) :: st) h cu su) : Z G M rm ex Q pc lv (.int y :: .int x :: st) h cu su := by
  subst hn
  intro p e s m args below meth c H locs ls X hz hL hP hS
  exact lv_ishr X.1 X.2.1 hd (K p e s m args below meth c H locs ls X hz hL hP hS)
theorem z_iushr {x y : Int32} (hd : decode (zcc M) pc = .ok (.iushr, 1)) (hn : pc + 1 = n) (K : Z G M rm ex Q n lv (.int ((x.toUInt32 >>> (y.toUInt32 &&& Int32.toUInt32 31)).toInt32) :: st) h cu su) : Z G M rm ex Q pc lv (.int y :: .int x :: st) h cu su := by
  subst hn
  intro p e s m args below meth c H locs ls X hz hL hP hS
  exact lv_iushr X.1 X.2.1 hd rfl (K p e s m args below meth c H locs ls X hz hL hP hS)
theorem z_ineg {x : Int32} (hd : decode (zcc M) pc = .ok (.ineg, 1)) (hn : pc + 1 = n) (K : Z G M rm ex Q n lv (.int (-x) :: st) h cu su) : Z G M rm ex Q pc lv (.int x :: st) h cu su := by
  subst hn
  intro p e s m args below meth c H locs ls X hz hL hP hS
  exact lv_ineg X.1 X.2.1 hd (K p e s m args below meth c H locs ls X hz hL hP hS)
theorem z_idiv {x y : Int32} (hd : decode (zcc M) pc = .ok (.idiv, 1)) (hn : pc + 1 = n) (hne : ¬ y = 0) (K : Z G M rm ex Q n lv (.int (x / y) :: st) h cu su) : Z G M rm ex Q pc lv (.int y :: .int x :: st) h cu su := by
  subst hn
  intro p e s m args below meth c H locs ls X hz hL hP hS
  exact lv_idiv X.1 X.2.1 hd hne (K p e s m args below meth c H locs ls X hz hL hP hS)
theorem z_irem {x y : Int32} (hd : decode (zcc M) pc = .ok (.irem, 1)) (hn : pc + 1 = n) (hne : ¬ y = 0) (K : Z G M rm ex Q n lv (.int (x - x / y * y) :: st) h cu su) : Z G M rm ex Q pc lv (.int y :: .int x :: st) h cu su := by
  subst hn
  intro p e s m args below meth c H locs ls X hz hL hP hS
  exact lv_irem X.1 X.2.1 hd hne (K p e s m args below meth c H locs ls X hz hL hP hS)
theorem z_dup {v : Value} (hd : decode (zcc M) pc = .ok (.dup, 1)) (hn : pc + 1 = n) (hv : v.category = 1) (K : Z G M rm ex Q n lv (v :: v :: st) h cu su) : Z G M rm ex Q pc lv (v :: st) h cu su := by
  subst hn
  intro p e s m args below meth c H locs ls X hz hL hP hS
  exact lv_dup X.1 X.2.1 hd hv (K p e s m args below meth c H locs ls X hz hL hP hS)
theorem z_dup2 {v u : Value} (hd : decode (zcc M) pc = .ok (.dup2, 1)) (hn : pc + 1 = n) (hv : v.category = 1) (hu : u.category = 1) (K : Z G M rm ex Q n lv (v :: u :: v :: u :: st) h cu su) : Z G M rm ex Q pc lv (v :: u :: st) h cu su := by
  subst hn
  intro p e s m args below meth c H locs ls X hz hL hP hS
  exact lv_dup2_11 X.1 X.2.1 hd hv hu (K p e s m args below meth c H locs ls X hz hL hP hS)
theorem z_i2l {x : Int32} (hd : decode (zcc M) pc = .ok (.i2l, 1)) (hn : pc + 1 = n) (K : Z G M rm ex Q n lv (.long x.toInt64 :: st) h cu su) : Z G M rm ex Q pc lv (.int x :: st) h cu su := by
  subst hn
  intro p e s m args below meth c H locs ls X hz hL hP hS
  exact lv_i2l X.1 X.2.1 hd rfl (K p e s m args below meth c H locs ls X hz hL hP hS)
theorem z_lconst {v : Int64} {j : Fin 2} (hd : decode (zcc M) pc = .ok (.lconst j, 1)) (hn : pc + 1 = n) (hv : Int64.ofNat (j : Nat) = v) (K : Z G M rm ex Q n lv (.long v :: st) h cu su) : Z G M rm ex Q pc lv (st) h cu su := by
  subst hn
  intro p e s m args below meth c H locs ls X hz hL hP hS
  exact lv_lconst X.1 X.2.1 hd hv (K p e s m args below meth c H locs ls X hz hL hP hS)
theorem z_lsub {x y : Int64} (hd : decode (zcc M) pc = .ok (.lsub, 1)) (hn : pc + 1 = n) (K : Z G M rm ex Q n lv (.long (x - y) :: st) h cu su) : Z G M rm ex Q pc lv (.long y :: .long x :: st) h cu su := by
  subst hn
  intro p e s m args below meth c H locs ls X hz hL hP hS
  exact lv_lsub X.1 X.2.1 hd (K p e s m args below meth c H locs ls X hz hL hP hS)
theorem z_lmul {x y : Int64} (hd : decode (zcc M) pc = .ok (.lmul, 1)) (hn : pc + 1 = n) (K : Z G M rm ex Q n lv (.long (x * y) :: st) h cu su) : Z G M rm ex Q pc lv (.long y :: .long x :: st) h cu su := by
  subst hn
  intro p e s m args below meth c H locs ls X hz hL hP hS
  exact lv_lmul X.1 X.2.1 hd (K p e s m args below meth c H locs ls X hz hL hP hS)
theorem z_lrem {x y : Int64} (hd : decode (zcc M) pc = .ok (.lrem, 1)) (hn : pc + 1 = n) (hne : ¬ y = 0) (K : Z G M rm ex Q n lv (.long (x - x / y * y) :: st) h cu su) : Z G M rm ex Q pc lv (.long y :: .long x :: st) h cu su := by
  subst hn
  intro p e s m args below meth c H locs ls X hz hL hP hS
  exact lv_lrem X.1 X.2.1 hd hne (K p e s m args below meth c H locs ls X hz hL hP hS)
theorem z_if_eq {x : Int32} {off : Int} {tgt : Nat} (hd : decode (zcc M) pc = .ok (.ifCond .eq off, 3)) (hn : pc + 3 = n) (ht : (pc : Int) + off = (tgt : Int)) (kt : x = 0 → Z G M rm ex Q tgt lv st h cu su) (kf : ¬ x = 0 → Z G M rm ex Q n lv st h cu su) : Z G M rm ex Q pc lv (.int x :: st) h cu su := by
  subst hn
  intro p e s m args below meth c H locs ls X hz hL hP hS
  exact lv_if_eq X.1 X.2.1 hd ht (fun q => kt q p e s m args below meth c H locs ls X hz hL hP hS) (fun q => kf q p e s m args below meth c H locs ls X hz hL hP hS)
theorem z_icmp_eq {x y : Int32} {off : Int} {tgt : Nat} (hd : decode (zcc M) pc = .ok (.if_icmp .eq off, 3)) (hn : pc + 3 = n) (ht : (pc : Int) + off = (tgt : Int)) (kt : x = y → Z G M rm ex Q tgt lv st h cu su) (kf : ¬ x = y → Z G M rm ex Q n lv st h cu su) : Z G M rm ex Q pc lv (.int y :: .int x :: st) h cu su := by
  subst hn
  intro p e s m args below meth c H locs ls X hz hL hP hS
  exact lv_icmp_eq X.1 X.2.1 hd ht (fun q => kt q p e s m args below meth c H locs ls X hz hL hP hS) (fun q => kf q p e s m args below meth c H locs ls X hz hL hP hS)
theorem z_if_ne {x : Int32} {off : Int} {tgt : Nat} (hd : decode (zcc M) pc = .ok (.ifCond .ne off, 3)) (hn : pc + 3 = n) (ht : (pc : Int) + off = (tgt : Int)) (kt : ¬ x = 0 → Z G M rm ex Q tgt lv st h cu su) (kf : x = 0 → Z G M rm ex Q n lv st h cu su) : Z G M rm ex Q pc lv (.int x :: st) h cu su := by
  subst hn
  intro p e s m args below meth c H locs ls X hz hL hP hS
  exact lv_if_ne X.1 X.2.1 hd ht (fun q => kt q p e s m args below meth c H locs ls X hz hL hP hS) (fun q => kf q p e s m args below meth c H locs ls X hz hL hP hS)
theorem z_icmp_ne {x y : Int32} {off : Int} {tgt : Nat} (hd : decode (zcc M) pc = .ok (.if_icmp .ne off, 3)) (hn : pc + 3 = n) (ht : (pc : Int) + off = (tgt : Int)) (kt : ¬ x = y → Z G M rm ex Q tgt lv st h cu su) (kf : x = y → Z G M rm ex Q n lv st h cu su) : Z G M rm ex Q pc lv (.int y :: .int x :: st) h cu su := by
  subst hn
  intro p e s m args below meth c H locs ls X hz hL hP hS
  exact lv_icmp_ne X.1 X.2.1 hd ht (fun q => kt q p e s m args below meth c H locs ls X hz hL hP hS) (fun q => kf q p e s m args below meth c H locs ls X hz hL hP hS)
theorem z_if_lt {x : Int32} {off : Int} {tgt : Nat} (hd : decode (zcc M) pc = .ok (.ifCond .lt off, 3)) (hn : pc + 3 = n) (ht : (pc : Int) + off = (tgt : Int)) (kt : x < 0 → Z G M rm ex Q tgt lv st h cu su) (kf : ¬ x < 0 → Z G M rm ex Q n lv st h cu su) : Z G M rm ex Q pc lv (.int x :: st) h cu su := by
  subst hn
  intro p e s m args below meth c H locs ls X hz hL hP hS
  exact lv_if_lt X.1 X.2.1 hd ht (fun q => kt q p e s m args below meth c H locs ls X hz hL hP hS) (fun q => kf q p e s m args below meth c H locs ls X hz hL hP hS)
theorem z_icmp_lt {x y : Int32} {off : Int} {tgt : Nat} (hd : decode (zcc M) pc = .ok (.if_icmp .lt off, 3)) (hn : pc + 3 = n) (ht : (pc : Int) + off = (tgt : Int)) (kt : x < y → Z G M rm ex Q tgt lv st h cu su) (kf : ¬ x < y → Z G M rm ex Q n lv st h cu su) : Z G M rm ex Q pc lv (.int y :: .int x :: st) h cu su := by
  subst hn
  intro p e s m args below meth c H locs ls X hz hL hP hS
  exact lv_icmp_lt X.1 X.2.1 hd ht (fun q => kt q p e s m args below meth c H locs ls X hz hL hP hS) (fun q => kf q p e s m args below meth c H locs ls X hz hL hP hS)
theorem z_if_ge {x : Int32} {off : Int} {tgt : Nat} (hd : decode (zcc M) pc = .ok (.ifCond .ge off, 3)) (hn : pc + 3 = n) (ht : (pc : Int) + off = (tgt : Int)) (kt : 0 ≤ x → Z G M rm ex Q tgt lv st h cu su) (kf : ¬ 0 ≤ x → Z G M rm ex Q n lv st h cu su) : Z G M rm ex Q pc lv (.int x :: st) h cu su := by
  subst hn
  intro p e s m args below meth c H locs ls X hz hL hP hS
  exact lv_if_ge X.1 X.2.1 hd ht (fun q => kt q p e s m args below meth c H locs ls X hz hL hP hS) (fun q => kf q p e s m args below meth c H locs ls X hz hL hP hS)
theorem z_icmp_ge {x y : Int32} {off : Int} {tgt : Nat} (hd : decode (zcc M) pc = .ok (.if_icmp .ge off, 3)) (hn : pc + 3 = n) (ht : (pc : Int) + off = (tgt : Int)) (kt : y ≤ x → Z G M rm ex Q tgt lv st h cu su) (kf : ¬ y ≤ x → Z G M rm ex Q n lv st h cu su) : Z G M rm ex Q pc lv (.int y :: .int x :: st) h cu su := by
  subst hn
  intro p e s m args below meth c H locs ls X hz hL hP hS
  exact lv_icmp_ge X.1 X.2.1 hd ht (fun q => kt q p e s m args below meth c H locs ls X hz hL hP hS) (fun q => kf q p e s m args below meth c H locs ls X hz hL hP hS)
theorem z_if_gt {x : Int32} {off : Int} {tgt : Nat} (hd : decode (zcc M) pc = .ok (.ifCond .gt off, 3)) (hn : pc + 3 = n) (ht : (pc : Int) + off = (tgt : Int)) (kt : 0 < x → Z G M rm ex Q tgt lv st h cu su) (kf : ¬ 0 < x → Z G M rm ex Q n lv st h cu su) : Z G M rm ex Q pc lv (.int x :: st) h cu su := by
  subst hn
  intro p e s m args below meth c H locs ls X hz hL hP hS
  exact lv_if_gt X.1 X.2.1 hd ht (fun q => kt q p e s m args below meth c H locs ls X hz hL hP hS) (fun q => kf q p e s m args below meth c H locs ls X hz hL hP hS)
theorem z_icmp_gt {x y : Int32} {off : Int} {tgt : Nat} (hd : decode (zcc M) pc = .ok (.if_icmp .gt off, 3)) (hn : pc + 3 = n) (ht : (pc : Int) + off = (tgt : Int)) (kt : y < x → Z G M rm ex Q tgt lv st h cu su) (kf : ¬ y < x → Z G M rm ex Q n lv st h cu su) : Z G M rm ex Q pc lv (.int y :: .int x :: st) h cu su := by
  subst hn
  intro p e s m args below meth c H locs ls X hz hL hP hS
  exact lv_icmp_gt X.1 X.2.1 hd ht (fun q => kt q p e s m args below meth c H locs ls X hz hL hP hS) (fun q => kf q p e s m args below meth c H locs ls X hz hL hP hS)
theorem z_if_le {x : Int32} {off : Int} {tgt : Nat} (hd : decode (zcc M) pc = .ok (.ifCond .le off, 3)) (hn : pc + 3 = n) (ht : (pc : Int) + off = (tgt : Int)) (kt : x ≤ 0 → Z G M rm ex Q tgt lv st h cu su) (kf : ¬ x ≤ 0 → Z G M rm ex Q n lv st h cu su) : Z G M rm ex Q pc lv (.int x :: st) h cu su := by
  subst hn
  intro p e s m args below meth c H locs ls X hz hL hP hS
  exact lv_if_le X.1 X.2.1 hd ht (fun q => kt q p e s m args below meth c H locs ls X hz hL hP hS) (fun q => kf q p e s m args below meth c H locs ls X hz hL hP hS)
theorem z_icmp_le {x y : Int32} {off : Int} {tgt : Nat} (hd : decode (zcc M) pc = .ok (.if_icmp .le off, 3)) (hn : pc + 3 = n) (ht : (pc : Int) + off = (tgt : Int)) (kt : x ≤ y → Z G M rm ex Q tgt lv st h cu su) (kf : ¬ x ≤ y → Z G M rm ex Q n lv st h cu su) : Z G M rm ex Q pc lv (.int y :: .int x :: st) h cu su := by
  subst hn
  intro p e s m args below meth c H locs ls X hz hL hP hS
  exact lv_icmp_le X.1 X.2.1 hd ht (fun q => kt q p e s m args below meth c H locs ls X hz hL hP hS) (fun q => kf q p e s m args below meth c H locs ls X hz hL hP hS)
theorem z_goto {off : Int} {tgt : Nat} (hd : decode (zcc M) pc = .ok (.goto off, 3)) (ht : (pc : Int) + off = (tgt : Int)) (K : Z G M rm ex Q tgt lv st h cu su) : Z G M rm ex Q pc lv st h cu su := by
  intro p e s m args below meth c H locs ls X hz hL hP hS
  exact lv_goto X.1 X.2.1 hd ht (K p e s m args below meth c H locs ls X hz hL hP hS)
/-- a number gets a name -/
theorem z_topi {x : Int32} (K : ∀ y : Int32, y = x → Z G M rm ex Q pc lv (.int y :: st) h cu su) : Z G M rm ex Q pc lv (.int x :: st) h cu su := K x rfl
theorem z_eq {lv' : List (Option Value)} {st' : List Value} {h' : zAH} (e1 : lv' = lv) (e2 : st' = st) (e3 : h' = h) (K : Z G M rm ex Q pc lv' st' h' cu su) : Z G M rm ex Q pc lv st h cu su := by subst e1; subst e2; subst e3; exact K
theorem z_istore_n0 {k : Fin 4} {x : Int32} (hd : decode (zcc M) pc = .ok (.istore_n k, 1)) (hn : pc + 1 = n) (hi : k.val < lv.length) (K : Z G M rm ex Q n (lv.set k.val (some (.int x))) st h cu su) : Z G M rm ex Q pc lv (.int x :: st) h cu su := by
  subst hn
  intro p e s m args below meth c H locs ls X hz hL hP hS
  exact lv_istore_n X.1 X.2.1 hd rfl (zL_has hL) (by rw [← hL.2.1]; exact hi) rfl (fun ls' h' => K p e s m args below meth c H locs ls' X hz (zL_set hL hi rfl h') hP hS)
theorem z_istore0 {k : Nat} {x : Int32} (hd : decode (zcc M) pc = .ok (.istore k, 2)) (hn : pc + 2 = n) (hi : k < lv.length) (K : Z G M rm ex Q n (lv.set k (some (.int x))) st h cu su) : Z G M rm ex Q pc lv (.int x :: st) h cu su := by
  subst hn
  intro p e s m args below meth c H locs ls X hz hL hP hS
  exact lv_istore X.1 X.2.1 hd (zL_has hL) (by rw [← hL.2.1]; exact hi) rfl (fun ls' h' => K p e s m args below meth c H locs ls' X hz (zL_set hL hi rfl h') hP hS)
theorem z_astore_n0 {k : Fin 4} {x : Nat} (hd : decode (zcc M) pc = .ok (.astore_n k, 1)) (hn : pc + 1 = n) (hi : k.val < lv.length) (K : Z G M rm ex Q n (lv.set k.val (some (.ref x))) st h cu su) : Z G M rm ex Q pc lv (.ref x :: st) h cu su := by
  subst hn
  intro p e s m args below meth c H locs ls X hz hL hP hS
  exact lv_astore_n X.1 X.2.1 hd rfl (zL_has hL) (by rw [← hL.2.1]; exact hi) rfl (fun ls' h' => K p e s m args below meth c H locs ls' X hz (zL_set hL hi rfl h') hP hS)
theorem z_astore0 {k : Nat} {x : Nat} (hd : decode (zcc M) pc = .ok (.astore k, 2)) (hn : pc + 2 = n) (hi : k < lv.length) (K : Z G M rm ex Q n (lv.set k (some (.ref x))) st h cu su) : Z G M rm ex Q pc lv (.ref x :: st) h cu su := by
  subst hn
  intro p e s m args below meth c H locs ls X hz hL hP hS
  exact lv_astore X.1 X.2.1 hd (zL_has hL) (by rw [← hL.2.1]; exact hi) rfl (fun ls' h' => K p e s m args below meth c H locs ls' X hz (zL_set hL hi rfl h') hP hS)
theorem z_iinc0 {k : Nat} {j : Int} {x : Int32} (hd : decode (zcc M) pc = .ok (.iinc k j, 3)) (hn : pc + 3 = n) (hl : lv[k]? = some (some (.int x))) (hi : k < lv.length) (K : Z G M rm ex Q n (lv.set k (some (.int (x + Int32.ofInt j)))) st h cu su) : Z G M rm ex Q pc lv st h cu su := by
  subst hn
  intro p e s m args below meth c H locs ls X hz hL hP hS
  obtain ⟨i, hi9⟩ := List.getElem?_of_mem (zAs_in.mpr hl)
  exact lv_iinc X.1 X.2.1 hd (zL_has hL) hi9 rfl (by rw [← hL.2.1]; exact hi) rfl (fun ls' h' => K p e s m args below meth c H locs ls' X hz (zL_set hL hi rfl h') hP hS)
theorem z_istore_0 {a0 : Option Value} {r : List (Option Value)} {x : Int32} (hd : decode (zcc M) pc = .ok (.istore_n 0, 1)) (hn : pc + 1 = n) (K : Z G M rm ex Q n (some (.int x) :: r) st h cu su) : Z G M rm ex Q pc (a0 :: r) (.int x :: st) h cu su := z_istore_n0 hd hn (by show 0 < ((a0 :: r) : List (Option Value)).length; simp) K
theorem z_astore_0 {a0 : Option Value} {r : List (Option Value)} {x : Nat} (hd : decode (zcc M) pc = .ok (.astore_n 0, 1)) (hn : pc + 1 = n) (K : Z G M rm ex Q n (some (.ref x) :: r) st h cu su) : Z G M rm ex Q pc (a0 :: r) (.ref x :: st) h cu su := z_astore_n0 hd hn (by show 0 < ((a0 :: r) : List (Option Value)).length; simp) K
theorem z_iinc_0 {r : List (Option Value)} {j : Int} {x v : Int32} (hd : decode (zcc M) pc = .ok (.iinc 0 j, 3)) (hn : pc + 3 = n) (hj : x + Int32.ofInt j = v) (K : Z G M rm ex Q n (some (.int v) :: r) st h cu su) : Z G M rm ex Q pc (some (.int x) :: r) st h cu su := by
  subst hj
  exact z_iinc0 hd hn rfl (by simp) K
theorem z_istore_1 {a0 a1 : Option Value} {r : List (Option Value)} {x : Int32} (hd : decode (zcc M) pc = .ok (.istore_n 1, 1)) (hn : pc + 1 = n) (K : Z G M rm ex Q n (a0 :: some (.int x) :: r) st h cu su) : Z G M rm ex Q pc (a0 :: a1 :: r) (.int x :: st) h cu su := z_istore_n0 hd hn (by show 1 < ((a0 :: a1 :: r) : List (Option Value)).length; simp) K
theorem z_astore_1 {a0 a1 : Option Value} {r : List (Option Value)} {x : Nat} (hd : decode (zcc M) pc = .ok (.astore_n 1, 1)) (hn : pc + 1 = n) (K : Z G M rm ex Q n (a0 :: some (.ref x) :: r) st h cu su) : Z G M rm ex Q pc (a0 :: a1 :: r) (.ref x :: st) h cu su := z_astore_n0 hd hn (by show 1 < ((a0 :: a1 :: r) : List (Option Value)).length; simp) K
theorem z_iinc_1 {a0 : Option Value} {r : List (Option Value)} {j : Int} {x v : Int32} (hd : decode (zcc M) pc = .ok (.iinc 1 j, 3)) (hn : pc + 3 = n) (hj : x + Int32.ofInt j = v) (K : Z G M rm ex Q n (a0 :: some (.int v) :: r) st h cu su) : Z G M rm ex Q pc (a0 :: some (.int x) :: r) st h cu su := by
  subst hj
  exact z_iinc0 hd hn rfl (by simp) K
theorem z_istore_2 {a0 a1 a2 : Option Value} {r : List (Option Value)} {x : Int32} (hd : decode (zcc M) pc = .ok (.istore_n 2, 1)) (hn : pc + 1 = n) (K : Z G M rm ex Q n (a0 :: a1 :: some (.int x) :: r) st h cu su) : Z G M rm ex Q pc (a0 :: a1 :: a2 :: r) (.int x :: st) h cu su := z_istore_n0 hd hn (by show 2 < ((a0 :: a1 :: a2 :: r) : List (Option Value)).length; simp) K
theorem z_astore_2 {a0 a1 a2 : Option Value} {r : List (Option Value)} {x : Nat} (hd : decode (zcc M) pc = .ok (.astore_n 2, 1)) (hn : pc + 1 = n) (K : Z G M rm ex Q n (a0 :: a1 :: some (.ref x) :: r) st h cu su) : Z G M rm ex Q pc (a0 :: a1 :: a2 :: r) (.ref x :: st) h cu su := z_astore_n0 hd hn (by show 2 < ((a0 :: a1 :: a2 :: r) : List (Option Value)).length; simp) K
theorem z_iinc_2 {a0 a1 : Option Value} {r : List (Option Value)} {j : Int} {x v : Int32} (hd : decode (zcc M) pc = .ok (.iinc 2 j, 3)) (hn : pc + 3 = n) (hj : x + Int32.ofInt j = v) (K : Z G M rm ex Q n (a0 :: a1 :: some (.int v) :: r) st h cu su) : Z G M rm ex Q pc (a0 :: a1 :: some (.int x) :: r) st h cu su := by
  subst hj
  exact z_iinc0 hd hn rfl (by simp) K
theorem z_istore_3 {a0 a1 a2 a3 : Option Value} {r : List (Option Value)} {x : Int32} (hd : decode (zcc M) pc = .ok (.istore_n 3, 1)) (hn : pc + 1 = n) (K : Z G M rm ex Q n (a0 :: a1 :: a2 :: some (.int x) :: r) st h cu su) : Z G M rm ex Q pc (a0 :: a1 :: a2 :: a3 :: r) (.int x :: st) h cu su := z_istore_n0 hd hn (by show 3 < ((a0 :: a1 :: a2 :: a3 :: r) : List (Option Value)).length; simp) K
theorem z_astore_3 {a0 a1 a2 a3 : Option Value} {r : List (Option Value)} {x : Nat} (hd : decode (zcc M) pc = .ok (.astore_n 3, 1)) (hn : pc + 1 = n) (K : Z G M rm ex Q n (a0 :: a1 :: a2 :: some (.ref x) :: r) st h cu su) : Z G M rm ex Q pc (a0 :: a1 :: a2 :: a3 :: r) (.ref x :: st) h cu su := z_astore_n0 hd hn (by show 3 < ((a0 :: a1 :: a2 :: a3 :: r) : List (Option Value)).length; simp) K
theorem z_iinc_3 {a0 a1 a2 : Option Value} {r : List (Option Value)} {j : Int} {x v : Int32} (hd : decode (zcc M) pc = .ok (.iinc 3 j, 3)) (hn : pc + 3 = n) (hj : x + Int32.ofInt j = v) (K : Z G M rm ex Q n (a0 :: a1 :: a2 :: some (.int v) :: r) st h cu su) : Z G M rm ex Q pc (a0 :: a1 :: a2 :: some (.int x) :: r) st h cu su := by
  subst hj
  exact z_iinc0 hd hn rfl (by simp) K
theorem z_istore_4 {a0 a1 a2 a3 a4 : Option Value} {r : List (Option Value)} {x : Int32} (hd : decode (zcc M) pc = .ok (.istore 4, 2)) (hn : pc + 2 = n) (K : Z G M rm ex Q n (a0 :: a1 :: a2 :: a3 :: some (.int x) :: r) st h cu su) : Z G M rm ex Q pc (a0 :: a1 :: a2 :: a3 :: a4 :: r) (.int x :: st) h cu su := z_istore0 hd hn (by simp) K
theorem z_astore_4 {a0 a1 a2 a3 a4 : Option Value} {r : List (Option Value)} {x : Nat} (hd : decode (zcc M) pc = .ok (.astore 4, 2)) (hn : pc + 2 = n) (K : Z G M rm ex Q n (a0 :: a1 :: a2 :: a3 :: some (.ref x) :: r) st h cu su) : Z G M rm ex Q pc (a0 :: a1 :: a2 :: a3 :: a4 :: r) (.ref x :: st) h cu su := z_astore0 hd hn (by simp) K
theorem z_iinc_4 {a0 a1 a2 a3 : Option Value} {r : List (Option Value)} {j : Int} {x v : Int32} (hd : decode (zcc M) pc = .ok (.iinc 4 j, 3)) (hn : pc + 3 = n) (hj : x + Int32.ofInt j = v) (K : Z G M rm ex Q n (a0 :: a1 :: a2 :: a3 :: some (.int v) :: r) st h cu su) : Z G M rm ex Q pc (a0 :: a1 :: a2 :: a3 :: some (.int x) :: r) st h cu su := by
  subst hj
  exact z_iinc0 hd hn rfl (by simp) K
theorem z_istore_5 {a0 a1 a2 a3 a4 a5 : Option Value} {r : List (Option Value)} {x : Int32} (hd : decode (zcc M) pc = .ok (.istore 5, 2)) (hn : pc + 2 = n) (K : Z G M rm ex Q n (a0 :: a1 :: a2 :: a3 :: a4 :: some (.int x) :: r) st h cu su) : Z G M rm ex Q pc (a0 :: a1 :: a2 :: a3 :: a4 :: a5 :: r) (.int x :: st) h cu su := z_istore0 hd hn (by simp) K
theorem z_astore_5 {a0 a1 a2 a3 a4 a5 : Option Value} {r : List (Option Value)} {x : Nat} (hd : decode (zcc M) pc = .ok (.astore 5, 2)) (hn : pc + 2 = n) (K : Z G M rm ex Q n (a0 :: a1 :: a2 :: a3 :: a4 :: some (.ref x) :: r) st h cu su) : Z G M rm ex Q pc (a0 :: a1 :: a2 :: a3 :: a4 :: a5 :: r) (.ref x :: st) h cu su := z_astore0 hd hn (by simp) K
theorem z_iinc_5 {a0 a1 a2 a3 a4 : Option Value} {r : List (Option Value)} {j : Int} {x v : Int32} (hd : decode (zcc M) pc = .ok (.iinc 5 j, 3)) (hn : pc + 3 = n) (hj : x + Int32.ofInt j = v) (K : Z G M rm ex Q n (a0 :: a1 :: a2 :: a3 :: a4 :: some (.int v) :: r) st h cu su) : Z G M rm ex Q pc (a0 :: a1 :: a2 :: a3 :: a4 :: some (.int x) :: r) st h cu su := by
  subst hj
  exact z_iinc0 hd hn rfl (by simp) K
theorem z_istore_6 {a0 a1 a2 a3 a4 a5 a6 : Option Value} {r : List (Option Value)} {x : Int32} (hd : decode (zcc M) pc = .ok (.istore 6, 2)) (hn : pc + 2 = n) (K : Z G M rm ex Q n (a0 :: a1 :: a2 :: a3 :: a4 :: a5 :: some (.int x) :: r) st h cu su) : Z G M rm ex Q pc (a0 :: a1 :: a2 :: a3 :: a4 :: a5 :: a6 :: r) (.int x :: st) h cu su := z_istore0 hd hn (by simp) K
theorem z_astore_6 {a0 a1 a2 a3 a4 a5 a6 : Option Value} {r : List (Option Value)} {x : Nat} (hd : decode (zcc M) pc = .ok (.astore 6, 2)) (hn : pc + 2 = n) (K : Z G M rm ex Q n (a0 :: a1 :: a2 :: a3 :: a4 :: a5 :: some (.ref x) :: r) st h cu su) : Z G M rm ex Q pc (a0 :: a1 :: a2 :: a3 :: a4 :: a5 :: a6 :: r) (.ref x :: st) h cu su := z_astore0 hd hn (by simp) K
theorem z_iinc_6 {a0 a1 a2 a3 a4 a5 : Option Value} {r : List (Option Value)} {j : Int} {x v : Int32} (hd : decode (zcc M) pc = .ok (.iinc 6 j, 3)) (hn : pc + 3 = n) (hj : x + Int32.ofInt j = v) (K : Z G M rm ex Q n (a0 :: a1 :: a2 :: a3 :: a4 :: a5 :: some (.int v) :: r) st h cu su) : Z G M rm ex Q pc (a0 :: a1 :: a2 :: a3 :: a4 :: a5 :: some (.int x) :: r) st h cu su := by
  subst hj
  exact z_iinc0 hd hn rfl (by simp) K
theorem z_istore_7 {a0 a1 a2 a3 a4 a5 a6 a7 : Option Value} {r : List (Option Value)} {x : Int32} (hd : decode (zcc M) pc = .ok (.istore 7, 2)) (hn : pc + 2 = n) (K : Z G M rm ex Q n (a0 :: a1 :: a2 :: a3 :: a4 :: a5 :: a6 :: some (.int x) :: r) st h cu su) : Z G M rm ex Q pc (a0 :: a1 :: a2 :: a3 :: a4 :: a5 :: a6 :: a7 :: r) (.int x :: st) h cu su := z_istore0 hd hn (by simp) K
theorem z_astore_7 {a0 a1 a2 a3 a4 a5 a6 a7 : Option Value} {r : List (Option Value)} {x : Nat} (hd : decode (zcc M) pc = .ok (.astore 7, 2)) (hn : pc + 2 = n) (K : Z G M rm ex Q n (a0 :: a1 :: a2 :: a3 :: a4 :: a5 :: a6 :: some (.ref x) :: r) st h cu su) : Z G M rm ex Q pc (a0 :: a1 :: a2 :: a3 :: a4 :: a5 :: a6 :: a7 :: r) (.ref x :: st) h cu su := z_astore0 hd hn (by simp) K
theorem z_iinc_7 {a0 a1 a2 a3 a4 a5 a6 : Option Value} {r : List (Option Value)} {j : Int} {x v : Int32} (hd : decode (zcc M) pc = .ok (.iinc 7 j, 3)) (hn : pc + 3 = n) (hj : x + Int32.ofInt j = v) (K : Z G M rm ex Q n (a0 :: a1 :: a2 :: a3 :: a4 :: a5 :: a6 :: some (.int v) :: r) st h cu su) : Z G M rm ex Q pc (a0 :: a1 :: a2 :: a3 :: a4 :: a5 :: a6 :: some (.int x) :: r) st h cu su := by
  subst hj
  exact z_iinc0 hd hn rfl (by simp) K
theorem z_istore_8 {a0 a1 a2 a3 a4 a5 a6 a7 a8 : Option Value} {r : List (Option Value)} {x : Int32} (hd : decode (zcc M) pc = .ok (.istore 8, 2)) (hn : pc + 2 = n) (K : Z G M rm ex Q n (a0 :: a1 :: a2 :: a3 :: a4 :: a5 :: a6 :: a7 :: some (.int x) :: r) st h cu su) : Z G M rm ex Q pc (a0 :: a1 :: a2 :: a3 :: a4 :: a5 :: a6 :: a7 :: a8 :: r) (.int x :: st) h cu su := z_istore0 hd hn (by simp) K
theorem z_astore_8 {a0 a1 a2 a3 a4 a5 a6 a7 a8 : Option Value} {r : List (Option Value)} {x : Nat} (hd : decode (zcc M) pc = .ok (.astore 8, 2)) (hn : pc + 2 = n) (K : Z G M rm ex Q n (a0 :: a1 :: a2 :: a3 :: a4 :: a5 :: a6 :: a7 :: some (.ref x) :: r) st h cu su) : Z G M rm ex Q pc (a0 :: a1 :: a2 :: a3 :: a4 :: a5 :: a6 :: a7 :: a8 :: r) (.ref x :: st) h cu su := z_astore0 hd hn (by simp) K
theorem z_iinc_8 {a0 a1 a2 a3 a4 a5 a6 a7 : Option Value} {r : List (Option Value)} {j : Int} {x v : Int32} (hd : decode (zcc M) pc = .ok (.iinc 8 j, 3)) (hn : pc + 3 = n) (hj : x + Int32.ofInt j = v) (K : Z G M rm ex Q n (a0 :: a1 :: a2 :: a3 :: a4 :: a5 :: a6 :: a7 :: some (.int v) :: r) st h cu su) : Z G M rm ex Q pc (a0 :: a1 :: a2 :: a3 :: a4 :: a5 :: a6 :: a7 :: some (.int x) :: r) st h cu su := by
  subst hj
  exact z_iinc0 hd hn rfl (by simp) K
theorem z_istore_9 {a0 a1 a2 a3 a4 a5 a6 a7 a8 a9 : Option Value} {r : List (Option Value)} {x : Int32} (hd : decode (zcc M) pc = .ok (.istore 9, 2)) (hn : pc + 2 = n) (K : Z G M rm ex Q n (a0 :: a1 :: a2 :: a3 :: a4 :: a5 :: a6 :: a7 :: a8 :: some (.int x) :: r) st h cu su) : Z G M rm ex Q pc (a0 :: a1 :: a2 :: a3 :: a4 :: a5 :: a6 :: a7 :: a8 :: a9 :: r) (.int x :: st) h cu su := z_istore0 hd hn (by simp) K
theorem z_astore_9 {a0 a1 a2 a3 a4 a5 a6 a7 a8 a9 : Option Value} {r : List (Option Value)} {x : Nat} (hd : decode (zcc M) pc = .ok (.astore 9, 2)) (hn : pc + 2 = n) (K : Z G M rm ex Q n (a0 :: a1 :: a2 :: a3 :: a4 :: a5 :: a6 :: a7 :: a8 :: some (.ref x) :: r) st h cu su) : Z G M rm ex Q pc (a0 :: a1 :: a2 :: a3 :: a4 :: a5 :: a6 :: a7 :: a8 :: a9 :: r) (.ref x :: st) h cu su := z_astore0 hd hn (by simp) K
theorem z_iinc_9 {a0 a1 a2 a3 a4 a5 a6 a7 a8 : Option Value} {r : List (Option Value)} {j : Int} {x v : Int32} (hd : decode (zcc M) pc = .ok (.iinc 9 j, 3)) (hn : pc + 3 = n) (hj : x + Int32.ofInt j = v) (K : Z G M rm ex Q n (a0 :: a1 :: a2 :: a3 :: a4 :: a5 :: a6 :: a7 :: a8 :: some (.int v) :: r) st h cu su) : Z G M rm ex Q pc (a0 :: a1 :: a2 :: a3 :: a4 :: a5 :: a6 :: a7 :: a8 :: some (.int x) :: r) st h cu su := by
  subst hj
  exact z_iinc0 hd hn rfl (by simp) K
theorem z_istore_10 {a0 a1 a2 a3 a4 a5 a6 a7 a8 a9 a10 : Option Value} {r : List (Option Value)} {x : Int32} (hd : decode (zcc M) pc = .ok (.istore 10, 2)) (hn : pc + 2 = n) (K : Z G M rm ex Q n (a0 :: a1 :: a2 :: a3 :: a4 :: a5 :: a6 :: a7 :: a8 :: a9 :: some (.int x) :: r) st h cu su) : Z G M rm ex Q pc (a0 :: a1 :: a2 :: a3 :: a4 :: a5 :: a6 :: a7 :: a8 :: a9 :: a10 :: r) (.int x :: st) h cu su := z_istore0 hd hn (by simp) K
theorem z_astore_10 {a0 a1 a2 a3 a4 a5 a6 a7 a8 a9 a10 : Option Value} {r : List (Option Value)} {x : Nat} (hd : decode (zcc M) pc = .ok (.astore 10, 2)) (hn : pc + 2 = n) (K : Z G M rm ex Q n (a0 :: a1 :: a2 :: a3 :: a4 :: a5 :: a6 :: a7 :: a8 :: a9 :: some (.ref x) :: r) st h cu su) : Z G M rm ex Q pc (a0 :: a1 :: a2 :: a3 :: a4 :: a5 :: a6 :: a7 :: a8 :: a9 :: a10 :: r) (.ref x :: st) h cu su := z_astore0 hd hn (by simp) K
theorem z_iinc_10 {a0 a1 a2 a3 a4 a5 a6 a7 a8 a9 : Option Value} {r : List (Option Value)} {j : Int} {x v : Int32} (hd : decode (zcc M) pc = .ok (.iinc 10 j, 3)) (hn : pc + 3 = n) (hj : x + Int32.ofInt j = v) (K : Z G M rm ex Q n (a0 :: a1 :: a2 :: a3 :: a4 :: a5 :: a6 :: a7 :: a8 :: a9 :: some (.int v) :: r) st h cu su) : Z G M rm ex Q pc (a0 :: a1 :: a2 :: a3 :: a4 :: a5 :: a6 :: a7 :: a8 :: a9 :: some (.int x) :: r) st h cu su := by
  subst hj
  exact z_iinc0 hd hn rfl (by simp) K
theorem z_istore_11 {a0 a1 a2 a3 a4 a5 a6 a7 a8 a9 a10 a11 : Option Value} {r : List (Option Value)} {x : Int32} (hd : decode (zcc M) pc = .ok (.istore 11, 2)) (hn : pc + 2 = n) (K : Z G M rm ex Q n (a0 :: a1 :: a2 :: a3 :: a4 :: a5 :: a6 :: a7 :: a8 :: a9 :: a10 :: some (.int x) :: r) st h cu su) : Z G M rm ex Q pc (a0 :: a1 :: a2 :: a3 :: a4 :: a5 :: a6 :: a7 :: a8 :: a9 :: a10 :: a11 :: r) (.int x :: st) h cu su := z_istore0 hd hn (by simp) K
theorem z_astore_11 {a0 a1 a2 a3 a4 a5 a6 a7 a8 a9 a10 a11 : Option Value} {r : List (Option Value)} {x : Nat} (hd : decode (zcc M) pc = .ok (.astore 11, 2)) (hn : pc + 2 = n) (K : Z G M rm ex Q n (a0 :: a1 :: a2 :: a3 :: a4 :: a5 :: a6 :: a7 :: a8 :: a9 :: a10 :: some (.ref x) :: r) st h cu su) : Z G M rm ex Q pc (a0 :: a1 :: a2 :: a3 :: a4 :: a5 :: a6 :: a7 :: a8 :: a9 :: a10 :: a11 :: r) (.ref x :: st) h cu su := z_astore0 hd hn (by simp) K
theorem z_iinc_11 {a0 a1 a2 a3 a4 a5 a6 a7 a8 a9 a10 : Option Value} {r : List (Option Value)} {j : Int} {x v : Int32} (hd : decode (zcc M) pc = .ok (.iinc 11 j, 3)) (hn : pc + 3 = n) (hj : x + Int32.ofInt j = v) (K : Z G M rm ex Q n (a0 :: a1 :: a2 :: a3 :: a4 :: a5 :: a6 :: a7 :: a8 :: a9 :: a10 :: some (.int v) :: r) st h cu su) : Z G M rm ex Q pc (a0 :: a1 :: a2 :: a3 :: a4 :: a5 :: a6 :: a7 :: a8 :: a9 :: a10 :: some (.int x) :: r) st h cu su := by
  subst hj
  exact z_iinc0 hd hn rfl (by simp) K
theorem z_istore_12 {a0 a1 a2 a3 a4 a5 a6 a7 a8 a9 a10 a11 a12 : Option Value} {r : List (Option Value)} {x : Int32} (hd : decode (zcc M) pc = .ok (.istore 12, 2)) (hn : pc + 2 = n) (K : Z G M rm ex Q n (a0 :: a1 :: a2 :: a3 :: a4 :: a5 :: a6 :: a7 :: a8 :: a9 :: a10 :: a11 :: some (.int x) :: r) st h cu su) : Z G M rm ex Q pc (a0 :: a1 :: a2 :: a3 :: a4 :: a5 :: a6 :: a7 :: a8 :: a9 :: a10 :: a11 :: a12 :: r) (.int x :: st) h cu su := z_istore0 hd hn (by simp) K
theorem z_astore_12 {a0 a1 a2 a3 a4 a5 a6 a7 a8 a9 a10 a11 a12 : Option Value} {r : List (Option Value)} {x : Nat} (hd : decode (zcc M) pc = .ok (.astore 12, 2)) (hn : pc + 2 = n) (K : Z G M rm ex Q n (a0 :: a1 :: a2 :: a3 :: a4 :: a5 :: a6 :: a7 :: a8 :: a9 :: a10 :: a11 :: some (.ref x) :: r) st h cu su) : Z G M rm ex Q pc (a0 :: a1 :: a2 :: a3 :: a4 :: a5 :: a6 :: a7 :: a8 :: a9 :: a10 :: a11 :: a12 :: r) (.ref x :: st) h cu su := z_astore0 hd hn (by simp) K
theorem z_iinc_12 {a0 a1 a2 a3 a4 a5 a6 a7 a8 a9 a10 a11 : Option Value} {r : List (Option Value)} {j : Int} {x v : Int32} (hd : decode (zcc M) pc = .ok (.iinc 12 j, 3)) (hn : pc + 3 = n) (hj : x + Int32.ofInt j = v) (K : Z G M rm ex Q n (a0 :: a1 :: a2 :: a3 :: a4 :: a5 :: a6 :: a7 :: a8 :: a9 :: a10 :: a11 :: some (.int v) :: r) st h cu su) : Z G M rm ex Q pc (a0 :: a1 :: a2 :: a3 :: a4 :: a5 :: a6 :: a7 :: a8 :: a9 :: a10 :: a11 :: some (.int x) :: r) st h cu su := by
  subst hj
  exact z_iinc0 hd hn rfl (by simp) K
/-- fields -/
theorem z_get {index : Nat} {k ci : Nat} {C : String} {T : u_T} {N : Nat} {fs : List Value} {v : Value} (hd : decode (zcc M) pc = .ok (.getfield index, 3)) (hn : pc + 3 = n) (hin : ∀ w ∈ u_ws C T N, w ∈ zws M) (j : Nat) (hlk : Cond.fieldLink (zown M) index (T j).1 (T j).2.1 (T j).2.2.1 ∈ zws M) (hk : k < h.1) (he : h.2 k = .inr (ci, fs)) (hc : vwCl[ci]? = some (C, T, N)) (hj : j < N) (hv : fs[j]? = some v)
    (K : Z G M rm ex Q n lv (v :: st) h cu su) : Z G M rm ex Q pc lv (.ref (zB G + k) :: st) h cu su := by
  subst hn
  intro p e s m args below meth c H locs ls X hz hL hP hS
  obtain ⟨hx, hb, hml, hr, hown, hts, hlk9, hnm, hK⟩ := id X
  exact va_get hx hb hts hin hown hK.1 hP k (by rw [zw_at hk, he]) hc j hj (hts _ hlk) (fun _ q => q) hv hd (K p e s m args below meth c H locs ls X hz hL hP hS)
theorem z_put {nn : Nat} {g9 : Nat → va_E} {index : Nat} {k ci : Nat} {C : String} {T : u_T} {N : Nat} {fs : List Value} {v : Value} {ty : FieldType} (ty0 : Nat → FieldType) (hty : ∀ k, k < N → parseFieldDescriptor (T k).2.2.1 = some (ty0 k)) (hnm0 : ∀ a, a < N → ∀ b, b < N → a ≠ b → (T a).2.1 ≠ (T b).2.1)
    (hd : decode (zcc M) pc = .ok (.putfield index, 3)) (hn : pc + 3 = n) (hin : ∀ w ∈ u_ws C T N, w ∈ zws M) (j : Nat) (hlk : Cond.fieldLink (zown M) index (T j).1 (T j).2.1 (T j).2.2.1 ∈ zws M) (hfin : (T j).2.2.2 = false) (hpd : parseFieldDescriptor (T j).2.2.1 = some ty) (hk : k < nn) (he : g9 k = .inr (ci, fs)) (hc : vwCl[ci]? = some (C, T, N)) (hj : j < N) (hl : j < fs.length) (hnar : narrow ty v = v) (hfit : fits ty v = true)
    (K : Z G M rm ex Q n lv st (nn, zu g9 k (.inr (ci, fs.set j v))) cu su) : Z G M rm ex Q pc lv (v :: .ref (zB G + k) :: st) (nn, g9) cu su := by
  subst hn
  intro p e s m args below meth c H locs ls X hz hL hP hS
  obtain ⟨hx, hb, hml, hr, hown, hts, hlk9, hnm, hK⟩ := id X
  exact va_put hx hb hts hin ty0 hty hnm0 hown hK.1 hP (zw_D G (nn, g9)) hS k (by rw [zw_at (h := (nn, g9)) hk]; show some (_, g9 k) = _; rw [he]) hc j hj (hts _ hlk) (fun _ q => q) hfin hpd hnar hfit hl hd (fun H1 locs1 hP1 hD1 hS1 => by
    rw [zw_set (n := nn) (g := g9) hk] at hP1
    exact K p e s m args below meth c H1 locs1 ls X hz hL hP1 hS1)
theorem z_putF {nn : Nat} {g9 : Nat → va_E} {index : Nat} {k ci : Nat} {C : String} {T : u_T} {N : Nat} {fs : List Value} {v : Value} {ty : FieldType} (ty0 : Nat → FieldType) (hty : ∀ k, k < N → parseFieldDescriptor (T k).2.2.1 = some (ty0 k)) (hnm0 : ∀ a, a < N → ∀ b, b < N → a ≠ b → (T a).2.1 ≠ (T b).2.1)
    (hd : decode (zcc M) pc = .ok (.putfield index, 3)) (hn : pc + 3 = n) (hin : ∀ w ∈ u_ws C T N, w ∈ zws M) (j : Nat) (hlk : Cond.fieldLink (zown M) index (T j).1 (T j).2.1 (T j).2.2.1 ∈ zws M) (hfin : (T j).2.2.2 = true) (hinit : znm M = "<init>") (hdecl : (T j).1 = zown M) (hpd : parseFieldDescriptor (T j).2.2.1 = some ty) (hk : k < nn) (he : g9 k = .inr (ci, fs)) (hc : vwCl[ci]? = some (C, T, N)) (hj : j < N) (hl : j < fs.length) (hnar : narrow ty v = v) (hfit : fits ty v = true)
    (K : Z G M rm ex Q n lv st (nn, zu g9 k (.inr (ci, fs.set j v))) cu su) : Z G M rm ex Q pc lv (v :: .ref (zB G + k) :: st) (nn, g9) cu su := by
  subst hn
  intro p e s m args below meth c H locs ls X hz hL hP hS
  obtain ⟨hx, hb, hml, hr, hown, hts, hlk9, hnm, hK⟩ := id X
  exact va_putF hx hb hts hin ty0 hty hnm0 hown hK.1 hP (zw_D G (nn, g9)) hS k (by rw [zw_at (h := (nn, g9)) hk]; show some (_, g9 k) = _; rw [he]) hc j hj (hts _ hlk) (fun _ q => q) hfin (hnm.trans hinit) hdecl hpd hnar hfit hl hd (fun H1 locs1 hP1 hD1 hS1 => by
    rw [zw_set (n := nn) (g := g9) hk] at hP1
    exact K p e s m args below meth c H1 locs1 ls X hz hL hP1 hS1)
/-- arrays -/
theorem z_iald {k N : Nat} {f : Nat → Int32} {i : Int32} (hd : decode (zcc M) pc = .ok (.iaload, 1)) (hn : pc + 1 = n) (hk : k < h.1) (he : h.2 k = zI G N f) (hi : vp_in i N)
    (K : Z G M rm ex Q n lv (.int (f i.toNatClampNeg) :: st) h cu su) : Z G M rm ex Q pc lv (.int i :: .ref (zB G + k) :: st) h cu su := by
  subst hn
  intro p e s m args below meth c H locs ls X hz hL hP hS
  obtain ⟨hx, hb, hml, hr, hown, hts, hlk9, hnm, hK⟩ := id X
  exact va_iald hx hb hK.1 hP k 0 (by rw [zw_at hk, he]) rfl hi hd (K p e s m args below meth c H locs ls X hz hL hP hS)
theorem z_zald {k N : Nat} {f : Nat → Int32} {i : Int32} (hd : decode (zcc M) pc = .ok (.baload, 1)) (hn : pc + 1 = n) (hk : k < h.1) (he : h.2 k = zZ G N f) (hi : vp_in i N)
    (K : Z G M rm ex Q n lv (.int (f i.toNatClampNeg) :: st) h cu su) : Z G M rm ex Q pc lv (.int i :: .ref (zB G + k) :: st) h cu su := by
  subst hn
  intro p e s m args below meth c H locs ls X hz hL hP hS
  obtain ⟨hx, hb, hml, hr, hown, hts, hlk9, hnm, hK⟩ := id X
  exact va_zald hx hb hK.1 hP k 1 (by rw [zw_at hk, he]) rfl hi hd (K p e s m args below meth c H locs ls X hz hL hP hS)
theorem z_lald {k N : Nat} {f : Nat → Int64} {i : Int32} (hd : decode (zcc M) pc = .ok (.laload, 1)) (hn : pc + 1 = n) (hk : k < h.1) (he : h.2 k = zJ G N f) (hi : vp_in i N)
    (K : Z G M rm ex Q n lv (.long (f i.toNatClampNeg) :: st) h cu su) : Z G M rm ex Q pc lv (.int i :: .ref (zB G + k) :: st) h cu su := by
  subst hn
  intro p e s m args below meth c H locs ls X hz hL hP hS
  obtain ⟨hx, hb, hml, hr, hown, hts, hlk9, hnm, hK⟩ := id X
  exact va_lald hx hb hK.1 hP k 3 (by rw [zw_at hk, he]) rfl hi hd (K p e s m args below meth c H locs ls X hz hL hP hS)
theorem z_aald {k N a : Nat} {f : Nat → Option Nat} {i : Int32} (hd : decode (zcc M) pc = .ok (.aaload, 1)) (hn : pc + 1 = n) (hk : k < h.1) (he : h.2 k = zR G N f) (hi : vp_in i N) (hv : f i.toNatClampNeg = some a)
    (K : Z G M rm ex Q n lv (.ref a :: st) h cu su) : Z G M rm ex Q pc lv (.int i :: .ref (zB G + k) :: st) h cu su := by
  subst hn
  intro p e s m args below meth c H locs ls X hz hL hP hS
  obtain ⟨hx, hb, hml, hr, hown, hts, hlk9, hnm, hK⟩ := id X
  have hlt : i.toNatClampNeg < N := Nat.not_le.mp fun q => hi (Or.inr q)
  have ha : (zw G h)[k]? = some (zB G + k, zR G N f) := by rw [zw_at hk, he]
  exact W.aald (v := .ref a) (ty := .array .int) hx hb (hP k _ ha) ((hK.1.2 2 _ rfl).1 N (fun j => va_rf (f j))) rfl (fun q => by cases q) (by show ¬ (i < 0 ∨ (arrV _ _ _).slots.size ≤ _); rw [arrV_size]; exact hi) (by show (arrV _ _ _).slots[_]? = _; rw [arrV_read _ _ hlt, hv]; rfl) rfl rfl hd (K p e s m args below meth c H locs ls X hz hL hP hS)
theorem z_iast {nn : Nat} {g9 : Nat → va_E} {k N : Nat} {f : Nat → Int32} {i x : Int32} (hd : decode (zcc M) pc = .ok (.iastore, 1)) (hn : pc + 1 = n) (hk : k < nn) (he : g9 k = zI G N f) (hi : vp_in i N)
    (K : Z G M rm ex Q n lv st (nn, zu g9 k (zI G N (upd f i.toNatClampNeg x))) cu su) : Z G M rm ex Q pc lv (.int x :: .int i :: .ref (zB G + k) :: st) (nn, g9) cu su := by
  subst hn
  intro p e s m args below meth c H locs ls X hz hL hP hS
  obtain ⟨hx, hb, hml, hr, hown, hts, hlk9, hnm, hK⟩ := id X
  exact va_iast hx hb hK.1 hP (zw_D G (nn, g9)) hS k 0 (by rw [zw_at (h := (nn, g9)) hk]; show some (_, g9 k) = _; rw [he]) rfl hi hd (fun H1 locs1 hP1 hD1 hS1 => by
    rw [zw_set (n := nn) (g := g9) hk] at hP1
    exact K p e s m args below meth c H1 locs1 ls X hz hL hP1 hS1)
theorem z_zast {nn : Nat} {g9 : Nat → va_E} {k N : Nat} {f : Nat → Int32} {i x : Int32} (hd : decode (zcc M) pc = .ok (.bastore, 1)) (hn : pc + 1 = n) (hk : k < nn) (he : g9 k = zZ G N f) (hi : vp_in i N) (hb01 : vp_nar .boolean x = x)
    (K : Z G M rm ex Q n lv st (nn, zu g9 k (zZ G N (upd f i.toNatClampNeg x))) cu su) : Z G M rm ex Q pc lv (.int x :: .int i :: .ref (zB G + k) :: st) (nn, g9) cu su := by
  subst hn
  intro p e s m args below meth c H locs ls X hz hL hP hS
  obtain ⟨hx, hb, hml, hr, hown, hts, hlk9, hnm, hK⟩ := id X
  exact va_zast hx hb hK.1 hP (zw_D G (nn, g9)) hS k 1 (by rw [zw_at (h := (nn, g9)) hk]; show some (_, g9 k) = _; rw [he]) rfl hi hd (fun H1 locs1 hP1 hD1 hS1 => by
    rw [hb01, zw_set (n := nn) (g := g9) hk] at hP1
    exact K p e s m args below meth c H1 locs1 ls X hz hL hP1 hS1)
theorem z_last {nn : Nat} {g9 : Nat → va_E} {k N : Nat} {f : Nat → Int64} {i : Int32} {x : Int64} (hd : decode (zcc M) pc = .ok (.lastore, 1)) (hn : pc + 1 = n) (hk : k < nn) (he : g9 k = zJ G N f) (hi : vp_in i N)
    (K : Z G M rm ex Q n lv st (nn, zu g9 k (zJ G N (vp_updL f i.toNatClampNeg x))) cu su) : Z G M rm ex Q pc lv (.long x :: .int i :: .ref (zB G + k) :: st) (nn, g9) cu su := by
  subst hn
  intro p e s m args below meth c H locs ls X hz hL hP hS
  obtain ⟨hx, hb, hml, hr, hown, hts, hlk9, hnm, hK⟩ := id X
  exact va_last hx hb hK.1 hP (zw_D G (nn, g9)) hS k 3 (by rw [zw_at (h := (nn, g9)) hk]; show some (_, g9 k) = _; rw [he]) rfl hi hd (fun H1 locs1 hP1 hD1 hS1 => by
    rw [zw_set (n := nn) (g := g9) hk] at hP1
    exact K p e s m args below meth c H1 locs1 ls X hz hL hP1 hS1)
theorem z_alen {k N : Nat} {f : Nat → Int32} (hd : decode (zcc M) pc = .ok (.arraylength, 1)) (hn : pc + 1 = n) (hk : k < h.1) (he : h.2 k = zI G N f)
    (K : Z G M rm ex Q n lv (.int (nI N) :: st) h cu su) : Z G M rm ex Q pc lv (.ref (zB G + k) :: st) h cu su := by
  subst hn
  intro p e s m args below meth c H locs ls X hz hL hP hS
  obtain ⟨hx, hb, hml, hr, hown, hts, hlk9, hnm, hK⟩ := id X
  exact va_alen (x := (N, .inl f)) (v := nI N) hx hb hK.1 hP k 0 (by rw [zw_at hk, he]) rfl rfl hd (K p e s m args below meth c H locs ls X hz hL hP hS)
/-- static arrays -/
theorem z_gsP {index : Nat} (hd : decode (zcc M) pc = .ok (.getstatic index, 3)) (hn : pc + 3 = n) (hlk : Cond.fieldLink (zown M) index "ConfigSearch" "PRIMES" "[I" ∈ zws M)
    (K : Z G M rm ex Q n lv (.ref (zs G 0) :: st) h cu su) : Z G M rm ex Q pc lv st h cu su := by
  subst hn
  intro p e s m args below meth c H locs ls X hz hL hP hS
  obtain ⟨hx, hb, hml, hr, hown, hts, hlk9, hnm, hK⟩ := id X
  exact va_gets hx hb hK.2.1.1.1 hS hown (hts _ hlk) (fun _ q => q) hd (K p e s m args below meth c H locs ls X hz hL hP hS)
theorem z_gsB {index : Nat} (hd : decode (zcc M) pc = .ok (.getstatic index, 3)) (hn : pc + 3 = n) (hlk : Cond.fieldLink (zown M) index "ConfigSearch$Following" "BEHIND" "[I" ∈ zws M)
    (K : Z G M rm ex Q n lv (.ref (zs G 1) :: st) h cu su) : Z G M rm ex Q pc lv st h cu su := by
  subst hn
  intro p e s m args below meth c H locs ls X hz hL hP hS
  obtain ⟨hx, hb, hml, hr, hown, hts, hlk9, hnm, hK⟩ := id X
  exact va_gets hx hb hK.2.1.2.1.1 hS hown (hts _ hlk) (fun _ q => q) hd (K p e s m args below meth c H locs ls X hz hL hP hS)
theorem z_gsT {index : Nat} (hd : decode (zcc M) pc = .ok (.getstatic index, 3)) (hn : pc + 3 = n) (hlk : Cond.fieldLink (zown M) index "ConfigSearch$Following" "TERM_TURN" "[I" ∈ zws M)
    (K : Z G M rm ex Q n lv (.ref (zs G 2) :: st) h cu su) : Z G M rm ex Q pc lv st h cu su := by
  subst hn
  intro p e s m args below meth c H locs ls X hz hL hP hS
  obtain ⟨hx, hb, hml, hr, hown, hts, hlk9, hnm, hK⟩ := id X
  exact va_gets hx hb hK.2.1.2.2.1 hS hown (hts _ hlk) (fun _ q => q) hd (K p e s m args below meth c H locs ls X hz hL hP hS)
theorem z_tP {i v : Int32} (hd : decode (zcc M) pc = .ok (.iaload, 1)) (hn : pc + 1 = n) (hi : vp_in i 6) (hv : zf_P i.toNatClampNeg = .int v)
    (K : Z G M rm ex Q n lv (.int v :: st) h cu su) : Z G M rm ex Q pc lv (.int i :: .ref (zs G 0) :: st) h cu su := by
  subst hn
  intro p e s m args below meth c H locs ls X hz hL hP hS
  obtain ⟨hx, hb, hml, hr, hown, hts, hlk9, hnm, hK⟩ := id X
  exact va_ti hx hb hK.2.1.1.2 hS hi hv hd (K p e s m args below meth c H locs ls X hz hL hP hS)
theorem z_tB {i v : Int32} (hd : decode (zcc M) pc = .ok (.iaload, 1)) (hn : pc + 1 = n) (hi : vp_in i 12) (hv : zf_B i.toNatClampNeg = .int v)
    (K : Z G M rm ex Q n lv (.int v :: st) h cu su) : Z G M rm ex Q pc lv (.int i :: .ref (zs G 1) :: st) h cu su := by
  subst hn
  intro p e s m args below meth c H locs ls X hz hL hP hS
  obtain ⟨hx, hb, hml, hr, hown, hts, hlk9, hnm, hK⟩ := id X
  exact va_ti hx hb hK.2.1.2.1.2 hS hi hv hd (K p e s m args below meth c H locs ls X hz hL hP hS)
theorem z_tT {i v : Int32} (hd : decode (zcc M) pc = .ok (.iaload, 1)) (hn : pc + 1 = n) (hi : vp_in i 3) (hv : zf_T i.toNatClampNeg = .int v)
    (K : Z G M rm ex Q n lv (.int v :: st) h cu su) : Z G M rm ex Q pc lv (.int i :: .ref (zs G 2) :: st) h cu su := by
  subst hn
  intro p e s m args below meth c H locs ls X hz hL hP hS
  obtain ⟨hx, hb, hml, hr, hown, hts, hlk9, hnm, hK⟩ := id X
  exact va_ti hx hb hK.2.1.2.2.2.1 hS hi hv hd (K p e s m args below meth c H locs ls X hz hL hP hS)
theorem z_tlenP (hd : decode (zcc M) pc = .ok (.arraylength, 1)) (hn : pc + 1 = n) (K : Z G M rm ex Q n lv (.int 6 :: st) h cu su) : Z G M rm ex Q pc lv (.ref (zs G 0) :: st) h cu su := by
  subst hn
  intro p e s m args below meth c H locs ls X hz hL hP hS
  obtain ⟨hx, hb, hml, hr, hown, hts, hlk9, hnm, hK⟩ := id X
  exact va_tlen hx hb hK.2.1.1.2 hS (v := 6) rfl hd (K p e s m args below meth c H locs ls X hz hL hP hS)
/-- ends -/
theorem z_ireturn {x : Int32} {ty : FieldType} (hd : decode (zcc M) pc = .ok (.ireturn, 1)) (hr0 : zret M = some ty) (hnar : narrow ty (.int x) = .int x) (hcu : cu ≤ rm.cells) (hsu : su ≤ rm.slots) (hex : ex = true → cu = rm.cells) (hq : Q (some (.int x)) h) : Z G M rm ex Q pc lv [.int x] h cu su := by
  intro p e s m args below meth c H locs ls X hz hL hP hS
  obtain ⟨hx, hb, hml, hr, hown, hts, hlk9, hnm, hK⟩ := id X
  refine W.widen hcu hsu ?_
  exact W.zret hx hb (hr.trans hr0) hnar (fun t ht hW => ⟨⟨_, h, rfl, hq, by rw [ht]; exact hP, fun he => by rw [← hex he]; exact hz he⟩, hS.F ht⟩) hS.2.2 hd
theorem z_return (hd : decode (zcc M) pc = .ok (.return_, 1)) (hr0 : zret M = none) (hcu : cu ≤ rm.cells) (hsu : su ≤ rm.slots) (hex : ex = true → cu = rm.cells) (hq : Q none h) : Z G M rm ex Q pc lv [] h cu su := by
  intro p e s m args below meth c H locs ls X hz hL hP hS
  obtain ⟨hx, hb, hml, hr, hown, hts, hlk9, hnm, hK⟩ := id X
  refine W.widen hcu hsu ?_
  exact W.vret hx hb (hr.trans hr0) (fun t ht hW => ⟨⟨_, h, rfl, hq, by rw [ht]; exact hP, fun he => by rw [← hex he]; exact hz he⟩, hS.F ht⟩) hS.2.2 hd
/-- how large the heap is, where that is said -/
theorem z_size {p : Program} {l : Launch} {e : Env} {R : Room} {s : State} {m : MethodId} {args : Array Value} {below : List Frame} {meth : Method} {c : Code} {T : State} {locs : List Loc} (X : Stand p l e R s m args below meth c T locs cu su) (hP : zHd G h T.heap) (hS : va_S (zA G) s.heap T.heap locs) (hB : zB G ≤ s.heap.size) (hz : s.heap.size + cu = zB G + h.1) : T.heap.size = zB G + h.1 := by
  have h1 := X.heapSize
  have h2 : zB G + h.1 ≤ T.heap.size := by
    rcases Nat.eq_zero_or_pos h.1 with h0 | h0
    · have := hS.1
      omega
    · have := (hP (h.1 - 1) _ (zw_at (by omega))).lt
      have h3 : zB G + (h.1 - 1) < T.heap.size := this
      omega
  omega
/-- calls -/
theorem z_run {p : Program} {e : Env} {s : State} {m : MethodId} {args : Array Value} {below : List Frame} {meth : Method} {c : Code} {H : Heap} {locs : List Loc} {ls : Array Slot} {st0 rest : List Value} {rm' : Room} {Q' : Option Value → zAH → Prop} {a : Array Value} {Qf : State → Prop} {h0 : zAH}
    (hr : va_Run p (zl G) e rm s m args below meth c H locs cu su rm'.cells rm'.slots (F0 m pc ls st0) rest (zQ G ex rm'.cells Q' a) (zA G)) (hP : zHd G h0 H) (hS : va_S (zA G) s.heap H locs) (hK : zB G ≤ s.heap.size) (hz : ex = true → s.heap.size + cu = zB G + h0.1)
    (kk : ∀ (r : Option Value) (h' : zAH) (H1 : Heap) (locs1 : List Loc), Q' r h' → zHd G h' H1 → (ex = true → s.heap.size + (cu + rm'.cells) = zB G + h'.1) → va_S (zA G) s.heap H1 locs1 → W p (zl G) e rm s m args below meth c H1 locs1 (cu + rm'.cells) (su + rm'.slots) Qf (F0 m (pc + 3) ls (r.toList ++ rest))) : W p (zl G) e rm s m args below meth c H locs cu su Qf (F0 m pc ls st0) := by
  intro T hT X
  obtain ⟨v, st₀, t, T', L, h9, X', hL, e1, e2, ⟨⟨r, h', hv, hq, hP', hex⟩, hz1, hk⟩, st⟩ := hr T hT X
  cases hv
  have hsz : ex = true → H.size = zB G + h0.1 := fun he => by
    subst hT
    exact z_size X hP hS hK (hz he)
  rw [h9] at hz1 hk hex
  obtain ⟨t2, a1, b1⟩ := kk v h' T'.heap (locs ++ L) hq (by rw [e1]; exact hP') (fun he => by have q1 := hex he; have q2 := hsz he; have q3 := hz he; omega)
    ⟨Nat.le_trans hS.1 (by rw [e1]; exact hz1), fun q h1 h2 => by rw [e1, hk q (Nat.lt_of_lt_of_le h1 hS.1) h2]; exact hS.2.1 q h1 h2, fun q hq' => by
      rcases List.mem_append.mp hq' with h3 | h3
      · exact hS.2.2 q h3
      · exact hL q h3⟩ T' rfl X'
  exact ⟨t2, st t2 a1, b1⟩
theorem z_blind {as : List Value} : FrameBlind (zPc G ex as h) := fun a U g mk q => by
  obtain ⟨q0, q1, q2, q3⟩ := q
  exact ⟨q0, q1, ⟨q2.1.moved (u := U) (U := U.calling g mk a) (Vm.Alike.refl U.vm), q2.2.1.moved (u := U) (U := U.calling g mk a) (State.WarmedH.refl U), q2.2.2⟩, q3⟩
/-- the room and the words of a call are looked at by a number alone -/
def zOk (y : MethodName) (k : Nat) : Prop := y.cls ≠ "java/lang/invoke/MethodHandle" ∧ y.cls ≠ "java/lang/invoke/VarHandle" ∧ (parseMethodDescriptor y.desc).map (fun d => d.parameters.length) = some k
theorem z_callS {index : Nat} {y : MethodName} {ws ws' : List Cond} {bytes : ByteArray} {maxL : Nat} {ret : Option FieldType} {rm' : Room} {As rest : List Value} {Q' : Option Value → zAH → Prop} (hC : zC G y ws rm' ex As h Q') (hG : GoodIn (zws M) (va_wsS (zown M) index y ws)) (hw : ws = Cond.code y bytes maxL ret :: ws') (hd : decode (zcc M) pc = .ok (.invokestatic index, 3)) (hn : pc + 3 = n)
    (hst : st = As.reverse ++ rest) (ho : zOk y As.length) (hR : rm'.frames + 1 ≤ rm.frames ∧ 8 + (maxL + 11) + rm'.locals ≤ rm.locals) (hf : cu + rm'.cells ≤ rm.cells ∧ su + rm'.slots ≤ rm.slots) (hs : (rest.map fun v => v.category).sum ≤ 8)
    (K : ∀ (r : Option Value) (h' : zAH), Q' r h' → Z G M rm ex Q n lv (r.toList ++ rest) h' (cu + rm'.cells) (su + rm'.slots)) : Z G M rm ex Q pc lv st h cu su := by
  subst hn
  intro p e s m args below meth c H locs ls X hz hL hP hS
  obtain ⟨hx, hb, hml, hr, hown, hts, hlk9, hnm, hK⟩ := id X
  intro T hT XT
  have hsz : ex = true → H.size = zB G + h.1 := fun he => by
    subst hT
    exact z_size XT hP hS hK.2.2 (hz he)
  exact z_run (va_runS (As := As) (rest := rest) ⟨hx, hb, hml, hown, hts⟩ hC (va_cwS As.length hts hG hw rfl rfl ho hR) ⟨z_blind, fun U hU hW => ⟨rfl, by rw [hU]; exact hP, hK.moved hU hW hS, fun he => by rw [hU]; exact hsz he⟩⟩ rfl rfl hL.1 hst (lv_room hs) hd hf) hP hS hK.2.2 hz
    (fun r h' H1 locs1 hq hP1 hz1 hS1 => K r h' hq p e s m args below meth c H1 locs1 ls X hz1 hL hP1 hS1) T hT XT
theorem z_callV {index : Nat} {y : MethodName} {ws ws' : List Cond} {bytes : ByteArray} {maxL : Nat} {ret : Option FieldType} {rm' : Room} {As rest : List Value} {Q' : Option Value → zAH → Prop} {k ci N : Nat} {C : String} {T0 : u_T} {fs : List Value} (hC : zC G y ws rm' ex (.ref (zB G + k) :: As) h Q') (hG : GoodIn (zws M) (wsV (zown M) index C y ws)) (hw : ws = Cond.code y bytes maxL ret :: ws') (hd : decode (zcc M) pc = .ok (.invokevirtual index, 3)) (hn : pc + 3 = n)
    (hst : st = As.reverse ++ .ref (zB G + k) :: rest) (hyC : y.cls = C) (ho : zOk y As.length) (hk : k < h.1) (he : h.2 k = .inr (ci, fs)) (hc : vwCl[ci]? = some (C, T0, N)) (hR : rm'.frames + 1 ≤ rm.frames ∧ 8 + (maxL + 11) + rm'.locals ≤ rm.locals) (hf : cu + rm'.cells ≤ rm.cells ∧ su + rm'.slots ≤ rm.slots) (hs : (rest.map fun v => v.category).sum ≤ 8)
    (K : ∀ (r : Option Value) (h' : zAH), Q' r h' → Z G M rm ex Q n lv (r.toList ++ rest) h' (cu + rm'.cells) (su + rm'.slots)) : Z G M rm ex Q pc lv st h cu su := by
  subst hn
  intro p e s m args below meth c H locs ls X hz hL hP hS
  obtain ⟨hx, hb, hml, hr, hown, hts, hlk9, hnm, hK⟩ := id X
  intro T hT XT
  have hsz : ex = true → H.size = zB G + h.1 := fun he => by
    subst hT
    exact z_size XT hP hS hK.2.2 (hz he)
  exact z_run (va_runV (As := As) (rest := rest) (b := zB G + k) ⟨hx, hb, hml, hown, hts⟩ hC (cwV As.length hts hG hw rfl rfl ⟨hyC, ho⟩ hR) ⟨z_blind, va_recv hK.1 hP (ci := ci) (q0 := k) (fs := fs) hc (by rw [zw_at hk, he]), fun U hU hW => ⟨rfl, by rw [hU]; exact hP, hK.moved hU hW hS, fun he => by rw [hU]; exact hsz he⟩⟩ rfl rfl hL.1 hst (lv_room hs) hd hf) hP hS hK.2.2 hz
    (fun r h' H1 locs1 hq hP1 hz1 hS1 => K r h' hq p e s m args below meth c H1 locs1 ls X hz1 hL hP1 hS1) T hT XT
theorem z_callI {index : Nat} {y : MethodName} {ws ws' : List Cond} {bytes : ByteArray} {maxL : Nat} {rm' : Room} {As rest : List Value} {Q' : Option Value → zAH → Prop} {b : Nat} (hC : zC G y ws rm' ex (.ref b :: As) h Q') (hG : GoodIn (zws M) ws) (hw : ws = Cond.code y bytes maxL none :: ws') (hd : decode (zcc M) pc = .ok (.invokespecial index, 3)) (hn : pc + 3 = n)
    (hini : Cond.initialized y.cls ∈ zws M) (hml0 : Cond.methodLink (zown M) index y ∈ zws M) (hins : Cond.instanceMethod y ∈ zws M) (hyn : y.name = "<init>") (hst : st = As.reverse ++ .ref b :: rest) (ho : zOk y As.length) (hR : rm'.frames + 1 ≤ rm.frames ∧ 8 + (maxL + 11) + rm'.locals ≤ rm.locals) (hf : cu + rm'.cells ≤ rm.cells ∧ su + rm'.slots ≤ rm.slots) (hs : (rest.map fun v => v.category).sum ≤ 8)
    (K : ∀ (r : Option Value) (h' : zAH), Q' r h' → Z G M rm ex Q n lv (r.toList ++ rest) h' (cu + rm'.cells) (su + rm'.slots)) : Z G M rm ex Q pc lv st h cu su := by
  subst hn
  intro p e s m args below meth c H locs ls X hz hL hP hS
  obtain ⟨hx, hb, hml, hr, hown, hts, hlk9, hnm, hK⟩ := id X
  intro T hT XT
  have hsz : ex = true → H.size = zB G + h.1 := fun he => by
    subst hT
    exact z_size XT hP hS hK.2.2 (hz he)
  exact z_run (va_runI (As := As) (rest := rest) (b := b) ⟨hx, hb, hml, hown, hts⟩ hC (cwI As.length hts hG hw rfl rfl (hts _ hini) (hts _ hml0) (hts _ hins) hyn ho hR) ⟨z_blind, fun U hU hW => ⟨rfl, by rw [hU]; exact hP, hK.moved hU hW hS, fun he => by rw [hU]; exact hsz he⟩⟩ rfl rfl hL.1 hst (lv_room hs) hd hf) hP hS hK.2.2 hz
    (fun r h' H1 locs1 hq hP1 hz1 hS1 => K r h' hq p e s m args below meth c H1 locs1 ls X hz1 hL hP1 hS1) T hT XT
/-- Math.min, Math.max, System.arraycopy -/
theorem z_mmax {index : Nat} {x y : Int32} (hd : decode (zcc M) pc = .ok (.invokestatic index, 3)) (hn : pc + 3 = n) (h1 : Cond.methodLink (zown M) index Lib.Math.max.name ∈ zws M) (h2 : Cond.static Lib.Math.max.name ∈ zws M) (h3 : Cond.initialized "java/lang/Math" ∈ zws M) (h4 : Cond.code Lib.Math.max.name Lib.Math.max.code 2 (some .int) ∈ zws M) (hR : 1 ≤ rm.frames ∧ (st.map fun v => v.category).sum + 13 ≤ rm.locals) (hf : cu ≤ rm.cells ∧ su ≤ rm.slots)
    (K : Z G M rm ex Q n lv (.int (if x < y then y else x) :: st) h cu su) : Z G M rm ex Q pc lv (.int y :: .int x :: st) h cu su := by
  subst hn
  intro p e s m args below meth c H locs ls X hz hL hP hS
  obtain ⟨hx, hb, hml, hr, hown, hts, hlk9, hnm, hK⟩ := id X
  exact va_mmax hx hb (hml.trans hL.1.symm) hown (hts _ h1) (hts _ h2) (hts _ h3) (hts _ h4) hR.1 hR.2 hf.1 hf.2 hd (K p e s m args below meth c H locs ls X hz hL hP hS)
theorem z_mmin {index : Nat} {x y : Int32} (hd : decode (zcc M) pc = .ok (.invokestatic index, 3)) (hn : pc + 3 = n) (h1 : Cond.methodLink (zown M) index Lib.Math.min.name ∈ zws M) (h2 : Cond.static Lib.Math.min.name ∈ zws M) (h3 : Cond.initialized "java/lang/Math" ∈ zws M) (h4 : Cond.code Lib.Math.min.name Lib.Math.min.code 2 (some .int) ∈ zws M) (hR : 1 ≤ rm.frames ∧ (st.map fun v => v.category).sum + 13 ≤ rm.locals) (hf : cu ≤ rm.cells ∧ su ≤ rm.slots)
    (K : Z G M rm ex Q n lv (.int (if y < x then y else x) :: st) h cu su) : Z G M rm ex Q pc lv (.int y :: .int x :: st) h cu su := by
  subst hn
  intro p e s m args below meth c H locs ls X hz hL hP hS
  obtain ⟨hx, hb, hml, hr, hown, hts, hlk9, hnm, hK⟩ := id X
  exact va_mmin hx hb (hml.trans hL.1.symm) hown (hts _ h1) (hts _ h2) (hts _ h3) (hts _ h4) hR.1 hR.2 hf.1 hf.2 hd (K p e s m args below meth c H locs ls X hz hL hP hS)
theorem z_copy {n8 : Nat} {g9 : Nat → va_E} {index k0 k1 N0 N1 : Nat} {f g : Nat → Int32} {sp dp nn : Int32} (hd : decode (zcc M) pc = .ok (.invokestatic index, 3)) (hn : pc + 3 = n) (h1 : Cond.methodLink (zown M) index arraycopyName ∈ zws M) (h2 : Cond.native arraycopyName ∈ zws M) (h3 : Cond.static arraycopyName ∈ zws M) (h4 : Cond.initialized "java/lang/System" ∈ zws M)
    (hk0 : k0 < n8) (he0 : g9 k0 = zI G N0 f) (hk1 : k1 < n8) (he1 : g9 k1 = zI G N1 g) (g1 : ¬ sp < 0) (g2 : ¬ dp < 0) (g3 : ¬ nn < 0) (g4 : sp.toNatClampNeg + nn.toNatClampNeg ≤ N0) (g5 : dp.toNatClampNeg + nn.toNatClampNeg ≤ N1) (hR : 1 ≤ rm.frames ∧ (st.map fun v => v.category).sum + (nativeFrameWords "java/lang/System" "arraycopy" 5 + 11) ≤ rm.locals)
    (K : Z G M rm ex Q n lv st (n8, zu g9 k1 (zI G N1 (va_cpy f g sp.toNatClampNeg dp.toNatClampNeg nn.toNatClampNeg))) cu su) : Z G M rm ex Q pc lv (.int nn :: .int dp :: .ref (zB G + k1) :: .int sp :: .ref (zB G + k0) :: st) (n8, g9) cu su := by
  subst hn
  intro p e s m args below meth c H locs ls X hz hL hP hS
  obtain ⟨hx, hb, hml, hr, hown, hts, hlk9, hnm, hK⟩ := id X
  exact va_copyi hx hb (hml.trans hL.1.symm) hown (hts _ h1) (hts _ h2) (hts _ h3) (hts _ h4) hK.1 hP (zw_D G (n8, g9)) hS k0 k1 0 0 (by rw [zw_at (h := (n8, g9)) hk0]; show some (_, g9 k0) = _; rw [he0]) (by rw [zw_at (h := (n8, g9)) hk1]; show some (_, g9 k1) = _; rw [he1]) rfl rfl rfl g1 g2 g3 g4 g5 (fun _ _ => rfl) hR.1 hR.2 hd (fun H1 locs1 hP1 hD1 hS1 => by
    rw [zw_set (n := n8) (g := g9) hk1] at hP1
    exact K p e s m args below meth c H1 locs1 ls X hz hL hP1 hS1)
theorem z_ldcw {index : Nat} {v : Int32} (hd : decode (zcc M) pc = .ok (.ldc_w index, 3)) (hn : pc + 3 = n) (h1 : Cond.constant (zown M) index v ∈ zws M) (K : Z G M rm ex Q n lv (.int v :: st) h cu su) : Z G M rm ex Q pc lv st h cu su := by
  subst hn
  intro p e s m args below meth c H locs ls X hz hL hP hS
  obtain ⟨hx, hb, hml, hr, hown, hts, hlk9, hnm, hK⟩ := id X
  exact lv_ldcw hx hb hown (hts _ h1) hd (K p e s m args below meth c H locs ls X hz hL hP hS)
theorem z_tableIn {dflt lo hi : Int} {offs : Array Int} {len : Nat} {x : Int32} {off : Int} {tgt : Nat} (hd : decode (zcc M) pc = .ok (.tableswitch dflt lo hi offs, len)) (h1 : ¬ x.toInt < lo) (h2 : ¬ hi < x.toInt) (ho : offs[(x.toInt - lo).toNat]? = some off) (ht : (pc : Int) + off = (tgt : Int)) (K : Z G M rm ex Q tgt lv st h cu su) : Z G M rm ex Q pc lv (.int x :: st) h cu su := by
  intro p e s m args below meth c H locs ls X hz hL hP hS
  exact lv_tableIn X.1 X.2.1 hd h1 h2 ho ht (K p e s m args below meth c H locs ls X hz hL hP hS)
theorem z_tableOut {dflt lo hi : Int} {offs : Array Int} {len : Nat} {x : Int32} {tgt : Nat} (hd : decode (zcc M) pc = .ok (.tableswitch dflt lo hi offs, len)) (h1 : x.toInt < lo ∨ hi < x.toInt) (ht : (pc : Int) + dflt = (tgt : Int)) (K : Z G M rm ex Q tgt lv st h cu su) : Z G M rm ex Q pc lv (.int x :: st) h cu su := by
  intro p e s m args below meth c H locs ls X hz hL hP hS
  exact lv_tableOut X.1 X.2.1 hd h1 ht (K p e s m args below meth c H locs ls X hz hL hP hS)
theorem z_objInit {idx b : Nat} (hd : decode (zcc M) pc = .ok (.invokespecial idx, 3)) (hn : pc + 3 = n) (h1 : Cond.methodLink (zown M) idx objectInit ∈ zws M) (h2 : Cond.instanceMethod objectInit ∈ zws M) (h3 : Cond.code objectInit ⟨#[0xb1]⟩ 1 none ∈ zws M) (hR : 1 ≤ rm.frames ∧ (st.map fun v => v.category).sum + 12 ≤ rm.locals) (K : Z G M rm ex Q n lv st h cu su) : Z G M rm ex Q pc lv (.ref b :: st) h cu su := by
  subst hn
  intro p e s m args below meth c H locs ls X hz hL hP hS
  obtain ⟨hx, hb, hml, hr, hown, hts, hlk9, hnm, hK⟩ := id X
  refine W.objInit hx hb hown (hts _ h1) (hts _ h2) (hts _ h3) rfl (by rw [hml]; exact hL.1) rfl hd hR.1 (by have := hR.2; show 2 * (F0 m pc ls (.ref b :: st)).monitorRoom + _ + 12 ≤ _; rw [show (F0 m pc ls (.ref b :: st)).monitorRoom = 0 from rfl]; omega) ?_
  exact K p e s m args below meth c H locs ls X hz hL hP hS

theorem z_zz {nn k : Nat} {g9 : Nat → va_E} {d9 e9 : va_E} (K : Z G M rm ex Q pc lv st (nn, zu g9 k e9) cu su) : Z G M rm ex Q pc lv st (nn, zu (zu g9 k d9) k e9) cu su := by
  rw [zu_zu]
  exact K
theorem z_zc {nn k j : Nat} {g9 : Nat → va_E} {d9 e9 : va_E} (hkj : k ≠ j) (K : Z G M rm ex Q pc lv st (nn, zu (zu g9 j e9) k d9) cu su) : Z G M rm ex Q pc lv st (nn, zu (zu g9 k d9) j e9) cu su := by
  rw [zu_comm _ _ _ hkj]
  exact K
end ZR
