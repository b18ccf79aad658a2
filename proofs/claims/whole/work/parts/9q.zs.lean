def R_law : String := "ConfigSearchLaw"
def lw_P (b : Addr) (xs : List Int32) (args : Array Value) (s : State) : Prop := args = #[.ref b] ∧ s.IntsAt b xs ∧ xs.length ≤ 2560 ∧ (Jvm.Cond.and given_1 narrow_1).before args s = true
def lw_Q (_ : Array Value) (s : State) (o : Outcome) (t : State) : Prop := o = .returned (some (.int 1)) ∧ Framed s o t [] 601024 7293034
def lw_Z (below : List Frame) (a : Array Value) (s : State) : State → Prop := fun t => ∃ o, t.status = .running ∧ Ended t below o ∧ lw_Q a s o t
/-- the law's own end, with 1 on the stack, nothing written that was there before, its room as the claim has it -/
theorem lw_ret {p : Program} {l : Launch} {e : Env} {s : State} {m : MethodId} {below : List Frame} {meth : Method} {c : Code} {b : Nat} (hx : p.tables.exec = Jvm.exec) (hb : c.code = code) (hr : meth.sig.returnType = ret) (hlocks : meth.locks = false) {pc : Nat} {H : Heap} {ls : Array Slot} (hdg : decode code pc = .ok (.ireturn, 1)) : W p l e room_1 s m #[Value.ref b] below meth c H [] 601024 7293034 (lw_Z below #[Value.ref b] s) (F0 m pc ls [.int 1]) := by
  intro T hT X
  obtain ⟨fs, hret, hrun, hended, hW, hframe⟩ := X.leave (v := some (.int 1)) (hlocks := hlocks) (fun h => by rw [hr] at h; cases h)
  have hmeth' : T.vm.method? m = some meth := X.method'
  refine ⟨T.setFrames fs, ?_, .returned (some (.int 1)), hrun, hended, rfl, ⟨_, rfl⟩, hW, hframe⟩
  jvm_step X.here [X.here.top, hx, hb, hdg, hmeth', hr, ret, narrow_b1]
  (try refine ⟨rfl, ?_⟩); (try refine ⟨rfl, ?_⟩)
  first | (intro acts; rw [hret _ acts rfl rfl rfl]) | rw [hret _ _ rfl rfl rfl]
  exact Steps.refl _
/-- what holds at the law's entry: the machine, the code, the tables' words (any of lw_tbl by 'hts w (by decide +kernel)'), the script of L ints xs at the cell b, what the Statement gives of the start (any of its parts by flat_of_before) -/
def lw_At (p : Program) (s : State) (m : MethodId) (meth : Method) (c : Code) (b L : Nat) (xs : Nat → Int32) : Prop :=
  p.tables.exec = Jvm.exec ∧ c.code = code ∧ meth.sig.returnType = ret ∧ c.maxLocals = 7 ∧ s.vm.findClass R_law = some m.cls ∧ (∀ w ∈ lw_tbl, w.before #[Value.ref b] s = true) ∧ va_X b L xs s s.heap ∧ b < s.heap.size ∧ meth.locks = false ∧ (Jvm.Cond.and given_1 narrow_1).before #[Value.ref b] s = true
/-! ===== the law's own judgement: the script lies ahead of the cells ===== -/
def ZS (G : zG) (M : zM) (rm : Room) (ex : Bool) (b9 L9 : Nat) (xs9 : Nat → Int32) (Qf : List Frame → Array Value → State → State → Prop) (pc : Nat) (lv : List (Option Value)) (st : List Value) (h : zAH) (cu su : Nat) : Prop :=
  ∀ (p : Program) (e : Env) (s : State) (m : MethodId) (args : Array Value) (below : List Frame) (meth : Method) (c : Code) (H : Heap) (locs : List Loc) (ls : Array Slot),
    (args = #[Value.ref b9] ∧ s.heap.size = zB G ∧ va_T .int b9 L9 (fun j => .int (xs9 j)) (zA G) s s.heap) → zX G M p s m args meth c → (ex = true → s.heap.size + cu = zB G + h.1) → zL ls (znL M) lv → zHd G h H → va_S (zA G) s.heap H locs →
    W p (zl G) e rm s m args below meth c H locs cu su (Qf below args s) (F0 m pc ls st)
section ZSR
variable {G : zG} {M : zM} {rm : Room} {ex : Bool} {b9 L9 : Nat} {xs9 : Nat → Int32} {Qf : List Frame → Array Value → State → State → Prop} {pc n : Nat} {lv : List (Option Value)} {st : List Value} {h : zAH} {cu su : Nat}
theorem zs_aload_n {k : Fin 4} {x : Nat} (hd : decode (zcc M) pc = .ok (.aload_n k, 1)) (hn : pc + 1 = n) (hl : lv[k.val]? = some (some (.ref x))) (K : ZS G M rm ex b9 L9 xs9 Qf n lv (.ref x :: st) h cu su) : ZS G M rm ex b9 L9 xs9 Qf pc lv (st) h cu su := by
  subst hn
  intro p e s m args below meth c H locs ls S9 X hz hL hP hS
  exact lv_aload_n X.1 X.2.1 hd rfl (hL.2.2.2 _ _ hl).2 (K p e s m args below meth c H locs ls S9 X hz hL hP hS)
theorem zs_iload {k : Nat} {x : Int32} (hd : decode (zcc M) pc = .ok (.iload k, 2)) (hn : pc + 2 = n) (hl : lv[k]? = some (some (.int x))) (K : ZS G M rm ex b9 L9 xs9 Qf n lv (.int x :: st) h cu su) : ZS G M rm ex b9 L9 xs9 Qf pc lv (st) h cu su := by
  subst hn
  intro p e s m args below meth c H locs ls S9 X hz hL hP hS
  exact lv_iload X.1 X.2.1 hd (hL.2.2.2 _ _ hl).2 (K p e s m args below meth c H locs ls S9 X hz hL hP hS)
theorem zs_iconst {v : Int32} {j : Int} (hd : decode (zcc M) pc = .ok (.iconst j, 1)) (hn : pc + 1 = n) (hv : Int32.ofInt j = v) (K : ZS G M rm ex b9 L9 xs9 Qf n lv (.int v :: st) h cu su) : ZS G M rm ex b9 L9 xs9 Qf pc lv (st) h cu su := by
  subst hn
  intro p e s m args below meth c H locs ls S9 X hz hL hP hS
  exact lv_iconst X.1 X.2.1 hd hv (K p e s m args below meth c H locs ls S9 X hz hL hP hS)
theorem zs_bipush {v : Int32} {j : Int} (hd : decode (zcc M) pc = .ok (.bipush j, 2)) (hn : pc + 2 = n) (hv : (Int8.ofInt j).toInt32 = v) (K : ZS G M rm ex b9 L9 xs9 Qf n lv (.int v :: st) h cu su) : ZS G M rm ex b9 L9 xs9 Qf pc lv (st) h cu su := by
  subst hn
  intro p e s m args below meth c H locs ls S9 X hz hL hP hS
  exact lv_bipush X.1 X.2.1 hd hv (K p e s m args below meth c H locs ls S9 X hz hL hP hS)
theorem zs_iadd {x y : Int32} (hd : decode (zcc M) pc = .ok (.iadd, 1)) (hn : pc + 1 = n) (K : ZS G M rm ex b9 L9 xs9 Qf n lv (.int (x + y) :: st) h cu su) : ZS G M rm ex b9 L9 xs9 Qf pc lv (.int y :: .int x :: st) h cu su := by
  subst hn
  intro p e s m args below meth c H locs ls S9 X hz hL hP hS
  exact lv_iadd X.1 X.2.1 hd (K p e s m args below meth c H locs ls S9 X hz hL hP hS)
theorem zs_isub {x y : Int32} (hd : decode (zcc M) pc = .ok (.isub, 1)) (hn : pc + 1 = n) (K : ZS G M rm ex b9 L9 xs9 Qf n lv (.int (x - y) :: st) h cu su) : ZS G M rm ex b9 L9 xs9 Qf pc lv (.int y :: .int x :: st) h cu su := by
  subst hn
  intro p e s m args below meth c H locs ls S9 X hz hL hP hS
  exact lv_isub X.1 X.2.1 hd (K p e s m args below meth c H locs ls S9 X hz hL hP hS)
theorem zs_iand {x y : Int32} (hd : decode (zcc M) pc = .ok (.iand, 1)) (hn : pc + 1 = n) (K : ZS G M rm ex b9 L9 xs9 Qf n lv (.int (x &&& y) :: st) h cu su) : ZS G M rm ex b9 L9 xs9 Qf pc lv (.int y :: .int x :: st) h cu su := by
  subst hn
  intro p e s m args below meth c H locs ls S9 X hz hL hP hS
  exact lv_iand X.1 X.2.1 hd (K p e s m args below meth c H locs ls S9 X hz hL hP hS)
theorem zs_icmp_gt {x y : Int32} {off : Int} {tgt : Nat} (hd : decode (zcc M) pc = .ok (.if_icmp .gt off, 3)) (hn : pc + 3 = n) (ht : (pc : Int) + off = (tgt : Int)) (kt : y < x → ZS G M rm ex b9 L9 xs9 Qf tgt lv st h cu su) (kf : ¬ y < x → ZS G M rm ex b9 L9 xs9 Qf n lv st h cu su) : ZS G M rm ex b9 L9 xs9 Qf pc lv (.int y :: .int x :: st) h cu su := by
  subst hn
  intro p e s m args below meth c H locs ls S9 X hz hL hP hS
  exact lv_icmp_gt X.1 X.2.1 hd ht (fun q => kt q p e s m args below meth c H locs ls S9 X hz hL hP hS) (fun q => kf q p e s m args below meth c H locs ls S9 X hz hL hP hS)
theorem zs_icmp_eq {x y : Int32} {off : Int} {tgt : Nat} (hd : decode (zcc M) pc = .ok (.if_icmp .eq off, 3)) (hn : pc + 3 = n) (ht : (pc : Int) + off = (tgt : Int)) (kt : x = y → ZS G M rm ex b9 L9 xs9 Qf tgt lv st h cu su) (kf : ¬ x = y → ZS G M rm ex b9 L9 xs9 Qf n lv st h cu su) : ZS G M rm ex b9 L9 xs9 Qf pc lv (.int y :: .int x :: st) h cu su := by
  subst hn
  intro p e s m args below meth c H locs ls S9 X hz hL hP hS
  exact lv_icmp_eq X.1 X.2.1 hd ht (fun q => kt q p e s m args below meth c H locs ls S9 X hz hL hP hS) (fun q => kf q p e s m args below meth c H locs ls S9 X hz hL hP hS)
theorem zs_if_eq {x : Int32} {off : Int} {tgt : Nat} (hd : decode (zcc M) pc = .ok (.ifCond .eq off, 3)) (hn : pc + 3 = n) (ht : (pc : Int) + off = (tgt : Int)) (kt : x = 0 → ZS G M rm ex b9 L9 xs9 Qf tgt lv st h cu su) (kf : ¬ x = 0 → ZS G M rm ex b9 L9 xs9 Qf n lv st h cu su) : ZS G M rm ex b9 L9 xs9 Qf pc lv (.int x :: st) h cu su := by
  subst hn
  intro p e s m args below meth c H locs ls S9 X hz hL hP hS
  exact lv_if_eq X.1 X.2.1 hd ht (fun q => kt q p e s m args below meth c H locs ls S9 X hz hL hP hS) (fun q => kf q p e s m args below meth c H locs ls S9 X hz hL hP hS)
theorem zs_if_ne {x : Int32} {off : Int} {tgt : Nat} (hd : decode (zcc M) pc = .ok (.ifCond .ne off, 3)) (hn : pc + 3 = n) (ht : (pc : Int) + off = (tgt : Int)) (kt : ¬ x = 0 → ZS G M rm ex b9 L9 xs9 Qf tgt lv st h cu su) (kf : x = 0 → ZS G M rm ex b9 L9 xs9 Qf n lv st h cu su) : ZS G M rm ex b9 L9 xs9 Qf pc lv (.int x :: st) h cu su := by
  subst hn
  intro p e s m args below meth c H locs ls S9 X hz hL hP hS
  exact lv_if_ne X.1 X.2.1 hd ht (fun q => kt q p e s m args below meth c H locs ls S9 X hz hL hP hS) (fun q => kf q p e s m args below meth c H locs ls S9 X hz hL hP hS)
theorem zs_goto {off : Int} {tgt : Nat} (hd : decode (zcc M) pc = .ok (.goto off, 3)) (ht : (pc : Int) + off = (tgt : Int)) (K : ZS G M rm ex b9 L9 xs9 Qf tgt lv st h cu su) : ZS G M rm ex b9 L9 xs9 Qf pc lv st h cu su := by
  intro p e s m args below meth c H locs ls S9 X hz hL hP hS
  exact lv_goto X.1 X.2.1 hd ht (K p e s m args below meth c H locs ls S9 X hz hL hP hS)
theorem zs_tableIn {dflt lo hi : Int} {offs : Array Int} {len : Nat} {x : Int32} {off : Int} {tgt : Nat} (hd : decode (zcc M) pc = .ok (.tableswitch dflt lo hi offs, len)) (h1 : ¬ x.toInt < lo) (h2 : ¬ hi < x.toInt) (ho : offs[(x.toInt - lo).toNat]? = some off) (ht : (pc : Int) + off = (tgt : Int)) (K : ZS G M rm ex b9 L9 xs9 Qf tgt lv st h cu su) : ZS G M rm ex b9 L9 xs9 Qf pc lv (.int x :: st) h cu su := by
  intro p e s m args below meth c H locs ls S9 X hz hL hP hS
  exact lv_tableIn X.1 X.2.1 hd h1 h2 ho ht (K p e s m args below meth c H locs ls S9 X hz hL hP hS)
theorem zs_tableOut {dflt lo hi : Int} {offs : Array Int} {len : Nat} {x : Int32} {tgt : Nat} (hd : decode (zcc M) pc = .ok (.tableswitch dflt lo hi offs, len)) (h1 : x.toInt < lo ∨ hi < x.toInt) (ht : (pc : Int) + dflt = (tgt : Int)) (K : ZS G M rm ex b9 L9 xs9 Qf tgt lv st h cu su) : ZS G M rm ex b9 L9 xs9 Qf pc lv (.int x :: st) h cu su := by
  intro p e s m args below meth c H locs ls S9 X hz hL hP hS
  exact lv_tableOut X.1 X.2.1 hd h1 ht (K p e s m args below meth c H locs ls S9 X hz hL hP hS)
theorem zs_astore_n0 {k : Fin 4} {x : Nat} (hd : decode (zcc M) pc = .ok (.astore_n k, 1)) (hn : pc + 1 = n) (hi : k.val < lv.length) (K : ZS G M rm ex b9 L9 xs9 Qf n (lv.set k.val (some (.ref x))) st h cu su) : ZS G M rm ex b9 L9 xs9 Qf pc lv (.ref x :: st) h cu su := by
  subst hn
  intro p e s m args below meth c H locs ls S9 X hz hL hP hS
  exact lv_astore_n X.1 X.2.1 hd rfl (zL_has hL) (by rw [← hL.2.1]; exact hi) rfl (fun ls' h' => K p e s m args below meth c H locs ls' S9 X hz (zL_set hL hi rfl h') hP hS)
theorem zs_istore0 {k : Nat} {x : Int32} (hd : decode (zcc M) pc = .ok (.istore k, 2)) (hn : pc + 2 = n) (hi : k < lv.length) (K : ZS G M rm ex b9 L9 xs9 Qf n (lv.set k (some (.int x))) st h cu su) : ZS G M rm ex b9 L9 xs9 Qf pc lv (.int x :: st) h cu su := by
  subst hn
  intro p e s m args below meth c H locs ls S9 X hz hL hP hS
  exact lv_istore X.1 X.2.1 hd (zL_has hL) (by rw [← hL.2.1]; exact hi) rfl (fun ls' h' => K p e s m args below meth c H locs ls' S9 X hz (zL_set hL hi rfl h') hP hS)
theorem zs_iinc0 {k : Nat} {j : Int} {x : Int32} (hd : decode (zcc M) pc = .ok (.iinc k j, 3)) (hn : pc + 3 = n) (hl : lv[k]? = some (some (.int x))) (hi : k < lv.length) (K : ZS G M rm ex b9 L9 xs9 Qf n (lv.set k (some (.int (x + Int32.ofInt j)))) st h cu su) : ZS G M rm ex b9 L9 xs9 Qf pc lv st h cu su := by
  subst hn
  intro p e s m args below meth c H locs ls S9 X hz hL hP hS
  obtain ⟨i, hi9⟩ := List.getElem?_of_mem (zAs_in.mpr hl)
  exact lv_iinc X.1 X.2.1 hd (zL_has hL) hi9 rfl (by rw [← hL.2.1]; exact hi) rfl (fun ls' h' => K p e s m args below meth c H locs ls' S9 X hz (zL_set hL hi rfl h') hP hS)
theorem zs_astore_1 {a0 a1 : Option Value} {r : List (Option Value)} {x : Nat} (hd : decode (zcc M) pc = .ok (.astore_n 1, 1)) (hn : pc + 1 = n) (K : ZS G M rm ex b9 L9 xs9 Qf n (a0 :: some (.ref x) :: r) st h cu su) : ZS G M rm ex b9 L9 xs9 Qf pc (a0 :: a1 :: r) (.ref x :: st) h cu su := zs_astore_n0 hd hn (by show 1 < ((a0 :: a1 :: r) : List (Option Value)).length; simp) K
theorem zs_astore_2 {a0 a1 a2 : Option Value} {r : List (Option Value)} {x : Nat} (hd : decode (zcc M) pc = .ok (.astore_n 2, 1)) (hn : pc + 1 = n) (K : ZS G M rm ex b9 L9 xs9 Qf n (a0 :: a1 :: some (.ref x) :: r) st h cu su) : ZS G M rm ex b9 L9 xs9 Qf pc (a0 :: a1 :: a2 :: r) (.ref x :: st) h cu su := zs_astore_n0 hd hn (by show 2 < ((a0 :: a1 :: a2 :: r) : List (Option Value)).length; simp) K
theorem zs_astore_3 {a0 a1 a2 a3 : Option Value} {r : List (Option Value)} {x : Nat} (hd : decode (zcc M) pc = .ok (.astore_n 3, 1)) (hn : pc + 1 = n) (K : ZS G M rm ex b9 L9 xs9 Qf n (a0 :: a1 :: a2 :: some (.ref x) :: r) st h cu su) : ZS G M rm ex b9 L9 xs9 Qf pc (a0 :: a1 :: a2 :: a3 :: r) (.ref x :: st) h cu su := zs_astore_n0 hd hn (by show 3 < ((a0 :: a1 :: a2 :: a3 :: r) : List (Option Value)).length; simp) K
theorem zs_istore_4 {a0 a1 a2 a3 a4 : Option Value} {r : List (Option Value)} {x : Int32} (hd : decode (zcc M) pc = .ok (.istore 4, 2)) (hn : pc + 2 = n) (K : ZS G M rm ex b9 L9 xs9 Qf n (a0 :: a1 :: a2 :: a3 :: some (.int x) :: r) st h cu su) : ZS G M rm ex b9 L9 xs9 Qf pc (a0 :: a1 :: a2 :: a3 :: a4 :: r) (.int x :: st) h cu su := zs_istore0 hd hn (by simp) K
theorem zs_istore_5 {a0 a1 a2 a3 a4 a5 : Option Value} {r : List (Option Value)} {x : Int32} (hd : decode (zcc M) pc = .ok (.istore 5, 2)) (hn : pc + 2 = n) (K : ZS G M rm ex b9 L9 xs9 Qf n (a0 :: a1 :: a2 :: a3 :: a4 :: some (.int x) :: r) st h cu su) : ZS G M rm ex b9 L9 xs9 Qf pc (a0 :: a1 :: a2 :: a3 :: a4 :: a5 :: r) (.int x :: st) h cu su := zs_istore0 hd hn (by simp) K
theorem zs_istore_6 {a0 a1 a2 a3 a4 a5 a6 : Option Value} {r : List (Option Value)} {x : Int32} (hd : decode (zcc M) pc = .ok (.istore 6, 2)) (hn : pc + 2 = n) (K : ZS G M rm ex b9 L9 xs9 Qf n (a0 :: a1 :: a2 :: a3 :: a4 :: a5 :: some (.int x) :: r) st h cu su) : ZS G M rm ex b9 L9 xs9 Qf pc (a0 :: a1 :: a2 :: a3 :: a4 :: a5 :: a6 :: r) (.int x :: st) h cu su := zs_istore0 hd hn (by simp) K
theorem zs_iinc_4 {a0 a1 a2 a3 : Option Value} {r : List (Option Value)} {j : Int} {x v : Int32} (hd : decode (zcc M) pc = .ok (.iinc 4 j, 3)) (hn : pc + 3 = n) (hj : x + Int32.ofInt j = v) (K : ZS G M rm ex b9 L9 xs9 Qf n (a0 :: a1 :: a2 :: a3 :: some (.int v) :: r) st h cu su) : ZS G M rm ex b9 L9 xs9 Qf pc (a0 :: a1 :: a2 :: a3 :: some (.int x) :: r) st h cu su := by
  subst hj
  exact zs_iinc0 hd hn rfl (by simp) K
theorem zs_dup {v : Value} (hd : decode (zcc M) pc = .ok (.dup, 1)) (hn : pc + 1 = n) (hv : v.category = 1) (K : ZS G M rm ex b9 L9 xs9 Qf n lv (v :: v :: st) h cu su) : ZS G M rm ex b9 L9 xs9 Qf pc lv (v :: st) h cu su := by
  subst hn
  intro p e s m args below meth c H locs ls S9 X hz hL hP hS
  exact lv_dup X.1 X.2.1 hd hv (K p e s m args below meth c H locs ls S9 X hz hL hP hS)
theorem zs_i2l {x : Int32} (hd : decode (zcc M) pc = .ok (.i2l, 1)) (hn : pc + 1 = n) (K : ZS G M rm ex b9 L9 xs9 Qf n lv (.long x.toInt64 :: st) h cu su) : ZS G M rm ex b9 L9 xs9 Qf pc lv (.int x :: st) h cu su := by
  subst hn
  intro p e s m args below meth c H locs ls S9 X hz hL hP hS
  exact lv_i2l X.1 X.2.1 hd rfl (K p e s m args below meth c H locs ls S9 X hz hL hP hS)
theorem zs_lald {k N : Nat} {f : Nat → Int64} {i : Int32} (hd : decode (zcc M) pc = .ok (.laload, 1)) (hn : pc + 1 = n) (hk : k < h.1) (he : h.2 k = zJ G N f) (hi : vp_in i N)
    (K : ZS G M rm ex b9 L9 xs9 Qf n lv (.long (f i.toNatClampNeg) :: st) h cu su) : ZS G M rm ex b9 L9 xs9 Qf pc lv (.int i :: .ref (zB G + k) :: st) h cu su := by
  subst hn
  intro p e s m args below meth c H locs ls S9 X hz hL hP hS
  obtain ⟨hx, hb, hml, hr, hown, hts, hlk9, hnm, hK⟩ := id X
  exact va_lald hx hb hK.1 hP k 3 (by rw [zw_at hk, he]) rfl hi hd (K p e s m args below meth c H locs ls S9 X hz hL hP hS)
theorem zs_lcmp {n : Nat} {x y : Int64} (hd : decode (zcc M) pc = .ok (.lcmp, 1)) (hn : pc + 1 = n) (K : ZS G M rm ex b9 L9 xs9 Qf n lv (.int (lg_cmp x y) :: st) h cu su) : ZS G M rm ex b9 L9 xs9 Qf pc lv (.long y :: .long x :: st) h cu su := by
  subst hn
  intro p e s m args below meth c H locs ls S9 X hz hL hP hS
  exact W.lcmp X.1 X.2.1 hd (K p e s m args below meth c H locs ls S9 X hz hL hP hS)
theorem zs_callV {index : Nat} {y : MethodName} {ws ws' : List Cond} {bytes : ByteArray} {maxL : Nat} {ret : Option FieldType} {rm' : Room} {As rest : List Value} {Q' : Option Value → zAH → Prop} {k ci N : Nat} {C : String} {T0 : u_T} {fs : List Value} (hC : zC G y ws rm' ex (.ref (zB G + k) :: As) h Q') (hG : GoodIn (zws M) (wsV (zown M) index C y ws)) (hw : ws = Cond.code y bytes maxL ret :: ws') (hd : decode (zcc M) pc = .ok (.invokevirtual index, 3)) (hn : pc + 3 = n)
    (hst : st = As.reverse ++ .ref (zB G + k) :: rest) (hyC : y.cls = C) (ho : zOk y As.length) (hk : k < h.1) (he : h.2 k = .inr (ci, fs)) (hc : vwCl[ci]? = some (C, T0, N)) (hR : rm'.frames + 1 ≤ rm.frames ∧ 8 + (maxL + 11) + rm'.locals ≤ rm.locals) (hf : cu + rm'.cells ≤ rm.cells ∧ su + rm'.slots ≤ rm.slots) (hs : (rest.map fun v => v.category).sum ≤ 8)
    (K : ∀ (r : Option Value) (h' : zAH), Q' r h' → ZS G M rm ex b9 L9 xs9 Qf n lv (r.toList ++ rest) h' (cu + rm'.cells) (su + rm'.slots)) : ZS G M rm ex b9 L9 xs9 Qf pc lv st h cu su := by
  subst hn
  intro p e s m args below meth c H locs ls S9 X hz hL hP hS
  obtain ⟨hx, hb, hml, hr, hown, hts, hlk9, hnm, hK⟩ := id X
  intro T hT XT
  have hsz : ex = true → H.size = zB G + h.1 := fun he => by
    subst hT
    exact z_size XT hP hS hK.2.2 (hz he)
  exact z_run (va_runV (As := As) (rest := rest) (b := zB G + k) ⟨hx, hb, hml, hown, hts⟩ hC (cwV As.length hts hG hw rfl rfl ⟨hyC, ho⟩ hR) ⟨z_blind, va_recv hK.1 hP (ci := ci) (q0 := k) (fs := fs) hc (by rw [zw_at hk, he]), fun U hU hW => ⟨rfl, by rw [hU]; exact hP, hK.moved hU hW hS, fun he => by rw [hU]; exact hsz he⟩⟩ rfl rfl hL.1 hst (lv_room hs) hd hf) hP hS hK.2.2 hz
    (fun r h' H1 locs1 hq hP1 hz1 hS1 => K r h' hq p e s m args below meth c H1 locs1 ls S9 X hz1 hL hP1 hS1) T hT XT
theorem zs_callVi {index : Nat} {y : MethodName} {ws ws' : List Cond} {bytes : ByteArray} {maxL : Nat} {ret : Option FieldType} {f9 l9 : Nat} {As rest : List Value} {v : Int32} {h' : zAH} {k ci N : Nat} {C : String} {T0 : u_T} {fs : List Value} (hC : zC G y ws (zrm f9 l9) ex (.ref (zB G + k) :: As) h (fun r h9 => r = some (.int v) ∧ h9 = h')) (hG : GoodIn (zws M) (wsV (zown M) index C y ws)) (hw : ws = Cond.code y bytes maxL ret :: ws') (hd : decode (zcc M) pc = .ok (.invokevirtual index, 3)) (hn : pc + 3 = n)
    (hst : st = As.reverse ++ .ref (zB G + k) :: rest) (hyC : y.cls = C) (ho : zOk y As.length) (hk : k < h.1) (he : h.2 k = .inr (ci, fs)) (hc : vwCl[ci]? = some (C, T0, N)) (hR : f9 + 1 ≤ rm.frames ∧ 8 + (maxL + 11) + l9 ≤ rm.locals) (hf : cu ≤ rm.cells ∧ su ≤ rm.slots) (hs : (rest.map fun v => v.category).sum ≤ 8)
    (K : ZS G M rm ex b9 L9 xs9 Qf n lv (.int v :: rest) h' cu su) : ZS G M rm ex b9 L9 xs9 Qf pc lv st h cu su :=
  zs_callV hC hG hw hd hn hst hyC ho hk he hc hR hf hs (fun r h9 hq => by obtain ⟨rfl, rfl⟩ := hq; exact K)
theorem zs_callI {index : Nat} {y : MethodName} {ws ws' : List Cond} {bytes : ByteArray} {maxL : Nat} {rm' : Room} {As rest : List Value} {Q' : Option Value → zAH → Prop} {b : Nat} (hC : zC G y ws rm' ex (.ref b :: As) h Q') (hG : GoodIn (zws M) ws) (hw : ws = Cond.code y bytes maxL none :: ws') (hd : decode (zcc M) pc = .ok (.invokespecial index, 3)) (hn : pc + 3 = n)
    (hini : Cond.initialized y.cls ∈ zws M) (hml0 : Cond.methodLink (zown M) index y ∈ zws M) (hins : Cond.instanceMethod y ∈ zws M) (hyn : y.name = "<init>") (hst : st = As.reverse ++ .ref b :: rest) (ho : zOk y As.length) (hR : rm'.frames + 1 ≤ rm.frames ∧ 8 + (maxL + 11) + rm'.locals ≤ rm.locals) (hf : cu + rm'.cells ≤ rm.cells ∧ su + rm'.slots ≤ rm.slots) (hs : (rest.map fun v => v.category).sum ≤ 8)
    (K : ∀ (r : Option Value) (h' : zAH), Q' r h' → ZS G M rm ex b9 L9 xs9 Qf n lv (r.toList ++ rest) h' (cu + rm'.cells) (su + rm'.slots)) : ZS G M rm ex b9 L9 xs9 Qf pc lv st h cu su := by
  subst hn
  intro p e s m args below meth c H locs ls S9 X hz hL hP hS
  obtain ⟨hx, hb, hml, hr, hown, hts, hlk9, hnm, hK⟩ := id X
  intro T hT XT
  have hsz : ex = true → H.size = zB G + h.1 := fun he => by
    subst hT
    exact z_size XT hP hS hK.2.2 (hz he)
  exact z_run (va_runI (As := As) (rest := rest) (b := b) ⟨hx, hb, hml, hown, hts⟩ hC (cwI As.length hts hG hw rfl rfl (hts _ hini) (hts _ hml0) (hts _ hins) hyn ho hR) ⟨z_blind, fun U hU hW => ⟨rfl, by rw [hU]; exact hP, hK.moved hU hW hS, fun he => by rw [hU]; exact hsz he⟩⟩ rfl rfl hL.1 hst (lv_room hs) hd hf) hP hS hK.2.2 hz
    (fun r h' H1 locs1 hq hP1 hz1 hS1 => K r h' hq p e s m args below meth c H1 locs1 ls S9 X hz1 hL hP1 hS1) T hT XT
theorem zs_callIv {index : Nat} {y : MethodName} {ws ws' : List Cond} {bytes : ByteArray} {maxL : Nat} {rm' : Room} {As rest : List Value} {h' : zAH} {b : Nat} (hC : zC G y ws rm' true (.ref b :: As) h (fun r h9 => r = none ∧ h9 = h')) (hG : GoodIn (zws M) ws) (hw : ws = Cond.code y bytes maxL none :: ws') (hd : decode (zcc M) pc = .ok (.invokespecial index, 3)) (hn : pc + 3 = n)
    (hini : Cond.initialized y.cls ∈ zws M) (hml0 : Cond.methodLink (zown M) index y ∈ zws M) (hins : Cond.instanceMethod y ∈ zws M) (hyn : y.name = "<init>") (hst : st = As.reverse ++ .ref b :: rest) (ho : zOk y As.length) (hR : rm'.frames + 1 ≤ rm.frames ∧ 8 + (maxL + 11) + rm'.locals ≤ rm.locals) (hf : cu + rm'.cells ≤ rm.cells ∧ su + rm'.slots ≤ rm.slots) (hs : (rest.map fun v => v.category).sum ≤ 8)
    (K : ZS G M rm true b9 L9 xs9 Qf n lv rest h' (cu + rm'.cells) (su + rm'.slots)) : ZS G M rm true b9 L9 xs9 Qf pc lv st h cu su :=
  zs_callI hC hG hw hd hn hini hml0 hins hyn hst ho hR hf hs (fun r h9 hq => by obtain ⟨rfl, rfl⟩ := hq; exact K)
theorem zs_newa {nn N kt : Nat} {g9 : Nat → va_E} {at9 : ArrayType} {cA : ClassId} {x : Int32} {a0 : vp_A} (hd : decode (zcc M) pc = .ok (.newarray at9, 2)) (hn : pc + 2 = n) (harr : Cond.arrayClass (newarray.typeOf at9) ∈ zws M) (hkt : (zT G)[kt]? = some (cA, newarray.typeOf at9)) (ha : ∀ c : ClassId, vp_cell c a0 = arrV c N (fun _ => defaultValue (newarray.typeOf at9))) (hx : ¬ x < 0) (hN : x.toNatClampNeg = N) (hby : N * componentBytes (newarray.typeOf at9) ≤ 536870912) (hc : cu + 1 ≤ rm.cells) (hs : su + N ≤ rm.slots)
    (K : ZS G M rm true b9 L9 xs9 Qf n lv (.ref (zB G + nn) :: st) (nn + 1, zu g9 nn (.inl (cA, a0))) (cu + 1) (su + N)) : ZS G M rm true b9 L9 xs9 Qf pc lv (.int x :: st) (nn, g9) cu su := by
  subst hn
  intro p e s m args below meth c H locs ls S9 X hz hL hP hS
  obtain ⟨hx1, hb, hml, hr, hown, hts, hlk9, hnm, hK⟩ := id X
  intro T hT XT
  have hsz : H.size = zB G + nn := by
    subst hT
    exact z_size XT hP hS hK.2.2 (hz rfl)
  suffices key : W p (zl G) e rm s m args below meth c H locs cu su (Qf below args s) (F0 m pc ls (.int x :: st)) from key T hT XT
  refine va_newaK hx1 hb (hts _ harr) rfl hd rfl hx hN hby hc hs hsz (fun H1 cB e1 z1 o1 hAr hNm => ?_)
  have hcc : cB = cA := by
    have q := (hK.1.2 kt _ hkt).2
    cases at9 <;> exact Option.some.inj (hNm.symm.trans q)
  subst hcc
  have hP1 : zHd G (nn + 1, zu g9 nn (.inl (cB, a0))) H1 := zHd_push hP hsz o1 (by show H1[zB G + nn]? = some (vp_cell cB a0); rw [ha]; exact e1)
  have h9 : s.heap.size + cu = zB G + nn := hz rfl
  have h8 : s.heap.size + (cu + 1) = zB G + (nn + 1) := by omega
  have h7 : s.heap.size ≤ H.size := hS.1
  have h6 : H.size ≤ H1.size := by omega
  exact K p e s m args below meth c H1 locs ls S9 X (fun _ => h8) hL hP1 ⟨Nat.le_trans h7 h6, fun x h1 h2 => (o1 x (by rw [← hsz]; exact Nat.lt_of_lt_of_le h1 h7)).trans (hS.2.1 x h1 h2), hS.2.2⟩
theorem zs_newJ {nn N : Nat} {g9 : Nat → va_E} (hd : decode (zcc M) pc = .ok (.newarray .long, 2)) (hn : pc + 2 = n) (harr : Cond.arrayClass .long ∈ zws M) (hN : N ≤ 1000) (hc : cu + 1 ≤ rm.cells) (hs : su + N ≤ rm.slots)
    (K : ZS G M rm true b9 L9 xs9 Qf n lv (.ref (zB G + nn) :: st) (nn + 1, zu g9 nn (zJ G N (fun _ => 0))) (cu + 1) (su + N)) : ZS G M rm true b9 L9 xs9 Qf pc lv (.int (nI N) :: st) (nn, g9) cu su :=
  zs_newa (N := N) (kt := 3) (cA := cJ G) (a0 := (N, .inr (.inl (fun _ => 0)))) hd hn harr rfl (fun _ => rfl) (nI_nlt (Nat.zero_le _) (by omega)) (pk_cl N rfl (by omega)) (by first | (show N * 4 ≤ _; omega) | (show N * 8 ≤ _; omega) | (show N * 1 ≤ _; omega)) hc hs K
theorem zs_newo {nn N ci index : Nat} {g9 : Nat → va_E} {C : String} {T9 : u_T} {fs : List Value} (ty : Nat → FieldType) (hty : ∀ k, k < N → parseFieldDescriptor (T9 k).2.2.1 = some (ty k)) (hd : decode (zcc M) pc = .ok (.new index, 3)) (hn : pc + 3 = n) (hin : ∀ w ∈ u_ws C T9 N, w ∈ zws M) (hcl : Cond.classLink (zown M) index C ∈ zws M) (hins : Cond.instantiable C N ∈ zws M) (hini : Cond.initialized C ∈ zws M) (hc9 : vwCl[ci]? = some (C, T9, N)) (hfs : ∀ j, j < N → defaultValue (ty j) = vp_V fs j) (hc : cu + 1 ≤ rm.cells) (hs : su + N ≤ rm.slots)
    (K : ZS G M rm true b9 L9 xs9 Qf n lv (.ref (zB G + nn) :: st) (nn + 1, zu g9 nn (.inr (ci, fs))) (cu + 1) (su + N)) : ZS G M rm true b9 L9 xs9 Qf pc lv st (nn, g9) cu su := by
  subst hn
  intro p e s m args below meth c H locs ls S9 X hz hL hP hS
  obtain ⟨hx1, hb, hml, hr, hown, hts, hlk9, hnm, hK⟩ := id X
  intro T hT XT
  have hsz : H.size = zB G + nn := by
    subst hT
    exact z_size XT hP hS hK.2.2 (hz rfl)
  have hKn := hK.1.1 ci _ hc9
  suffices key : W p (zl G) e rm s m args below meth c H locs cu su (Qf below args s) (F0 m pc ls st) from key T hT XT
  refine W.newcK hx1 hb hown (hts _ hcl) (hts _ hins) (hts _ hini) rfl hd hc hs hKn.2.1 hsz (fun H1 kC hkC e1 z1 o1 => ?_)
  have hP1 : zHd G (nn + 1, zu g9 nn (.inr (ci, fs))) H1 := zHd_push hP hsz o1 ⟨_, hc9, (u_born ty hts hin hKn hkC e1 hty).to hfs⟩
  have h9 : s.heap.size + cu = zB G + nn := hz rfl
  have h8 : s.heap.size + (cu + 1) = zB G + (nn + 1) := by omega
  have h7 : s.heap.size ≤ H.size := hS.1
  have h6 : H.size ≤ H1.size := by omega
  exact K p e s m args below meth c H1 locs ls S9 X (fun _ => h8) hL hP1 ⟨Nat.le_trans h7 h6, fun x h1 h2 => (o1 x (by rw [← hsz]; exact Nat.lt_of_lt_of_le h1 h7)).trans (hS.2.1 x h1 h2), hS.2.2⟩
theorem zs_heap {nn : Nat} {g9 g' : Nat → va_E} (hh : g9 = g') (K : ZS G M rm ex b9 L9 xs9 Qf pc lv st (nn, g') cu su) : ZS G M rm ex b9 L9 xs9 Qf pc lv st (nn, g9) cu su := by
  subst hh
  exact K
theorem zs_weak (K : ZS G M rm false b9 L9 xs9 Qf pc lv st h cu su) : ZS G M rm true b9 L9 xs9 Qf pc lv st h cu su := by
  intro p e s m args below meth c H locs ls S9 X hz hL hP hS
  exact K p e s m args below meth c H locs ls S9 X (fun he => nomatch he) hL hP hS
theorem zs_agree {nn : Nat} {g9 g' : Nat → va_E} (hg : ∀ k, k < nn → g9 k = g' k) (K : ZS G M rm ex b9 L9 xs9 Qf pc lv st (nn, g') cu su) : ZS G M rm ex b9 L9 xs9 Qf pc lv st (nn, g9) cu su := by
  intro p e s m args below meth c H locs ls S9 X hz hL hP hS
  refine K p e s m args below meth c H locs ls S9 X hz hL ?_ hS
  have e9 : zw G (nn, g') = zw G (nn, g9) := by
    unfold zw
    exact List.map_congr_left (fun a ha => congrArg (Prod.mk (zB G + a)) (hg a (List.mem_range.mp ha)).symm)
  unfold zHd
  rw [e9]
  exact hP
theorem zs_sld {i : Int32} (hd : decode (zcc M) pc = .ok (.iaload, 1)) (hn : pc + 1 = n) (hi : vp_in i L9) (K : ZS G M rm ex b9 L9 xs9 Qf n lv (.int (xs9 i.toNatClampNeg) :: st) h cu su) : ZS G M rm ex b9 L9 xs9 Qf pc lv (.int i :: .ref b9 :: st) h cu su := by
  subst hn
  intro p e s m args below meth c H locs ls S9 X hz hL hP hS
  obtain ⟨hx, hb, hml, hr, hown, hts, hlk9, hnm, hK⟩ := id X
  exact va_ti hx hb S9.2.2 hS hi rfl hd (K p e s m args below meth c H locs ls S9 X hz hL hP hS)
theorem zs_slen (hd : decode (zcc M) pc = .ok (.arraylength, 1)) (hn : pc + 1 = n) (K : ZS G M rm ex b9 L9 xs9 Qf n lv (.int (Int32.ofNat L9) :: st) h cu su) : ZS G M rm ex b9 L9 xs9 Qf pc lv (.ref b9 :: st) h cu su := by
  subst hn
  intro p e s m args below meth c H locs ls S9 X hz hL hP hS
  obtain ⟨hx, hb, hml, hr, hown, hts, hlk9, hnm, hK⟩ := id X
  exact va_tlen hx hb S9.2.2 hS rfl hd (K p e s m args below meth c H locs ls S9 X hz hL hP hS)
theorem zs_callSW {index : Nat} {y : MethodName} {ws ws' : List Cond} {bytes : ByteArray} {maxL : Nat} {ret : Option FieldType} {hh : List (Nat × Nat × Nat × Nat)} {rm' : Room} {As rest : List Value} {v : Int32} {h' : zAH} (hC : zC G y ws rm' false As h (fun r h9 => r = some (.int v) ∧ h9 = h')) (hG : GoodIn (zws M) (va_wsS (zown M) index y ws)) (hw : ws = Cond.codeWith y bytes maxL ret hh :: ws') (hd : decode (zcc M) pc = .ok (.invokestatic index, 3)) (hn : pc + 3 = n)
    (hst : st = As.reverse ++ rest) (ho : zOk y As.length) (hR : rm'.frames + 1 ≤ rm.frames ∧ 8 + (maxL + 11) + rm'.locals ≤ rm.locals) (hf : cu + rm'.cells ≤ rm.cells ∧ su + rm'.slots ≤ rm.slots) (hs : (rest.map fun v => v.category).sum ≤ 8)
    (K : ZS G M rm false b9 L9 xs9 Qf n lv (.int v :: rest) h' (cu + rm'.cells) (su + rm'.slots)) : ZS G M rm false b9 L9 xs9 Qf pc lv st h cu su := by
  subst hn
  intro p e s m args below meth c H locs ls S9 X hz hL hP hS
  obtain ⟨hx, hb, hml, hr, hown, hts, hlk9, hnm, hK⟩ := id X
  exact z_run (ex := false) (vx_runSW (As := As) (rest := rest) ⟨hx, hb, hml, hown, hts⟩ hC (vx_cwSW As.length hts hG hw rfl rfl ho hR) ⟨z_blind, fun U hU hW => ⟨rfl, by rw [hU]; exact hP, hK.moved hU hW hS, fun he => nomatch he⟩⟩ rfl rfl hL.1 hst (lv_room hs) hd hf) hP hS hK.2.2 (fun he => nomatch he)
    (fun r h' H1 locs1 hq hP1 hz1 hS1 => by obtain ⟨rfl, rfl⟩ := hq; exact K p e s m args below meth c H1 locs1 ls S9 X (fun he => nomatch he) hL hP1 hS1)
end ZSR
