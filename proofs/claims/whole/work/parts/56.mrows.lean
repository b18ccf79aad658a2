/-! ===== what constructors need: new, newarray, multianewarray, a nest mate's constructor ===== -/
theorem zq12 {P : Nat → Prop} (h0 : P 0) (h1 : P 1) (h2 : P 2) (h3 : P 3) (h4 : P 4) (h5 : P 5) (h6 : P 6) (h7 : P 7) (h8 : P 8) (h9 : P 9) (h10 : P 10) (h11 : P 11) : ∀ j, j < 12 → P j := by
  intro j hj
  rcases (show j = 0 ∨ j = 1 ∨ j = 2 ∨ j = 3 ∨ j = 4 ∨ j = 5 ∨ j = 6 ∨ j = 7 ∨ j = 8 ∨ j = 9 ∨ j = 10 ∨ j = 11 by omega) with rfl | rfl | rfl | rfl | rfl | rfl | rfl | rfl | rfl | rfl | rfl | rfl
  all_goals assumption
theorem zus_app (g : Nat → va_E) : ∀ (A B : List (Nat × va_E)), zus g (A ++ B) = zus (zus g B) A
  | [], _ => rfl
  | (k, e) :: A, B => by
    show zu (zus g (A ++ B)) k e = zu (zus (zus g B) A) k e
    rw [zus_app g A B]
theorem zus_far (g : Nat → va_E) {b : Nat} : ∀ (A B : List (Nat × va_E)), (A.map Prod.fst).all (fun k => Nat.blt k b) = true → (B.map Prod.fst).all (fun k => Nat.ble b k) = true → zus (zus g A) B = zus (zus g B) A
  | A, [], _, _ => rfl
  | A, (k, e) :: B, hA, hB => by
    have hB2 : Nat.ble b k = true ∧ (B.map Prod.fst).all (fun k => Nat.ble b k) = true := by
      simpa using hB
    have h1 : b ≤ k := Nat.le_of_ble_eq_true hB2.1
    show zu (zus (zus g A) B) k e = zus (zu (zus g B) k e) A
    rw [zus_far g A B hA hB2.2]
    clear hB hB2
    generalize zus g B = g2
    induction A with
    | nil => rfl
    | cons q A ih =>
      obtain ⟨j, d⟩ := q
      have hA2 : Nat.blt j b = true ∧ (A.map Prod.fst).all (fun k => Nat.blt k b) = true := by
        simpa using hA
      have h2 : j < b := Nat.le_of_ble_eq_true hA2.1
      show zu (zu (zus g2 A) j d) k e = zu (zus (zu g2 k e) A) j d
      rw [← ih hA2.2, zu_comm _ _ _ (show j ≠ k by omega)]
theorem z_mk {G : zG} {M : zM} {rm : Room} {ex : Bool} {Q : Option Value → zAH → Prop} {pc : Nat} {lv : List (Option Value)} {st : List Value} {cu su nn b : Nat} {g9 : Nat → va_E} {A B : List (Nat × va_E)} {e e' : va_E} (hA : (A.map Prod.fst).all (fun k => Nat.blt k b) = true) (hB : (B.map Prod.fst).all (fun k => Nat.ble (b + 1) k) = true)
    (K : Z G M rm ex Q pc lv st (nn, zus g9 (A ++ (b, e') :: B)) cu su) : Z G M rm ex Q pc lv st (nn, zus (zus g9 (A ++ [(b, e)])) ((b, e') :: B)) cu su := by
  have hB9 : (((b, e') :: B).map Prod.fst).all (fun k => Nat.ble b k) = true := by
    rw [List.map_cons, List.all_cons, Bool.and_eq_true]
    refine ⟨Nat.ble_eq_true_of_le (Nat.le_refl _), List.all_eq_true.mpr (fun x hx => Nat.ble_eq_true_of_le ?_)⟩
    have := Nat.le_of_ble_eq_true (List.all_eq_true.mp hB x hx)
    omega
  have key : zus (zus g9 (A ++ [(b, e)])) ((b, e') :: B) = zus g9 (A ++ (b, e') :: B) := by
    rw [zus_app g9 A, zus_far (zus g9 [(b, e)]) A _ hA hB9, zus_app g9 A]
    refine congrArg (fun z => zus z A) ?_
    show zu (zus (zu g9 b e) B) b e' = zu (zus g9 B) b e'
    have h1 : zus (zu g9 b e) B = zu (zus g9 B) b e := by
      have := zus_far (b := b + 1) g9 [(b, e)] B (by simp [Nat.blt, Nat.ble_eq_true_of_le (Nat.le_refl (b + 1))]) hB
      exact this
    rw [h1, zu_zu]
  rw [key]
  exact K
section ZN
variable {G : zG} {M : zM} {rm : Room} {Q : Option Value → zAH → Prop} {pc n : Nat} {lv : List (Option Value)} {st : List Value} {h : zAH} {cu su : Nat}
theorem zHd_push {nn : Nat} {g9 : Nat → va_E} {e9 : va_E} {H H1 : Heap} (hP : zHd G (nn, g9) H) (hsz : H.size = zB G + nn) (o1 : ∀ q, q < zB G + nn → H1[q]? = H[q]?) (he : va_at (zD G) vwCl (zB G + nn, e9) H1) : zHd G (nn + 1, zu g9 nn e9) H1 := by
  show va_P _ _ (zw G (nn + 1, zu g9 nn e9)) H1
  rw [← zw_push]
  refine (va_P.kept hP (fun k x hx => o1 x.1 (by have := vx_lt hP hx; omega))).app (fun k x hx => ?_)
  have hz : k < 1 := (List.getElem?_eq_some_iff.mp hx).1
  rw [show k = 0 by omega] at hx
  cases hx
  exact he
theorem z_newa {nn N kt : Nat} {g9 : Nat → va_E} {at9 : ArrayType} {cA : ClassId} {x : Int32} {a0 : vp_A} (hd : decode (zcc M) pc = .ok (.newarray at9, 2)) (hn : pc + 2 = n) (harr : Cond.arrayClass (newarray.typeOf at9) ∈ zws M) (hkt : (zT G)[kt]? = some (cA, newarray.typeOf at9)) (ha : ∀ c : ClassId, vp_cell c a0 = arrV c N (fun _ => defaultValue (newarray.typeOf at9))) (hx : ¬ x < 0) (hN : x.toNatClampNeg = N) (hby : N * componentBytes (newarray.typeOf at9) ≤ 536870912) (hc : cu + 1 ≤ rm.cells) (hs : su + N ≤ rm.slots)
    (K : Z G M rm true Q n lv (.ref (zB G + nn) :: st) (nn + 1, zu g9 nn (.inl (cA, a0))) (cu + 1) (su + N)) : Z G M rm true Q pc lv (.int x :: st) (nn, g9) cu su := by
  subst hn
  intro p e s m args below meth c H locs ls X hz hL hP hS
  obtain ⟨hx1, hb, hml, hr, hown, hts, hlk9, hnm, hK⟩ := id X
  intro T hT XT
  have hsz : H.size = zB G + nn := by
    subst hT
    exact z_size XT hP hS hK.2.2 (hz rfl)
  suffices key : W p (zl G) e rm s m args below meth c H locs cu su (MQ below (zQ G true rm.cells Q) args s rm.cells rm.slots (zA G)) (F0 m pc ls (.int x :: st)) from key T hT XT
  refine va_newaK hx1 hb (hts _ harr) rfl hd rfl hx hN hby hc hs hsz (fun H1 cB e1 z1 o1 hAr hNm => ?_)
  have hcc : cB = cA := by
    have q := (hK.1.2 kt _ hkt).2
    cases at9 <;> exact Option.some.inj (hNm.symm.trans q)
  subst hcc
  have hP1 : zHd G (nn + 1, zu g9 nn (.inl (cB, a0))) H1 := zHd_push hP hsz o1 (by show H1[zB G + nn]? = some (vp_cell cB a0); rw [ha]; exact e1)
  have h9 : s.heap.size + cu = zB G + nn := hz rfl
  have h8 : s.heap.size + (cu + 1) = zB G + (nn + 1) := by omega
  have h7 : s.heap.size ≤ H.size := hS.1
  have h6 : H.size ≤ H1.size := by omega
  exact K p e s m args below meth c H1 locs ls X (fun _ => h8) hL hP1 ⟨Nat.le_trans h7 h6, fun x h1 h2 => (o1 x (by rw [← hsz]; exact Nat.lt_of_lt_of_le h1 h7)).trans (hS.2.1 x h1 h2), hS.2.2⟩
theorem z_newI {nn N : Nat} {g9 : Nat → va_E} (hd : decode (zcc M) pc = .ok (.newarray .int, 2)) (hn : pc + 2 = n) (harr : Cond.arrayClass .int ∈ zws M) (hN : N ≤ 1000) (hc : cu + 1 ≤ rm.cells) (hs : su + N ≤ rm.slots)
    (K : Z G M rm true Q n lv (.ref (zB G + nn) :: st) (nn + 1, zu g9 nn (zI G N (fun _ => 0))) (cu + 1) (su + N)) : Z G M rm true Q pc lv (.int (nI N) :: st) (nn, g9) cu su :=
  z_newa (N := N) (kt := 0) (cA := cI G) (a0 := (N, .inl (fun _ => 0))) hd hn harr rfl (fun _ => rfl) (nI_nlt (Nat.zero_le _) (by omega)) (pk_cl N rfl (by omega)) (by first | (show N * 4 ≤ _; omega) | (show N * 8 ≤ _; omega) | (show N * 1 ≤ _; omega)) hc hs K
theorem z_newZ {nn N : Nat} {g9 : Nat → va_E} (hd : decode (zcc M) pc = .ok (.newarray .boolean, 2)) (hn : pc + 2 = n) (harr : Cond.arrayClass .boolean ∈ zws M) (hN : N ≤ 1000) (hc : cu + 1 ≤ rm.cells) (hs : su + N ≤ rm.slots)
    (K : Z G M rm true Q n lv (.ref (zB G + nn) :: st) (nn + 1, zu g9 nn (zZ G N (fun _ => 0))) (cu + 1) (su + N)) : Z G M rm true Q pc lv (.int (nI N) :: st) (nn, g9) cu su :=
  z_newa (N := N) (kt := 1) (cA := cZ G) (a0 := (N, .inl (fun _ => 0))) hd hn harr rfl (fun _ => rfl) (nI_nlt (Nat.zero_le _) (by omega)) (pk_cl N rfl (by omega)) (by first | (show N * 4 ≤ _; omega) | (show N * 8 ≤ _; omega) | (show N * 1 ≤ _; omega)) hc hs K
theorem z_newJ {nn N : Nat} {g9 : Nat → va_E} (hd : decode (zcc M) pc = .ok (.newarray .long, 2)) (hn : pc + 2 = n) (harr : Cond.arrayClass .long ∈ zws M) (hN : N ≤ 1000) (hc : cu + 1 ≤ rm.cells) (hs : su + N ≤ rm.slots)
    (K : Z G M rm true Q n lv (.ref (zB G + nn) :: st) (nn + 1, zu g9 nn (zJ G N (fun _ => 0))) (cu + 1) (su + N)) : Z G M rm true Q pc lv (.int (nI N) :: st) (nn, g9) cu su :=
  z_newa (N := N) (kt := 3) (cA := cJ G) (a0 := (N, .inr (.inl (fun _ => 0)))) hd hn harr rfl (fun _ => rfl) (nI_nlt (Nat.zero_le _) (by omega)) (pk_cl N rfl (by omega)) (by first | (show N * 4 ≤ _; omega) | (show N * 8 ≤ _; omega) | (show N * 1 ≤ _; omega)) hc hs K
theorem z_newo {nn N ci index : Nat} {g9 : Nat → va_E} {C : String} {T9 : u_T} {fs : List Value} (ty : Nat → FieldType) (hty : ∀ k, k < N → parseFieldDescriptor (T9 k).2.2.1 = some (ty k)) (hd : decode (zcc M) pc = .ok (.new index, 3)) (hn : pc + 3 = n) (hin : ∀ w ∈ u_ws C T9 N, w ∈ zws M) (hcl : Cond.classLink (zown M) index C ∈ zws M) (hins : Cond.instantiable C N ∈ zws M) (hini : Cond.initialized C ∈ zws M) (hc9 : vwCl[ci]? = some (C, T9, N)) (hfs : ∀ j, j < N → defaultValue (ty j) = vp_V fs j) (hc : cu + 1 ≤ rm.cells) (hs : su + N ≤ rm.slots)
    (K : Z G M rm true Q n lv (.ref (zB G + nn) :: st) (nn + 1, zu g9 nn (.inr (ci, fs))) (cu + 1) (su + N)) : Z G M rm true Q pc lv st (nn, g9) cu su := by
  subst hn
  intro p e s m args below meth c H locs ls X hz hL hP hS
  obtain ⟨hx1, hb, hml, hr, hown, hts, hlk9, hnm, hK⟩ := id X
  intro T hT XT
  have hsz : H.size = zB G + nn := by
    subst hT
    exact z_size XT hP hS hK.2.2 (hz rfl)
  have hKn := hK.1.1 ci _ hc9
  suffices key : W p (zl G) e rm s m args below meth c H locs cu su (MQ below (zQ G true rm.cells Q) args s rm.cells rm.slots (zA G)) (F0 m pc ls st) from key T hT XT
  refine W.newcK hx1 hb hown (hts _ hcl) (hts _ hins) (hts _ hini) rfl hd hc hs hKn.2.1 hsz (fun H1 kC hkC e1 z1 o1 => ?_)
  have hP1 : zHd G (nn + 1, zu g9 nn (.inr (ci, fs))) H1 := zHd_push hP hsz o1 ⟨_, hc9, (u_born ty hts hin hKn hkC e1 hty).to hfs⟩
  have h9 : s.heap.size + cu = zB G + nn := hz rfl
  have h8 : s.heap.size + (cu + 1) = zB G + (nn + 1) := by omega
  have h7 : s.heap.size ≤ H.size := hS.1
  have h6 : H.size ≤ H1.size := by omega
  exact K p e s m args below meth c H1 locs ls X (fun _ => h8) hL hP1 ⟨Nat.le_trans h7 h6, fun x h1 h2 => (o1 x (by rw [← hsz]; exact Nat.lt_of_lt_of_le h1 h7)).trans (hS.2.1 x h1 h2), hS.2.2⟩
theorem z_outer (c : ClassId) (N h0 : Nat) : ∀ i : Nat, Jvm.Free.Multi.outerC c N h0 i = arrV c N (fun j => va_rf (if j < i then some (h0 + 1 + j) else none))
  | 0 => by
    show ({ cls := c, slots := Array.replicate N .null, vm := .none } : Cell) = _
    rw [arrV_new]
    refine congrArg (arrV c N) (funext fun j => ?_)
    simp [va_rf]
  | i + 1 => by
    show (Jvm.Free.Multi.outerC c N h0 i).setSlot i (.ref (h0 + 1 + i)) = _
    rw [z_outer c N h0 i, arrV_store]
    refine congrArg (arrV c N) (funext fun j => ?_)
    by_cases e : j = i
    · subst e
      simp [updV, va_rf]
    · by_cases h : j < i
      · simp [updV, e, h, Nat.lt_succ_of_lt h]
      · simp [updV, e, h, show ¬ j < i + 1 by omega]
theorem z_mna {nn N K9 index : Nat} {g9 g1 : Nat → va_E} {x y : Int32} (hd : decode (zcc M) pc = .ok (.multianewarray index 2, 4)) (hn : pc + 4 = n) (hcl : Cond.classLink (zown M) index "[[I" ∈ zws M) (harr : Cond.arrayClass .int ∈ zws M) (hx : ¬ x < 0) (hy : ¬ y < 0) (hN : x.toNatClampNeg = N) (hK9 : y.toNatClampNeg = K9) (hb1 : N * 4 ≤ 536870912) (hb2 : K9 * 4 ≤ 536870912) (hc : cu + (1 + N) ≤ rm.cells) (hs : su + (N + N * K9) ≤ rm.slots)
    (hg0 : ∀ k, k < nn → g1 k = g9 k) (hg1 : g1 nn = zR G N (zrw G N (nn + 1))) (hg2 : ∀ j, j < N → g1 (nn + 1 + j) = zI G K9 (fun _ => 0))
    (K : Z G M rm true Q n lv (.ref (zB G + nn) :: st) (nn + 1 + N, g1) (cu + 1 + N) (su + N + N * K9)) : Z G M rm true Q pc lv (.int y :: .int x :: st) (nn, g9) cu su := by
  subst hn
  subst hN
  subst hK9
  intro p e s m args below meth c H locs ls X hz hL hP hS
  obtain ⟨hx1, hb, hml, hr, hown, hts, hlk9, hnm, hK⟩ := id X
  intro T hT XT
  have hsz : H.size = zB G + nn := by
    subst hT
    exact z_size XT hP hS hK.2.2 (hz rfl)
  obtain ⟨u, hu1, hu2⟩ := hK.2.1.2.2.2.2.2.2.2.2.2.1
  have hover : (Cond.arrayOver (.array .int)).before args s = true := Jvm.Stand.arrayOver_alikeB hu1 hu2
  obtain ⟨vm₁, cA, comp, -, fA, fC, hO, -, X', step⟩ := XT.multianewarray2F hx1 hown (ty := .int) (hts _ hcl) hover (hts _ harr) (g := F0 m pc ls (.int y :: .int x :: st)) rfl (by rw [hb]; exact hd) rfl hx hy hb1 hb2 (by omega) rfl rfl hc hs
  have eA : cA = cM G := Option.some.inj (fA.symm.trans (hK.1.2 2 _ rfl).2)
  have eC : comp = cI G := Option.some.inj (fC.symm.trans (hK.1.2 0 _ rfl).2)
  subst eA
  subst eC
  generalize hF : Jvm.Free.Multi.fill (T.setVm vm₁) (cM G) (cI G) x.toNatClampNeg y.toNatClampNeg (defaultValue .int) x.toNatClampNeg = F at X' step
  have hTh : (T.setVm vm₁).heap = H := hT
  obtain ⟨f1, f2, -, -⟩ := Jvm.Free.Multi.fill_facts (T.setVm vm₁) (cM G) (cI G) x.toNatClampNeg y.toNatClampNeg (defaultValue .int) x.toNatClampNeg
  rw [hF, hTh] at f1 f2
  have hold : ∀ q : Nat, q < H.size → F.heap[q]? = H[q]? := fun q hq => by
    have := Jvm.Free.Multi.fill_old (T.setVm vm₁) (cM G) (cI G) x.toNatClampNeg y.toNatClampNeg (defaultValue .int) (a := q) (by rw [hTh]; exact hq) x.toNatClampNeg
    rw [hF, hTh] at this
    exact this
  have hrow : ∀ j : Nat, j < x.toNatClampNeg → F.heap[H.size + 1 + j]? = some (vp_cell (cI G) (y.toNatClampNeg, .inl (fun _ => 0))) := fun j hj => by
    have := Jvm.Free.Multi.fill_inner (T.setVm vm₁) (cM G) (cI G) x.toNatClampNeg y.toNatClampNeg (defaultValue .int) x.toNatClampNeg j hj
    rw [hF, hTh] at this
    rw [this]
    refine congrArg some ?_
    show Jvm.Free.Multi.innerC (cI G) y.toNatClampNeg (.int 0) = arrV (cI G) y.toNatClampNeg (fun _ => .int 0)
    rw [← arrV_new]
    rfl
  have hout : F.heap[H.size]? = some (vp_cell (cM G) (x.toNatClampNeg, .inr (.inr (.inr (.inr (zrw G x.toNatClampNeg (nn + 1))))))) := by
    rw [f2, z_outer, vp_cell_q]
    refine congrArg some (congrArg (arrV (cM G) x.toNatClampNeg) (funext fun j => ?_))
    show va_rf _ = va_rf (zrw G x.toNatClampNeg (nn + 1) j)
    unfold zrw
    rw [hsz, show zB G + nn + 1 + j = zB G + (nn + 1 + j) by omega]
  have hP1 : zHd G (nn + 1 + x.toNatClampNeg, g1) F.heap := by
    intro k q hq
    obtain ⟨hk, rfl⟩ := zw_of hq
    show va_at (zD G) vwCl (zB G + k, g1 k) F.heap
    by_cases c1 : k < nn
    · rw [hg0 k c1]
      have q9 := hP k (zB G + k, g9 k) (zw_at (h := (nn, g9)) c1)
      exact q9.kept (hold (zB G + k) (by omega))
    · by_cases c2 : k = nn
      · subst c2
        rw [hg1, ← hsz]
        exact hout
      · obtain ⟨j, rfl⟩ : ∃ j, k = nn + 1 + j := ⟨k - (nn + 1), by omega⟩
        have hk9 : nn + 1 + j < nn + 1 + x.toNatClampNeg := hk
        rw [hg2 j (by omega), show zB G + (nn + 1 + j) = H.size + 1 + j by omega]
        exact hrow j (by omega)
  obtain ⟨t, a1, b1⟩ := K p e s m args below meth c F.heap locs ls X (fun _ => by have := hz rfl; show _ + (cu + 1 + x.toNatClampNeg) = zB G + (nn + 1 + x.toNatClampNeg); have h9 : s.heap.size + cu = zB G + nn := this; omega) hL hP1 ⟨Nat.le_trans hS.1 (by omega), fun q h1 h2 => (hold q (by have := hS.1; omega)).trans (hS.2.1 q h1 h2), hS.2.2⟩ F rfl X'
  refine ⟨t, step t ?_, b1⟩
  have e9 : T.heap.size = zB G + nn := by rw [hT]; exact hsz
  rw [e9]
  exact a1
theorem z_callIN {index : Nat} {host : String} {y : MethodName} {ws ws' : List Cond} {bytes : ByteArray} {maxL : Nat} {rm' : Room} {As rest : List Value} {h' : zAH} {b : Nat} (hC : zC G y ws rm' true (.ref b :: As) h (fun r h9 => r = none ∧ h9 = h')) (hG : GoodIn (zws M) ws) (hw : ws = Cond.code y bytes maxL none :: ws') (hd : decode (zcc M) pc = .ok (.invokespecial index, 3)) (hn : pc + 3 = n)
    (hini : Cond.initialized y.cls ∈ zws M) (hnw : ∀ s, zK G s → va_Nw (.methodLinkNest (zown M) index y host) s) (hins : Cond.instanceMethod y ∈ zws M) (hyn : y.name = "<init>") (hst : st = As.reverse ++ .ref b :: rest) (ho : zOk y As.length) (hR : rm'.frames + 1 ≤ rm.frames ∧ 8 + (maxL + 11) + rm'.locals ≤ rm.locals) (hf : cu + rm'.cells ≤ rm.cells ∧ su + rm'.slots ≤ rm.slots) (hs : (rest.map fun v => v.category).sum ≤ 8)
    (K : Z G M rm true Q n lv rest h' (cu + rm'.cells) (su + rm'.slots)) : Z G M rm true Q pc lv st h cu su := by
  subst hn
  intro p e s m args below meth c H locs ls X hz hL hP hS
  obtain ⟨hx, hb, hml, hr, hown, hts, hlk9, hnm, hK⟩ := id X
  intro T hT XT
  have hsz : H.size = zB G + h.1 := by
    subst hT
    exact z_size XT hP hS hK.2.2 (hz rfl)
  exact z_run (ex := true) (va_runIN (As := As) (rest := rest) (b := b) ⟨hx, hb, hml, hown, hts⟩ hC ⟨va_cnB As.length hts hG hw rfl rfl (hnw s hK) (hts _ hini) ho hR, hyn, hts _ hins⟩ ⟨z_blind, fun U hU hW => ⟨rfl, by rw [hU]; exact hP, hK.moved hU hW hS, fun he => by rw [hU]; exact hsz⟩⟩ rfl rfl hL.1 hst (lv_room hs) hd hf) hP hS hK.2.2 hz
    (fun r h9 H1 locs1 hq hP1 hz1 hS1 => by obtain ⟨rfl, rfl⟩ := hq; exact K p e s m args below meth c H1 locs1 ls X hz1 hL hP1 hS1) T hT XT
theorem z_callIv {index : Nat} {y : MethodName} {ws ws' : List Cond} {bytes : ByteArray} {maxL : Nat} {rm' : Room} {As rest : List Value} {h' : zAH} {b : Nat} (hC : zC G y ws rm' true (.ref b :: As) h (fun r h9 => r = none ∧ h9 = h')) (hG : GoodIn (zws M) ws) (hw : ws = Cond.code y bytes maxL none :: ws') (hd : decode (zcc M) pc = .ok (.invokespecial index, 3)) (hn : pc + 3 = n)
    (hini : Cond.initialized y.cls ∈ zws M) (hml0 : Cond.methodLink (zown M) index y ∈ zws M) (hins : Cond.instanceMethod y ∈ zws M) (hyn : y.name = "<init>") (hst : st = As.reverse ++ .ref b :: rest) (ho : zOk y As.length) (hR : rm'.frames + 1 ≤ rm.frames ∧ 8 + (maxL + 11) + rm'.locals ≤ rm.locals) (hf : cu + rm'.cells ≤ rm.cells ∧ su + rm'.slots ≤ rm.slots) (hs : (rest.map fun v => v.category).sum ≤ 8)
    (K : Z G M rm true Q n lv rest h' (cu + rm'.cells) (su + rm'.slots)) : Z G M rm true Q pc lv st h cu su :=
  z_callI hC hG hw hd hn hini hml0 hins hyn hst ho hR hf hs (fun r h9 hq => by obtain ⟨rfl, rfl⟩ := hq; exact K)
theorem z_putFN {ex : Bool} {nn : Nat} {g9 : Nat → va_E} {index : Nat} {k ci : Nat} {C : String} {T : u_T} {N : Nat} {fs : List Value} {v : Value} {e9 : va_E} (ty0 : Nat → FieldType) (hty : ∀ k, k < N → parseFieldDescriptor (T k).2.2.1 = some (ty0 k)) (hnm0 : ∀ a, a < N → ∀ b, b < N → a ≠ b → (T a).2.1 ≠ (T b).2.1)
    (hd : decode (zcc M) pc = .ok (.putfield index, 3)) (hn : pc + 3 = n) (hin : ∀ w ∈ u_ws C T N, w ∈ zws M) (j : Nat) (hlk : Cond.fieldLink (zown M) index (T j).1 (T j).2.1 (T j).2.2.1 ∈ zws M) (hfin : (T j).2.2.2 = true) (hinit : znm M = "<init>") (hdecl : (T j).1 = zown M) (hpd : parseFieldDescriptor (T j).2.2.1 = some (ty0 j)) (hk : k < nn) (he : g9 k = .inr (ci, fs)) (hc : vwCl[ci]? = some (C, T, N)) (hj : j < N) (hl : j < fs.length) (hnar : narrow (ty0 j) v = v) (hfit : fits (ty0 j) v = true) (he9 : .inr (ci, fs.set j v) = e9)
    (K : Z G M rm ex Q n lv st (nn, zu g9 k e9) cu su) : Z G M rm ex Q pc lv (v :: .ref (zB G + k) :: st) (nn, g9) cu su := by
  subst he9
  exact z_putF ty0 hty hnm0 hd hn hin j hlk hfin hinit hdecl hpd hk he hc hj hl hnar hfit K
end ZN
