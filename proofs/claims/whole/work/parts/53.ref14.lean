theorem zd91 {m : Nat} (h : 1 ≤ m) : nI m - nI 1 + Int32.ofInt (-1) = nI (m - 1) - nI 1 := by
  obtain ⟨k, rfl⟩ : ∃ k, m = k + 1 := ⟨m - 1, by omega⟩
  rw [nI_succ]
  show nI k + 1 - 1 + -1 = nI k - 1
  rw [Int32.add_sub_cancel, Int32.sub_eq_add_neg]
theorem zm91_lt : nI 0 - nI 1 < 0 := by decide
theorem zm91_nlt {m : Nat} (h : 1 ≤ m) (hm : m < 2147483648) : ¬ nI m - nI 1 < 0 := by
  rw [pk_sub h]
  exact nI_nlt (Nat.zero_le _) (by omega)
theorem zfoldX_stop {α : Type} {B : Nat → α → Option α} {F : Nat → α → α} : ∀ (d i : Nat) (a : α), i ≤ (zfoldX B F d i a).1 ∧ (zfoldX B F d i a).1 ≤ i + d ∧ ((zfoldX B F d i a).1 < i + d → ∃ a' b', B (zfoldX B F d i a).1 a' = some b') := by
  intro d
  induction d with
  | zero =>
    intro i a
    exact ⟨Nat.le_refl _, Nat.le_refl _, fun h => absurd h (Nat.lt_irrefl _)⟩
  | succ d ih =>
    intro i a
    cases hb : B i a with
    | some b =>
      have e : zfoldX B F (d + 1) i a = (i, b) := by simp [zfoldX, hb]
      rw [e]
      exact ⟨Nat.le_refl _, Nat.le_add_right _ _, fun _ => ⟨a, b, hb⟩⟩
    | none =>
      have e : zfoldX B F (d + 1) i a = zfoldX B F d (i + 1) (F i a) := by simp [zfoldX, hb]
      rw [e]
      obtain ⟨h1, h2, h3⟩ := ih (i + 1) (F i a)
      exact ⟨by omega, by omega, fun h => h3 (by omega)⟩
abbrev mX7_nextSet : zM := (cX7_nextSet, 4, (some .boolean), RX7, wsX7_nextSet, "nextSet")
theorem hiX7_nextSet_X7 : ∀ w ∈ wsX70, w ∈ wsX7_nextSet := fun w h => List.mem_cons_of_mem _ (List.mem_append_right _ h)
theorem lkX7_nextSet_116 : Cond.fieldLink RX7 116 "ConfigSearchModel" "chosen" "[I" ∈ wsX7_nextSet := by decide +kernel
theorem lkX7_nextSet_303 : Cond.fieldLink RX7 303 "ConfigSearchModel" "triples" "I" ∈ wsX7_nextSet := by decide +kernel
def X7_nextSet_L4_F (trs : Nat) (ch : Nat → Int32) (m : Nat) (c : Nat) (a9 : Unit) : Unit := if (ch (m - c - 1)) = (((nI trs) - (nI m)) + (nI (m - c) - nI 1)) then () else ()
def X7_nextSet_L4_B (trs : Nat) (ch : Nat → Int32) (m : Nat) (c : Nat) (a9 : Unit) : Option (Unit) := if (ch (m - c - 1)) = (((nI trs) - (nI m)) + (nI (m - c) - nI 1)) then none else (some ())
def X7_nextSet_L51_F (i : Nat) (a9 : (Nat → Int32)) : (Nat → Int32) := upd a9 i ((a9 (i - 1)) + (nI 1))
def X7_nextSet_v (trs : Nat) (ch : Nat → Int32) (m : Nat) : Int32 := zlet (zfoldX (X7_nextSet_L4_B trs ch m) (X7_nextSet_L4_F trs ch m) m 0 ()) (fun rr4 => if 0 ≤ (nI (m - rr4.1) - nI 1) then (nI 1) else (nI 0))
def X7_nextSet_c111 (trs : Nat) (ch : Nat → Int32) (m : Nat) : Nat → Int32 := zlet (zfoldX (X7_nextSet_L4_B trs ch m) (X7_nextSet_L4_F trs ch m) m 0 ()) (fun rr4 => if 0 ≤ (nI (m - rr4.1) - nI 1) then (zfold (X7_nextSet_L51_F) (m - (m - rr4.1 - 1 + 1)) (m - rr4.1 - 1 + 1) (upd ch (m - rr4.1 - 1) ((ch (m - rr4.1 - 1)) + (nI 1)))) else ch)
set_option maxRecDepth 100000 in
set_option maxHeartbeats 4000000 in
theorem c_X7_nextSet (G : zG) (ex : Bool) (g : Nat → va_E) (code : Int32) (tps pts lns wds brs ors : Nat) (stp hasP fld laid told : Int32) (rws : Nat) (cms : Int32) (cmT : Nat) (cmS isN : Int32) (trs : Nat) (ch : Nat → Int32) (m : Nat) (hm : m ≤ 4) (h76 : g 76 = (oMod G code (nI tps) (nI pts) (nI lns) (nI wds) (nI brs) (nI ors) stp hasP fld laid told (nI rws) cms (nI cmT) cmS isN (nI trs))) (h111 : g 111 = (zI G 4 ch)) : zC G yX7_nextSet wsX7_nextSet (zrm 0 0) ex [.ref (zB G + 76), .int (nI m)] (zN, g) (fun r h => r = some (.int (X7_nextSet_v trs ch m)) ∧ h = (zN, zus g [(111, zI G 4 (X7_nextSet_c111 trs ch m))])) := by
  refine zC_of mX7_nextSet (lv := [some (.ref (zB G + 76)), some (.int (nI m)), none, none]) rfl rfl (by decide) (by intro v hv; simp at hv; rcases hv with rfl | rfl <;> rfl) (Nat.le_of_ble_eq_true rfl) rfl ?_
  refine z_0 ?_
  refine z_heap (g' := zu (zus g []) 111 (zI G 4 ch)) (zu_self (zus g []) 111 _ h111).symm ?_
  refine z_n (L' := [(111, (zI G 4 ch))]) rfl ?_
  refine z_iload_n dX7_nextSet_0 rfl rfl ?_
  refine z_iconst (v := nI 1) dX7_nextSet_1 rfl (by decide) ?_
  refine z_isub dX7_nextSet_2 rfl ?_
  refine z_istore_2 dX7_nextSet_3 rfl ?_
  refine z_lv (congrArg (fun z9 : Int32 => ([some (.ref (zB G + 76)), some (.int (nI m)), some (.int z9), none] : List (Option Value))) (show ((nI m) - (nI 1)) = (nI (m - 0) - nI 1) from rfl)) ?_
  refine z_forX (head := fun c (st9 : Unit) => Z G mX7_nextSet (zrm 0 0) ex _ 4 [some (.ref (zB G + 76)), some (.int (nI m)), some (.int (nI (m - c) - nI 1)), none] [] (zN, zus g [(111, (zI G 4 ch))]) 0 0) (out := fun c (st9 : Unit) => Z G mX7_nextSet (zrm 0 0) ex (fun r h => r = some (.int (X7_nextSet_v trs ch m)) ∧ h = (zN, zus g [(111, zI G 4 (X7_nextSet_c111 trs ch m))])) 31 [some (.ref (zB G + 76)), some (.int (nI m)), some (.int (nI (m - c) - nI 1)), none] [] (zN, zus g [(111, (zI G 4 ch))]) 0 0) (B := (X7_nextSet_L4_B trs ch m)) (F := (X7_nextSet_L4_F trs ch m)) (n := m) (fun _ _ => True) (fun _ _ => True) (fun _ _ _ _ _ => trivial) (fun _ _ _ _ _ _ => trivial) (fun _ _ => trivial) ?_ ?_ m 0 () (by omega) trivial ?_
  · intro c _ hi _ Ko K
    refine z_iload_n dX7_nextSet_4 rfl rfl ?_
    refine z_if_lt (tgt := 31) dX7_nextSet_5 rfl (by decide) (fun c5 => ?_) (fun c5 => ?_)
    · exact absurd c5 (zm91_nlt (by omega) (by omega))
    · refine z_aload_n dX7_nextSet_8 rfl rfl ?_
      refine z_get dX7_nextSet_9 rfl hiX7_nextSet_X7 52 lkX7_nextSet_116 (Nat.le_of_ble_eq_true rfl) h76 rfl (by decide) rfl ?_
      refine z_iload_n dX7_nextSet_12 rfl rfl ?_
      refine z_ialdN (j := m - c - 1) dX7_nextSet_13 rfl (Nat.le_of_ble_eq_true rfl) rfl ((zq_sub rfl rfl (by omega))) (by omega) (by decide) ?_
      refine z_aload_n dX7_nextSet_14 rfl rfl ?_
      refine z_get dX7_nextSet_15 rfl hiX7_nextSet_X7 50 lkX7_nextSet_303 (Nat.le_of_ble_eq_true rfl) h76 rfl (by decide) rfl ?_
      refine z_iload_n dX7_nextSet_18 rfl rfl ?_
      refine z_isub dX7_nextSet_19 rfl ?_
      refine z_iload_n dX7_nextSet_20 rfl rfl ?_
      refine z_iadd dX7_nextSet_21 rfl ?_
      refine z_icmp_ne (tgt := 31) dX7_nextSet_22 rfl (by decide) (fun c22 => ?_) (fun c22 => ?_)
      · exact Ko () (by simp only [X7_nextSet_L4_B, if_neg c22])
      · refine z_iinc_2 (v := nI (m - (c + 1)) - nI 1) dX7_nextSet_25 rfl (zd91 (by omega)) ?_
        refine z_goto (tgt := 4) dX7_nextSet_28 (by decide) ?_
        have K9 := (K (by simp only [X7_nextSet_L4_B, if_pos c22]))
        try simp only [X7_nextSet_L4_F, if_pos c22] at K9
        exact K9
  · intro _ _ K
    refine z_iload_n dX7_nextSet_4 rfl rfl ?_
    refine z_if_lt (tgt := 31) dX7_nextSet_5 rfl (by decide) (fun c5 => ?_) (fun c5 => ?_)
    · exact K
    · exact absurd (by rw [Nat.sub_self]; exact zm91_lt) c5
  · generalize hR4 : zfoldX (X7_nextSet_L4_B trs ch m) (X7_nextSet_L4_F trs ch m) m 0 () = r9
    obtain ⟨ic, _⟩ := r9
    intro hJ4 hle4
    refine z_iload_n dX7_nextSet_31 rfl rfl ?_
    refine z_if_ge (tgt := 37) dX7_nextSet_32 rfl (by decide) (fun c32 => ?_) (fun c32 => ?_)
    · have hic : 1 ≤ m - ic := zm1_ge9 c32
      refine z_lv (congrArg (fun z9 : Int32 => ([some (.ref (zB G + 76)), some (.int (nI m)), some (.int z9), none] : List (Option Value))) (show (nI (m - ic) - nI 1) = (nI (m - ic - 1)) from pk_sub hic)) ?_
      refine z_aload_n dX7_nextSet_37 rfl rfl ?_
      refine z_get dX7_nextSet_38 rfl hiX7_nextSet_X7 52 lkX7_nextSet_116 (Nat.le_of_ble_eq_true rfl) h76 rfl (by decide) rfl ?_
      refine z_iload_n dX7_nextSet_41 rfl rfl ?_
      refine z_dup2 dX7_nextSet_42 rfl rfl rfl ?_
      refine z_ialdN (j := m - ic - 1) dX7_nextSet_43 rfl (Nat.le_of_ble_eq_true rfl) rfl (rfl) (by omega) (by decide) ?_
      refine z_iconst (v := nI 1) dX7_nextSet_44 rfl (by decide) ?_
      refine z_iadd dX7_nextSet_45 rfl ?_
      refine z_iastN (j := m - ic - 1) dX7_nextSet_46 rfl (Nat.le_of_ble_eq_true rfl) rfl (rfl) (by omega) (by decide) ?_
      refine z_n (L' := [(111, (zI G 4 (upd ch (m - ic - 1) ((ch (m - ic - 1)) + (nI 1)))))]) rfl ?_
      refine z_iload_n dX7_nextSet_47 rfl rfl ?_
      refine z_iconst (v := nI 1) dX7_nextSet_48 rfl (by decide) ?_
      refine z_iadd dX7_nextSet_49 rfl ?_
      refine z_top (show (nI (m - ic - 1)) + (nI 1) = nI ((m - ic - 1) + 1) from (zq_add rfl rfl)) ?_
      refine z_istore_3 dX7_nextSet_50 rfl ?_
      refine z_forI (head := fun i (st9 : (Nat → Int32)) => Z G mX7_nextSet (zrm 0 0) ex _ 51 [some (.ref (zB G + 76)), some (.int (nI m)), some (.int (nI (m - ic - 1))), some (.int (nI i))] [] (zN, zus g [(111, (zI G 4 st9))]) 0 0) (F := (X7_nextSet_L51_F)) (n := m) (fun i _ => 1 ≤ i) (fun _ _ _ _ => by omega) ?_ (m - (m - ic - 1 + 1)) (m - ic - 1 + 1) (upd ch (m - ic - 1) ((ch (m - ic - 1)) + (nI 1))) (by omega) (by omega) ?_
      · intro i c1 hi hI K
        have hi1 : 1 ≤ i := hI
        refine z_iload_n dX7_nextSet_51 rfl rfl ?_
        refine z_iload_n dX7_nextSet_52 rfl rfl ?_
        refine z_icmp_ge (tgt := 78) dX7_nextSet_53 rfl (by decide) (fun c53 => ?_) (fun c53 => ?_)
        · exact absurd c53 (nI_ge hi (by omega))
        · refine z_aload_n dX7_nextSet_56 rfl rfl ?_
          refine z_get dX7_nextSet_57 rfl hiX7_nextSet_X7 52 lkX7_nextSet_116 (Nat.le_of_ble_eq_true rfl) h76 rfl (by decide) rfl ?_
          refine z_iload_n dX7_nextSet_60 rfl rfl ?_
          refine z_aload_n dX7_nextSet_61 rfl rfl ?_
          refine z_get dX7_nextSet_62 rfl hiX7_nextSet_X7 52 lkX7_nextSet_116 (Nat.le_of_ble_eq_true rfl) h76 rfl (by decide) rfl ?_
          refine z_iload_n dX7_nextSet_65 rfl rfl ?_
          refine z_iconst (v := nI 1) dX7_nextSet_66 rfl (by decide) ?_
          refine z_isub dX7_nextSet_67 rfl ?_
          refine z_ialdN (j := i - 1) dX7_nextSet_68 rfl (Nat.le_of_ble_eq_true rfl) rfl ((zq_sub rfl rfl (by omega))) (by omega) (by decide) ?_
          refine z_iconst (v := nI 1) dX7_nextSet_69 rfl (by decide) ?_
          refine z_iadd dX7_nextSet_70 rfl ?_
          refine z_iastN (j := i) dX7_nextSet_71 rfl (Nat.le_of_ble_eq_true rfl) rfl (rfl) (by omega) (by decide) ?_
          refine z_n (L' := [(111, (zI G 4 (upd c1 i ((c1 (i - 1)) + (nI 1)))))]) rfl ?_
          refine z_iinc_3 (v := nI (i + 1)) dX7_nextSet_72 rfl (zinc _) ?_
          refine z_goto (tgt := 51) dX7_nextSet_75 (by decide) ?_
          exact K
      · intro hI
        refine z_iload_n dX7_nextSet_51 rfl rfl ?_
        refine z_iload_n dX7_nextSet_52 rfl rfl ?_
        refine z_icmp_ge (tgt := 78) dX7_nextSet_53 rfl (by decide) (fun c53 => ?_) (fun c53 => ?_)
        · refine z_iconst (v := nI 1) dX7_nextSet_78 rfl (by decide) ?_
          exact z_ireturn dX7_nextSet_79 rfl rfl (Nat.le_refl _) (Nat.le_refl _) (fun _ => rfl) ⟨by simp only [X7_nextSet_v, hR4, zlet_e, if_pos c32], by simp only [X7_nextSet_c111, hR4, zlet_e, if_pos c32]⟩
        · exact absurd (nI_le (Nat.le_refl _) (by omega)) c53
    · refine z_iconst (v := nI 0) dX7_nextSet_35 rfl (by decide) ?_
      exact z_ireturn dX7_nextSet_36 rfl rfl (Nat.le_refl _) (Nat.le_refl _) (fun _ => rfl) ⟨by simp only [X7_nextSet_v, hR4, zlet_e, if_neg c32], by simp only [X7_nextSet_c111, hR4, zlet_e, if_neg c32]⟩
def valS : Nat → (Nat → Int32) → Nat
  | 0, _ => 0
  | m + 1, f => 21 * valS m f + (f m).toNatClampNeg
theorem valS_lt {f : Nat → Int32} : ∀ m, (∀ j, j < m → vp_in (f j) 21) → valS m f < 21 ^ m := by
  intro m
  induction m with
  | zero => intro _; exact Nat.one_pos
  | succ m ih =>
    intro h
    have e := ih (fun j hj => h j (by omega))
    have l := zvlt (h m (by omega))
    show 21 * valS m f + (f m).toNatClampNeg < 21 ^ (m + 1)
    rw [Nat.pow_succ]
    omega
theorem valS_eq {f f' : Nat → Int32} : ∀ m, (∀ j, j < m → f j = f' j) → valS m f = valS m f' := by
  intro m
  induction m with
  | zero => intro _; rfl
  | succ m ih =>
    intro h
    show 21 * valS m f + (f m).toNatClampNeg = 21 * valS m f' + (f' m).toNatClampNeg
    rw [ih (fun j hj => h j (by omega)), h m (by omega)]
theorem valS_up {f f' : Nat → Int32} {k : Nat} (he : ∀ j, j < k → f j = f' j) (hk : (f k).toNatClampNeg + 1 ≤ (f' k).toNatClampNeg) : ∀ m, k < m → (∀ j, j < m → vp_in (f j) 21) → valS m f + 1 ≤ valS m f' := by
  intro m
  induction m with
  | zero => intro h; omega
  | succ m ih =>
    intro h hv
    show 21 * valS m f + (f m).toNatClampNeg + 1 ≤ 21 * valS m f' + (f' m).toNatClampNeg
    rcases Nat.lt_or_ge k m with q | q
    · have e := ih q (fun j hj => hv j (by omega))
      have l := zvlt (hv m (by omega))
      omega
    · have q9 : k = m := by omega
      subst q9
      rw [valS_eq k he]
      omega
theorem next51 {i0 : Nat} (hi : 1 ≤ i0) (f : Nat → Int32) : ∀ (d : Nat) (j : Nat), zfold X7_nextSet_L51_F d i0 f j = if j < i0 then f j else if j < i0 + d then f (i0 - 1) + nI (j - i0 + 1) else f j := by
  intro d
  induction d generalizing i0 f with
  | zero =>
    intro j
    show f j = _
    split
    · rfl
    · rw [if_neg (by omega)]
  | succ d ih =>
    intro j
    show zfold X7_nextSet_L51_F d (i0 + 1) (X7_nextSet_L51_F i0 f) j = _
    rw [ih (by omega)]
    unfold X7_nextSet_L51_F
    simp only [upd]
    by_cases c1 : j < i0
    · rw [if_pos (by omega), if_neg (by omega), if_pos c1]
    · rw [if_neg c1]
      by_cases c2 : j = i0
      · subst c2
        rw [if_pos (by omega), if_pos rfl, if_pos (by omega), Nat.sub_self]
      · rw [if_neg (show ¬ j < i0 + 1 by omega)]
        by_cases c3 : j < i0 + 1 + d
        · rw [if_pos c3, if_pos (show j < i0 + (d + 1) by omega), if_pos (show i0 + 1 - 1 = i0 from rfl), show j - i0 + 1 = 1 + (j - (i0 + 1) + 1) by omega, ← nI_add 1, ← Int32.add_assoc]
        · rw [if_neg c3, if_neg (show ¬ j < i0 + (d + 1) by omega), if_neg c2]
theorem nextSet_ok {trs m : Nat} {ch : Nat → Int32} (hm : m ≤ 4) (ht : m ≤ trs) (ht2 : trs ≤ 20) (hR : ∀ j, j < m → vp_in (ch j) (trs - m + j + 1)) : (∀ j, j < m → vp_in (X7_nextSet_c111 trs ch m j) (trs - m + j + 1)) ∧ (X7_nextSet_v trs ch m = nI 0 ∨ (X7_nextSet_v trs ch m = nI 1 ∧ valS m ch + 1 ≤ valS m (X7_nextSet_c111 trs ch m))) := by
  obtain ⟨h1, h2, h3⟩ := zfoldX_stop (B := X7_nextSet_L4_B trs ch m) (F := X7_nextSet_L4_F trs ch m) m 0 ()
  unfold X7_nextSet_v X7_nextSet_c111
  simp only [zlet]
  generalize (zfoldX (X7_nextSet_L4_B trs ch m) (X7_nextSet_L4_F trs ch m) m 0 ()).1 = ic at h1 h2 h3 ⊢
  rcases Nat.lt_or_ge ic m with q | q
  · obtain ⟨a', b', hb⟩ := h3 (by omega)
    unfold X7_nextSet_L4_B at hb
    split at hb
    · cases hb
    · rename_i c9
      have e1 : nI (m - ic) - nI 1 = nI (m - ic - 1) := pk_sub (by omega)
      have e2 : nI trs - nI m + (nI (m - ic) - nI 1) = nI (trs - m + (m - ic - 1)) := by rw [e1, pk_sub ht, nI_add]
      rw [if_pos (by rw [e1]; exact nI_le (a := 0) (Nat.zero_le _) (by omega)), if_pos (by rw [e1]; exact nI_le (a := 0) (Nat.zero_le _) (by omega))]
      generalize hk : m - ic - 1 = k at *
      have hkm : k < m := by omega
      have hv := hR k hkm
      have l := zvlt hv
      have e3 := zvin hv
      have l2 : (ch k).toNatClampNeg < trs - m + k := by
        rcases Nat.lt_or_ge (ch k).toNatClampNeg (trs - m + k) with z | z
        · exact z
        · refine absurd ?_ c9
          rw [e2, e3, show (ch k).toNatClampNeg = trs - m + k by omega]
      generalize (ch k).toNatClampNeg = ck at l e3 l2
      have f1 : ∀ j, zfold X7_nextSet_L51_F (m - (k + 1)) (k + 1) (upd ch k (ch k + nI 1)) j = if j < k then ch j else if j < m then nI (ck + 1 + (j - k)) else ch j := by
        intro j
        rw [next51 (by omega)]
        simp only [upd]
        by_cases c1 : j < k
        · rw [if_pos (by omega), if_neg (by omega), if_pos c1]
        · rw [if_neg c1]
          by_cases c2 : j = k
          · subst c2
            rw [if_pos (by omega), if_pos rfl, if_pos hkm, e3, nI_add, Nat.sub_self]
          · rw [if_neg (show ¬ j < k + 1 by omega)]
            by_cases c3 : j < m
            · rw [if_pos (by omega), if_pos c3, show k + 1 - 1 = k from rfl, if_pos rfl, e3, nI_add, nI_add]
              exact congrArg nI (by omega)
            · rw [if_neg (by omega), if_neg c3, if_neg c2]
      refine ⟨fun j hj => ?_, Or.inr ⟨rfl, ?_⟩⟩
      · rw [f1 j]
        split
        · exact hR j hj
        · try rw [if_pos hj]
          exact vp_in_nI (by omega) (by omega)
      · refine valS_up (k := k) (fun j hj => ?_) ?_ m hkm (fun j hj => vp_mn9 (hR j hj) (by omega))
        · rw [f1 j, if_pos hj]
        · rw [f1 k, if_neg (Nat.lt_irrefl _), if_pos hkm, Nat.sub_self, e3, pk_cl (x := nI ck) ck rfl (by omega), pk_cl (x := nI (ck + 1 + 0)) (ck + 1 + 0) rfl (by omega)]
          omega
  · have q9 : ic = m := by omega
    subst q9
    rw [Nat.sub_self, if_neg (by decide), if_neg (by decide)]
    exact ⟨hR, Or.inl rfl⟩
theorem layTri_le {tm : Nat → Int32} {n : Nat} (h3 : 3 ≤ n) (hn : n < 7) : X7_layTriples_p76_17 tm n ≤ 20 := by
  rcases (show n = 3 ∨ n = 4 ∨ n = 5 ∨ n = 6 by omega) with rfl | rfl | rfl | rfl
  · exact (show (1 : Nat) ≤ 20 by decide)
  · exact (show (4 : Nat) ≤ 20 by decide)
  · exact (show (10 : Nat) ≤ 20 by decide)
  · exact (show (20 : Nat) ≤ 20 by decide)
theorem isIn_36 {v : Int32} (h : ¬ X7_isIn_v v (nI 3) (nI 6) = 0) : vp_in v 7 ∧ 3 ≤ v.toNatClampNeg := by
  unfold X7_isIn_v at h
  repeat' split at h
  all_goals first | exact absurd rfl h | skip
  rename_i c1 c2
  have h0 : ¬ v < 0 := fun q => c1 (Int32.lt_trans q (by decide))
  have e := zge9 h0
  have hb := Int32.toNatClampNeg_lt v
  refine ⟨fun z => ?_, Nat.not_lt.mp (fun q => c1 (by rw [e]; exact nI_lt q (by omega)))⟩
  rcases z with z | z
  · exact h0 z
  · exact c2 (by rw [e]; exact nI_lt (by omega) (by omega))
abbrev mX7_kinds : zM := (cX7_kinds, 7, (some .int), RX7, wsX7_kinds, "kinds")
theorem hiX7_kinds_X7 : ∀ w ∈ wsX70, w ∈ wsX7_kinds := fun w h => List.mem_cons_of_mem _ (List.mem_append_right _ h)
theorem lkX7_kinds_122 : Cond.fieldLink RX7 122 "ConfigSearchModel" "code" "I" ∈ wsX7_kinds := by decide +kernel
theorem lkX7_kinds_110 : Cond.fieldLink RX7 110 "ConfigSearchModel" "kindsKnown" "[I" ∈ wsX7_kinds := by decide +kernel
theorem okk_X7_layTriples : zOk yX7_layTriples 1 := by unfold zOk; decide +kernel
theorem lkX7_kinds_303 : Cond.fieldLink RX7 303 "ConfigSearchModel" "triples" "I" ∈ wsX7_kinds := by decide +kernel
theorem lkX7_kinds_116 : Cond.fieldLink RX7 116 "ConfigSearchModel" "chosen" "[I" ∈ wsX7_kinds := by decide +kernel
theorem lkX7_kinds_162 : Cond.fieldLink RX7 162 "ConfigSearchModel" "isNamed" "Z" ∈ wsX7_kinds := by decide +kernel
theorem okk_X7_isGoodSet : zOk yX7_isGoodSet 1 := by unfold zOk; decide +kernel
theorem okk_X7_nextSet : zOk yX7_nextSet 1 := by unfold zOk; decide +kernel
theorem okk_X7_isLeastSet : zOk yX7_isLeastSet 2 := by unfold zOk; decide +kernel
def X7_kinds_L68_F (k : Nat) (a9 : (Nat → Int32)) : (Nat → Int32) := upd a9 k (nI k)
def X7_kinds_L89_F (tm : Nat → Int32) (n : Int32) (m : Int32) (t : Nat) (a9 : (Int32) × (Int32) × (Nat → Int32) × (Nat → Int32) × (Nat → Int32) × (Nat → Int32) × (Nat → Int32)) : (Int32) × (Int32) × (Nat → Int32) × (Nat → Int32) × (Nat → Int32) × (Nat → Int32) × (Nat → Int32) := if a9.2.1 = 0 then (a9.1, a9.2.1, a9.2.2.1, a9.2.2.2.1, a9.2.2.2.2.1, a9.2.2.2.2.2.1, a9.2.2.2.2.2.2) else (if (X7_isGoodSet_v (X7_layTriples_c110 tm n.toNatClampNeg) a9.2.2.2.2.2.2 m.toNatClampNeg) = 0 then (a9.1 + (nI 0), X7_nextSet_v (X7_layTriples_p76_17 tm n.toNatClampNeg) a9.2.2.2.2.2.2 m.toNatClampNeg, a9.2.2.1, a9.2.2.2.1, a9.2.2.2.2.1, a9.2.2.2.2.2.1, X7_nextSet_c111 (X7_layTriples_p76_17 tm n.toNatClampNeg) a9.2.2.2.2.2.2 m.toNatClampNeg) else (if (X7_isLeastSet_v (X7_layTriples_c110 tm n.toNatClampNeg) a9.2.2.2.2.2.2 a9.2.2.1 a9.2.2.2.1 a9.2.2.2.2.1 a9.2.2.2.2.2.1 n.toNatClampNeg m.toNatClampNeg) = 0 then (a9.1 + (nI 0), X7_nextSet_v (X7_layTriples_p76_17 tm n.toNatClampNeg) a9.2.2.2.2.2.2 m.toNatClampNeg, X7_isLeastSet_c105 (X7_layTriples_c110 tm n.toNatClampNeg) a9.2.2.2.2.2.2 a9.2.2.1 a9.2.2.2.1 a9.2.2.2.2.1 a9.2.2.2.2.2.1 n.toNatClampNeg m.toNatClampNeg, X7_isLeastSet_c107 (X7_layTriples_c110 tm n.toNatClampNeg) a9.2.2.2.2.2.2 a9.2.2.1 a9.2.2.2.1 a9.2.2.2.2.1 a9.2.2.2.2.2.1 n.toNatClampNeg m.toNatClampNeg, X7_isLeastSet_c102 (X7_layTriples_c110 tm n.toNatClampNeg) a9.2.2.2.2.2.2 a9.2.2.1 a9.2.2.2.1 a9.2.2.2.2.1 a9.2.2.2.2.2.1 n.toNatClampNeg m.toNatClampNeg, X7_isLeastSet_c104 (X7_layTriples_c110 tm n.toNatClampNeg) a9.2.2.2.2.2.2 a9.2.2.1 a9.2.2.2.1 a9.2.2.2.2.1 a9.2.2.2.2.2.1 n.toNatClampNeg m.toNatClampNeg, X7_nextSet_c111 (X7_layTriples_p76_17 tm n.toNatClampNeg) a9.2.2.2.2.2.2 m.toNatClampNeg) else (a9.1 + (nI 1), X7_nextSet_v (X7_layTriples_p76_17 tm n.toNatClampNeg) a9.2.2.2.2.2.2 m.toNatClampNeg, X7_isLeastSet_c105 (X7_layTriples_c110 tm n.toNatClampNeg) a9.2.2.2.2.2.2 a9.2.2.1 a9.2.2.2.1 a9.2.2.2.2.1 a9.2.2.2.2.2.1 n.toNatClampNeg m.toNatClampNeg, X7_isLeastSet_c107 (X7_layTriples_c110 tm n.toNatClampNeg) a9.2.2.2.2.2.2 a9.2.2.1 a9.2.2.2.1 a9.2.2.2.2.1 a9.2.2.2.2.2.1 n.toNatClampNeg m.toNatClampNeg, X7_isLeastSet_c102 (X7_layTriples_c110 tm n.toNatClampNeg) a9.2.2.2.2.2.2 a9.2.2.1 a9.2.2.2.1 a9.2.2.2.2.1 a9.2.2.2.2.2.1 n.toNatClampNeg m.toNatClampNeg, X7_isLeastSet_c104 (X7_layTriples_c110 tm n.toNatClampNeg) a9.2.2.2.2.2.2 a9.2.2.1 a9.2.2.2.1 a9.2.2.2.2.1 a9.2.2.2.2.2.1 n.toNatClampNeg m.toNatClampNeg, X7_nextSet_c111 (X7_layTriples_p76_17 tm n.toNatClampNeg) a9.2.2.2.2.2.2 m.toNatClampNeg)))
def X7_kinds_L89_B (tm : Nat → Int32) (kk : Nat → Int32) (n : Int32) (m : Int32) (t : Nat) (a9 : (Int32) × (Int32) × (Nat → Int32) × (Nat → Int32) × (Nat → Int32) × (Nat → Int32) × (Nat → Int32)) : Option ((Int32) × (Nat) × (Int32) × (Nat) × (Nat → Int32) × (Nat → Int32) × (Nat → Int32) × (Nat → Int32) × (Nat → Int32) × (Nat → Int32) × (Nat → Int32)) := if a9.2.1 = 0 then (some (((upd kk ((5 * n.toNatClampNeg) + m.toNatClampNeg) (a9.1 + (nI 1))) ((5 * n.toNatClampNeg) + m.toNatClampNeg)) - (nI 1), 0, nI 0, X7_layTriples_p76_17 tm n.toNatClampNeg, a9.2.2.2.2.1, a9.2.2.2.2.2.1, a9.2.2.1, a9.2.2.2.1, upd kk ((5 * n.toNatClampNeg) + m.toNatClampNeg) (a9.1 + (nI 1)), X7_layTriples_c110 tm n.toNatClampNeg, a9.2.2.2.2.2.2)) else (if (X7_isGoodSet_v (X7_layTriples_c110 tm n.toNatClampNeg) a9.2.2.2.2.2.2 m.toNatClampNeg) = 0 then none else (if (X7_isLeastSet_v (X7_layTriples_c110 tm n.toNatClampNeg) a9.2.2.2.2.2.2 a9.2.2.1 a9.2.2.2.1 a9.2.2.2.2.1 a9.2.2.2.2.2.1 n.toNatClampNeg m.toNatClampNeg) = 0 then none else none))
def X7_kinds_L68v2_F (k : Nat) (a9 : (Nat → Int32)) : (Nat → Int32) := upd a9 k (nI k)
def X7_kinds_L89v2_F (tm : Nat → Int32) (n : Int32) (m : Int32) (t : Nat) (a9 : (Int32) × (Int32) × (Nat → Int32) × (Nat → Int32) × (Nat → Int32) × (Nat → Int32) × (Nat → Int32)) : (Int32) × (Int32) × (Nat → Int32) × (Nat → Int32) × (Nat → Int32) × (Nat → Int32) × (Nat → Int32) := if a9.2.1 = 0 then (a9.1, a9.2.1, a9.2.2.1, a9.2.2.2.1, a9.2.2.2.2.1, a9.2.2.2.2.2.1, a9.2.2.2.2.2.2) else (if (X7_isGoodSet_v (X7_layTriples_c110 tm n.toNatClampNeg) a9.2.2.2.2.2.2 m.toNatClampNeg) = 0 then (a9.1 + (nI 0), X7_nextSet_v (X7_layTriples_p76_17 tm n.toNatClampNeg) a9.2.2.2.2.2.2 m.toNatClampNeg, a9.2.2.1, a9.2.2.2.1, a9.2.2.2.2.1, a9.2.2.2.2.2.1, X7_nextSet_c111 (X7_layTriples_p76_17 tm n.toNatClampNeg) a9.2.2.2.2.2.2 m.toNatClampNeg) else (if (X7_isLeastSet_v (X7_layTriples_c110 tm n.toNatClampNeg) a9.2.2.2.2.2.2 a9.2.2.1 a9.2.2.2.1 a9.2.2.2.2.1 a9.2.2.2.2.2.1 n.toNatClampNeg m.toNatClampNeg) = 0 then (a9.1 + (nI 0), X7_nextSet_v (X7_layTriples_p76_17 tm n.toNatClampNeg) a9.2.2.2.2.2.2 m.toNatClampNeg, X7_isLeastSet_c105 (X7_layTriples_c110 tm n.toNatClampNeg) a9.2.2.2.2.2.2 a9.2.2.1 a9.2.2.2.1 a9.2.2.2.2.1 a9.2.2.2.2.2.1 n.toNatClampNeg m.toNatClampNeg, X7_isLeastSet_c107 (X7_layTriples_c110 tm n.toNatClampNeg) a9.2.2.2.2.2.2 a9.2.2.1 a9.2.2.2.1 a9.2.2.2.2.1 a9.2.2.2.2.2.1 n.toNatClampNeg m.toNatClampNeg, X7_isLeastSet_c102 (X7_layTriples_c110 tm n.toNatClampNeg) a9.2.2.2.2.2.2 a9.2.2.1 a9.2.2.2.1 a9.2.2.2.2.1 a9.2.2.2.2.2.1 n.toNatClampNeg m.toNatClampNeg, X7_isLeastSet_c104 (X7_layTriples_c110 tm n.toNatClampNeg) a9.2.2.2.2.2.2 a9.2.2.1 a9.2.2.2.1 a9.2.2.2.2.1 a9.2.2.2.2.2.1 n.toNatClampNeg m.toNatClampNeg, X7_nextSet_c111 (X7_layTriples_p76_17 tm n.toNatClampNeg) a9.2.2.2.2.2.2 m.toNatClampNeg) else (a9.1 + (nI 1), X7_nextSet_v (X7_layTriples_p76_17 tm n.toNatClampNeg) a9.2.2.2.2.2.2 m.toNatClampNeg, X7_isLeastSet_c105 (X7_layTriples_c110 tm n.toNatClampNeg) a9.2.2.2.2.2.2 a9.2.2.1 a9.2.2.2.1 a9.2.2.2.2.1 a9.2.2.2.2.2.1 n.toNatClampNeg m.toNatClampNeg, X7_isLeastSet_c107 (X7_layTriples_c110 tm n.toNatClampNeg) a9.2.2.2.2.2.2 a9.2.2.1 a9.2.2.2.1 a9.2.2.2.2.1 a9.2.2.2.2.2.1 n.toNatClampNeg m.toNatClampNeg, X7_isLeastSet_c102 (X7_layTriples_c110 tm n.toNatClampNeg) a9.2.2.2.2.2.2 a9.2.2.1 a9.2.2.2.1 a9.2.2.2.2.1 a9.2.2.2.2.2.1 n.toNatClampNeg m.toNatClampNeg, X7_isLeastSet_c104 (X7_layTriples_c110 tm n.toNatClampNeg) a9.2.2.2.2.2.2 a9.2.2.1 a9.2.2.2.1 a9.2.2.2.2.1 a9.2.2.2.2.2.1 n.toNatClampNeg m.toNatClampNeg, X7_nextSet_c111 (X7_layTriples_p76_17 tm n.toNatClampNeg) a9.2.2.2.2.2.2 m.toNatClampNeg)))
def X7_kinds_L89v2_B (tm : Nat → Int32) (kk : Nat → Int32) (n : Int32) (m : Int32) (t : Nat) (a9 : (Int32) × (Int32) × (Nat → Int32) × (Nat → Int32) × (Nat → Int32) × (Nat → Int32) × (Nat → Int32)) : Option ((Int32) × (Nat) × (Int32) × (Nat) × (Nat → Int32) × (Nat → Int32) × (Nat → Int32) × (Nat → Int32) × (Nat → Int32) × (Nat → Int32) × (Nat → Int32)) := if a9.2.1 = 0 then (some (((upd kk ((5 * n.toNatClampNeg) + m.toNatClampNeg) (a9.1 + (nI 1))) ((5 * n.toNatClampNeg) + m.toNatClampNeg)) - (nI 1), 0, nI 0, X7_layTriples_p76_17 tm n.toNatClampNeg, a9.2.2.2.2.1, a9.2.2.2.2.2.1, a9.2.2.1, a9.2.2.2.1, upd kk ((5 * n.toNatClampNeg) + m.toNatClampNeg) (a9.1 + (nI 1)), X7_layTriples_c110 tm n.toNatClampNeg, a9.2.2.2.2.2.2)) else (if (X7_isGoodSet_v (X7_layTriples_c110 tm n.toNatClampNeg) a9.2.2.2.2.2.2 m.toNatClampNeg) = 0 then none else (if (X7_isLeastSet_v (X7_layTriples_c110 tm n.toNatClampNeg) a9.2.2.2.2.2.2 a9.2.2.1 a9.2.2.2.1 a9.2.2.2.2.1 a9.2.2.2.2.2.1 n.toNatClampNeg m.toNatClampNeg) = 0 then none else none))
def X7_kinds_v (tm ch kk fm ow nm fr : Nat → Int32) (n m : Int32) : Int32 := if (X7_isIn_v n (nI 3) (nI 6)) = 0 then (-9) else (if (X7_isIn_v m (nI 0) (nI 4)) = 0 then (-9) else (if (kk ((5 * n.toNatClampNeg) + m.toNatClampNeg)) = 0 then (if (nI (X7_layTriples_p76_17 tm n.toNatClampNeg)) < (nI m.toNatClampNeg) then (zlet (zfold (X7_kinds_L68_F) m.toNatClampNeg 0 ch) (fun rr68 => zpick (zfoldB (X7_kinds_L89_B tm kk n m) (X7_kinds_L89_F tm n m) 1 0 (nI 0, nI 0, fm, ow, nm, fr, rr68)) (fun b => b.1) (fun am89 => nI 0))) else (zlet (zfold (X7_kinds_L68v2_F) m.toNatClampNeg 0 ch) (fun rr68 => zpick (zfoldB (X7_kinds_L89v2_B tm kk n m) (X7_kinds_L89v2_F tm n m) 194484 0 (nI 0, nI 1, fm, ow, nm, fr, rr68)) (fun b => b.1) (fun am89 => nI 0)))) else ((kk ((5 * n.toNatClampNeg) + m.toNatClampNeg)) - (nI 1))))
def X7_kinds_p76_0 (tm ch kk fm ow nm fr : Nat → Int32) (n m : Int32) : Nat := if (X7_isIn_v n (nI 3) (nI 6)) = 0 then 0 else (if (X7_isIn_v m (nI 0) (nI 4)) = 0 then 0 else (if (kk ((5 * n.toNatClampNeg) + m.toNatClampNeg)) = 0 then (if (nI (X7_layTriples_p76_17 tm n.toNatClampNeg)) < (nI m.toNatClampNeg) then (zlet (zfold (X7_kinds_L68_F) m.toNatClampNeg 0 ch) (fun rr68 => zpick (zfoldB (X7_kinds_L89_B tm kk n m) (X7_kinds_L89_F tm n m) 1 0 (nI 0, nI 0, fm, ow, nm, fr, rr68)) (fun b => b.2.1) (fun am89 => 0))) else (zlet (zfold (X7_kinds_L68v2_F) m.toNatClampNeg 0 ch) (fun rr68 => zpick (zfoldB (X7_kinds_L89v2_B tm kk n m) (X7_kinds_L89v2_F tm n m) 194484 0 (nI 0, nI 1, fm, ow, nm, fr, rr68)) (fun b => b.2.1) (fun am89 => 0)))) else 0))
def X7_kinds_p76_16 (isN : Int32) (tm ch kk fm ow nm fr : Nat → Int32) (n m : Int32) : Int32 := if (X7_isIn_v n (nI 3) (nI 6)) = 0 then isN else (if (X7_isIn_v m (nI 0) (nI 4)) = 0 then isN else (if (kk ((5 * n.toNatClampNeg) + m.toNatClampNeg)) = 0 then (if (nI (X7_layTriples_p76_17 tm n.toNatClampNeg)) < (nI m.toNatClampNeg) then (zlet (zfold (X7_kinds_L68_F) m.toNatClampNeg 0 ch) (fun rr68 => zpick (zfoldB (X7_kinds_L89_B tm kk n m) (X7_kinds_L89_F tm n m) 1 0 (nI 0, nI 0, fm, ow, nm, fr, rr68)) (fun b => b.2.2.1) (fun am89 => isN))) else (zlet (zfold (X7_kinds_L68v2_F) m.toNatClampNeg 0 ch) (fun rr68 => zpick (zfoldB (X7_kinds_L89v2_B tm kk n m) (X7_kinds_L89v2_F tm n m) 194484 0 (nI 0, nI 1, fm, ow, nm, fr, rr68)) (fun b => b.2.2.1) (fun am89 => isN)))) else isN))
def X7_kinds_p76_17 (trs : Nat) (tm ch kk fm ow nm fr : Nat → Int32) (n m : Int32) : Nat := if (X7_isIn_v n (nI 3) (nI 6)) = 0 then trs else (if (X7_isIn_v m (nI 0) (nI 4)) = 0 then trs else (if (kk ((5 * n.toNatClampNeg) + m.toNatClampNeg)) = 0 then (if (nI (X7_layTriples_p76_17 tm n.toNatClampNeg)) < (nI m.toNatClampNeg) then (zlet (zfold (X7_kinds_L68_F) m.toNatClampNeg 0 ch) (fun rr68 => zpick (zfoldB (X7_kinds_L89_B tm kk n m) (X7_kinds_L89_F tm n m) 1 0 (nI 0, nI 0, fm, ow, nm, fr, rr68)) (fun b => b.2.2.2.1) (fun am89 => X7_layTriples_p76_17 tm n.toNatClampNeg))) else (zlet (zfold (X7_kinds_L68v2_F) m.toNatClampNeg 0 ch) (fun rr68 => zpick (zfoldB (X7_kinds_L89v2_B tm kk n m) (X7_kinds_L89v2_F tm n m) 194484 0 (nI 0, nI 1, fm, ow, nm, fr, rr68)) (fun b => b.2.2.2.1) (fun am89 => X7_layTriples_p76_17 tm n.toNatClampNeg)))) else trs))
def X7_kinds_c102 (tm ch kk fm ow nm fr : Nat → Int32) (n m : Int32) : Nat → Int32 := if (X7_isIn_v n (nI 3) (nI 6)) = 0 then nm else (if (X7_isIn_v m (nI 0) (nI 4)) = 0 then nm else (if (kk ((5 * n.toNatClampNeg) + m.toNatClampNeg)) = 0 then (if (nI (X7_layTriples_p76_17 tm n.toNatClampNeg)) < (nI m.toNatClampNeg) then (zlet (zfold (X7_kinds_L68_F) m.toNatClampNeg 0 ch) (fun rr68 => zpick (zfoldB (X7_kinds_L89_B tm kk n m) (X7_kinds_L89_F tm n m) 1 0 (nI 0, nI 0, fm, ow, nm, fr, rr68)) (fun b => b.2.2.2.2.1) (fun am89 => am89.2.2.2.2.1))) else (zlet (zfold (X7_kinds_L68v2_F) m.toNatClampNeg 0 ch) (fun rr68 => zpick (zfoldB (X7_kinds_L89v2_B tm kk n m) (X7_kinds_L89v2_F tm n m) 194484 0 (nI 0, nI 1, fm, ow, nm, fr, rr68)) (fun b => b.2.2.2.2.1) (fun am89 => am89.2.2.2.2.1)))) else nm))
def X7_kinds_c104 (tm ch kk fm ow nm fr : Nat → Int32) (n m : Int32) : Nat → Int32 := if (X7_isIn_v n (nI 3) (nI 6)) = 0 then fr else (if (X7_isIn_v m (nI 0) (nI 4)) = 0 then fr else (if (kk ((5 * n.toNatClampNeg) + m.toNatClampNeg)) = 0 then (if (nI (X7_layTriples_p76_17 tm n.toNatClampNeg)) < (nI m.toNatClampNeg) then (zlet (zfold (X7_kinds_L68_F) m.toNatClampNeg 0 ch) (fun rr68 => zpick (zfoldB (X7_kinds_L89_B tm kk n m) (X7_kinds_L89_F tm n m) 1 0 (nI 0, nI 0, fm, ow, nm, fr, rr68)) (fun b => b.2.2.2.2.2.1) (fun am89 => am89.2.2.2.2.2.1))) else (zlet (zfold (X7_kinds_L68v2_F) m.toNatClampNeg 0 ch) (fun rr68 => zpick (zfoldB (X7_kinds_L89v2_B tm kk n m) (X7_kinds_L89v2_F tm n m) 194484 0 (nI 0, nI 1, fm, ow, nm, fr, rr68)) (fun b => b.2.2.2.2.2.1) (fun am89 => am89.2.2.2.2.2.1)))) else fr))
def X7_kinds_c105 (tm ch kk fm ow nm fr : Nat → Int32) (n m : Int32) : Nat → Int32 := if (X7_isIn_v n (nI 3) (nI 6)) = 0 then fm else (if (X7_isIn_v m (nI 0) (nI 4)) = 0 then fm else (if (kk ((5 * n.toNatClampNeg) + m.toNatClampNeg)) = 0 then (if (nI (X7_layTriples_p76_17 tm n.toNatClampNeg)) < (nI m.toNatClampNeg) then (zlet (zfold (X7_kinds_L68_F) m.toNatClampNeg 0 ch) (fun rr68 => zpick (zfoldB (X7_kinds_L89_B tm kk n m) (X7_kinds_L89_F tm n m) 1 0 (nI 0, nI 0, fm, ow, nm, fr, rr68)) (fun b => b.2.2.2.2.2.2.1) (fun am89 => am89.2.2.1))) else (zlet (zfold (X7_kinds_L68v2_F) m.toNatClampNeg 0 ch) (fun rr68 => zpick (zfoldB (X7_kinds_L89v2_B tm kk n m) (X7_kinds_L89v2_F tm n m) 194484 0 (nI 0, nI 1, fm, ow, nm, fr, rr68)) (fun b => b.2.2.2.2.2.2.1) (fun am89 => am89.2.2.1)))) else fm))
def X7_kinds_c107 (tm ch kk fm ow nm fr : Nat → Int32) (n m : Int32) : Nat → Int32 := if (X7_isIn_v n (nI 3) (nI 6)) = 0 then ow else (if (X7_isIn_v m (nI 0) (nI 4)) = 0 then ow else (if (kk ((5 * n.toNatClampNeg) + m.toNatClampNeg)) = 0 then (if (nI (X7_layTriples_p76_17 tm n.toNatClampNeg)) < (nI m.toNatClampNeg) then (zlet (zfold (X7_kinds_L68_F) m.toNatClampNeg 0 ch) (fun rr68 => zpick (zfoldB (X7_kinds_L89_B tm kk n m) (X7_kinds_L89_F tm n m) 1 0 (nI 0, nI 0, fm, ow, nm, fr, rr68)) (fun b => b.2.2.2.2.2.2.2.1) (fun am89 => am89.2.2.2.1))) else (zlet (zfold (X7_kinds_L68v2_F) m.toNatClampNeg 0 ch) (fun rr68 => zpick (zfoldB (X7_kinds_L89v2_B tm kk n m) (X7_kinds_L89v2_F tm n m) 194484 0 (nI 0, nI 1, fm, ow, nm, fr, rr68)) (fun b => b.2.2.2.2.2.2.2.1) (fun am89 => am89.2.2.2.1)))) else ow))
def X7_kinds_c109 (tm ch kk fm ow nm fr : Nat → Int32) (n m : Int32) : Nat → Int32 := if (X7_isIn_v n (nI 3) (nI 6)) = 0 then kk else (if (X7_isIn_v m (nI 0) (nI 4)) = 0 then kk else (if (kk ((5 * n.toNatClampNeg) + m.toNatClampNeg)) = 0 then (if (nI (X7_layTriples_p76_17 tm n.toNatClampNeg)) < (nI m.toNatClampNeg) then (zlet (zfold (X7_kinds_L68_F) m.toNatClampNeg 0 ch) (fun rr68 => zpick (zfoldB (X7_kinds_L89_B tm kk n m) (X7_kinds_L89_F tm n m) 1 0 (nI 0, nI 0, fm, ow, nm, fr, rr68)) (fun b => b.2.2.2.2.2.2.2.2.1) (fun am89 => kk))) else (zlet (zfold (X7_kinds_L68v2_F) m.toNatClampNeg 0 ch) (fun rr68 => zpick (zfoldB (X7_kinds_L89v2_B tm kk n m) (X7_kinds_L89v2_F tm n m) 194484 0 (nI 0, nI 1, fm, ow, nm, fr, rr68)) (fun b => b.2.2.2.2.2.2.2.2.1) (fun am89 => kk)))) else kk))
def X7_kinds_c110 (tm ch kk fm ow nm fr : Nat → Int32) (n m : Int32) : Nat → Int32 := if (X7_isIn_v n (nI 3) (nI 6)) = 0 then tm else (if (X7_isIn_v m (nI 0) (nI 4)) = 0 then tm else (if (kk ((5 * n.toNatClampNeg) + m.toNatClampNeg)) = 0 then (if (nI (X7_layTriples_p76_17 tm n.toNatClampNeg)) < (nI m.toNatClampNeg) then (zlet (zfold (X7_kinds_L68_F) m.toNatClampNeg 0 ch) (fun rr68 => zpick (zfoldB (X7_kinds_L89_B tm kk n m) (X7_kinds_L89_F tm n m) 1 0 (nI 0, nI 0, fm, ow, nm, fr, rr68)) (fun b => b.2.2.2.2.2.2.2.2.2.1) (fun am89 => X7_layTriples_c110 tm n.toNatClampNeg))) else (zlet (zfold (X7_kinds_L68v2_F) m.toNatClampNeg 0 ch) (fun rr68 => zpick (zfoldB (X7_kinds_L89v2_B tm kk n m) (X7_kinds_L89v2_F tm n m) 194484 0 (nI 0, nI 1, fm, ow, nm, fr, rr68)) (fun b => b.2.2.2.2.2.2.2.2.2.1) (fun am89 => X7_layTriples_c110 tm n.toNatClampNeg)))) else tm))
def X7_kinds_c111 (tm ch kk fm ow nm fr : Nat → Int32) (n m : Int32) : Nat → Int32 := if (X7_isIn_v n (nI 3) (nI 6)) = 0 then ch else (if (X7_isIn_v m (nI 0) (nI 4)) = 0 then ch else (if (kk ((5 * n.toNatClampNeg) + m.toNatClampNeg)) = 0 then (if (nI (X7_layTriples_p76_17 tm n.toNatClampNeg)) < (nI m.toNatClampNeg) then (zlet (zfold (X7_kinds_L68_F) m.toNatClampNeg 0 ch) (fun rr68 => zpick (zfoldB (X7_kinds_L89_B tm kk n m) (X7_kinds_L89_F tm n m) 1 0 (nI 0, nI 0, fm, ow, nm, fr, rr68)) (fun b => b.2.2.2.2.2.2.2.2.2.2) (fun am89 => am89.2.2.2.2.2.2))) else (zlet (zfold (X7_kinds_L68v2_F) m.toNatClampNeg 0 ch) (fun rr68 => zpick (zfoldB (X7_kinds_L89v2_B tm kk n m) (X7_kinds_L89v2_F tm n m) 194484 0 (nI 0, nI 1, fm, ow, nm, fr, rr68)) (fun b => b.2.2.2.2.2.2.2.2.2.2) (fun am89 => am89.2.2.2.2.2.2)))) else ch))
set_option maxRecDepth 100000 in
set_option maxHeartbeats 4000000 in
theorem c_X7_kinds (G : zG) (ex : Bool) (g : Nat → va_E) (code : Int32) (tps pts lns wds brs ors : Nat) (stp hasP fld laid told : Int32) (rws : Nat) (cms : Int32) (cmT : Nat) (cmS isN : Int32) (trs : Nat) (tm ch kk fm ow nm fr : Nat → Int32) (n m : Int32)  (h76 : g 76 = (oMod G code (nI tps) (nI pts) (nI lns) (nI wds) (nI brs) (nI ors) stp hasP fld laid told (nI rws) cms (nI cmT) cmS isN (nI trs))) (h110 : g 110 = (zI G 20 tm)) (h111 : g 111 = (zI G 4 ch)) (h109 : g 109 = (zI G 35 kk)) (h105 : g 105 = (zI G 12 fm)) (h107 : g 107 = (zI G 12 ow)) (h102 : g 102 = (zI G 7 nm)) (h104 : g 104 = (zI G 7 fr)) : zC G yX7_kinds wsX7_kinds (zrm 3 74) ex [.ref (zB G + 76), .int n, .int m] (zN, g) (fun r h => r = some (.int (X7_kinds_v tm ch kk fm ow nm fr n m)) ∧ h = (zN, zus g [(76, (oMod G (nI (X7_kinds_p76_0 tm ch kk fm ow nm fr n m)) (nI tps) (nI pts) (nI lns) (nI wds) (nI brs) (nI ors) stp hasP fld laid told (nI rws) cms (nI cmT) cmS (X7_kinds_p76_16 isN tm ch kk fm ow nm fr n m) (nI (X7_kinds_p76_17 trs tm ch kk fm ow nm fr n m)))), (102, zI G 7 (X7_kinds_c102 tm ch kk fm ow nm fr n m)), (104, zI G 7 (X7_kinds_c104 tm ch kk fm ow nm fr n m)), (105, zI G 12 (X7_kinds_c105 tm ch kk fm ow nm fr n m)), (107, zI G 12 (X7_kinds_c107 tm ch kk fm ow nm fr n m)), (109, zI G 35 (X7_kinds_c109 tm ch kk fm ow nm fr n m)), (110, zI G 20 (X7_kinds_c110 tm ch kk fm ow nm fr n m)), (111, zI G 4 (X7_kinds_c111 tm ch kk fm ow nm fr n m))])) := by
  refine zC_of mX7_kinds (lv := [some (.ref (zB G + 76)), some (.int n), some (.int m), none, none, none, none]) rfl rfl (by decide) (by intro v hv; simp at hv; rcases hv with rfl | rfl | rfl <;> rfl) (Nat.le_of_ble_eq_true rfl) rfl ?_
  refine z_0 ?_
  refine z_heap (g' := zu (zus g []) 76 (oMod G code (nI tps) (nI pts) (nI lns) (nI wds) (nI brs) (nI ors) stp hasP fld laid told (nI rws) cms (nI cmT) cmS isN (nI trs))) (zu_self (zus g []) 76 _ h76).symm ?_
  refine z_n (L' := [(76, (oMod G code (nI tps) (nI pts) (nI lns) (nI wds) (nI brs) (nI ors) stp hasP fld laid told (nI rws) cms (nI cmT) cmS isN (nI trs)))]) rfl ?_
  refine z_heap (g' := zu (zus g [(76, (oMod G code (nI tps) (nI pts) (nI lns) (nI wds) (nI brs) (nI ors) stp hasP fld laid told (nI rws) cms (nI cmT) cmS isN (nI trs)))]) 102 (zI G 7 nm)) (zu_self (zus g [(76, (oMod G code (nI tps) (nI pts) (nI lns) (nI wds) (nI brs) (nI ors) stp hasP fld laid told (nI rws) cms (nI cmT) cmS isN (nI trs)))]) 102 _ h102).symm ?_
  refine z_n (L' := [(76, (oMod G code (nI tps) (nI pts) (nI lns) (nI wds) (nI brs) (nI ors) stp hasP fld laid told (nI rws) cms (nI cmT) cmS isN (nI trs))), (102, (zI G 7 nm))]) rfl ?_
  refine z_heap (g' := zu (zus g [(76, (oMod G code (nI tps) (nI pts) (nI lns) (nI wds) (nI brs) (nI ors) stp hasP fld laid told (nI rws) cms (nI cmT) cmS isN (nI trs))), (102, (zI G 7 nm))]) 104 (zI G 7 fr)) (zu_self (zus g [(76, (oMod G code (nI tps) (nI pts) (nI lns) (nI wds) (nI brs) (nI ors) stp hasP fld laid told (nI rws) cms (nI cmT) cmS isN (nI trs))), (102, (zI G 7 nm))]) 104 _ h104).symm ?_
  refine z_n (L' := [(76, (oMod G code (nI tps) (nI pts) (nI lns) (nI wds) (nI brs) (nI ors) stp hasP fld laid told (nI rws) cms (nI cmT) cmS isN (nI trs))), (102, (zI G 7 nm)), (104, (zI G 7 fr))]) rfl ?_
  refine z_heap (g' := zu (zus g [(76, (oMod G code (nI tps) (nI pts) (nI lns) (nI wds) (nI brs) (nI ors) stp hasP fld laid told (nI rws) cms (nI cmT) cmS isN (nI trs))), (102, (zI G 7 nm)), (104, (zI G 7 fr))]) 105 (zI G 12 fm)) (zu_self (zus g [(76, (oMod G code (nI tps) (nI pts) (nI lns) (nI wds) (nI brs) (nI ors) stp hasP fld laid told (nI rws) cms (nI cmT) cmS isN (nI trs))), (102, (zI G 7 nm)), (104, (zI G 7 fr))]) 105 _ h105).symm ?_
  refine z_n (L' := [(76, (oMod G code (nI tps) (nI pts) (nI lns) (nI wds) (nI brs) (nI ors) stp hasP fld laid told (nI rws) cms (nI cmT) cmS isN (nI trs))), (102, (zI G 7 nm)), (104, (zI G 7 fr)), (105, (zI G 12 fm))]) rfl ?_
  refine z_heap (g' := zu (zus g [(76, (oMod G code (nI tps) (nI pts) (nI lns) (nI wds) (nI brs) (nI ors) stp hasP fld laid told (nI rws) cms (nI cmT) cmS isN (nI trs))), (102, (zI G 7 nm)), (104, (zI G 7 fr)), (105, (zI G 12 fm))]) 107 (zI G 12 ow)) (zu_self (zus g [(76, (oMod G code (nI tps) (nI pts) (nI lns) (nI wds) (nI brs) (nI ors) stp hasP fld laid told (nI rws) cms (nI cmT) cmS isN (nI trs))), (102, (zI G 7 nm)), (104, (zI G 7 fr)), (105, (zI G 12 fm))]) 107 _ h107).symm ?_
  refine z_n (L' := [(76, (oMod G code (nI tps) (nI pts) (nI lns) (nI wds) (nI brs) (nI ors) stp hasP fld laid told (nI rws) cms (nI cmT) cmS isN (nI trs))), (102, (zI G 7 nm)), (104, (zI G 7 fr)), (105, (zI G 12 fm)), (107, (zI G 12 ow))]) rfl ?_
  refine z_heap (g' := zu (zus g [(76, (oMod G code (nI tps) (nI pts) (nI lns) (nI wds) (nI brs) (nI ors) stp hasP fld laid told (nI rws) cms (nI cmT) cmS isN (nI trs))), (102, (zI G 7 nm)), (104, (zI G 7 fr)), (105, (zI G 12 fm)), (107, (zI G 12 ow))]) 109 (zI G 35 kk)) (zu_self (zus g [(76, (oMod G code (nI tps) (nI pts) (nI lns) (nI wds) (nI brs) (nI ors) stp hasP fld laid told (nI rws) cms (nI cmT) cmS isN (nI trs))), (102, (zI G 7 nm)), (104, (zI G 7 fr)), (105, (zI G 12 fm)), (107, (zI G 12 ow))]) 109 _ h109).symm ?_
  refine z_n (L' := [(76, (oMod G code (nI tps) (nI pts) (nI lns) (nI wds) (nI brs) (nI ors) stp hasP fld laid told (nI rws) cms (nI cmT) cmS isN (nI trs))), (102, (zI G 7 nm)), (104, (zI G 7 fr)), (105, (zI G 12 fm)), (107, (zI G 12 ow)), (109, (zI G 35 kk))]) rfl ?_
  refine z_heap (g' := zu (zus g [(76, (oMod G code (nI tps) (nI pts) (nI lns) (nI wds) (nI brs) (nI ors) stp hasP fld laid told (nI rws) cms (nI cmT) cmS isN (nI trs))), (102, (zI G 7 nm)), (104, (zI G 7 fr)), (105, (zI G 12 fm)), (107, (zI G 12 ow)), (109, (zI G 35 kk))]) 110 (zI G 20 tm)) (zu_self (zus g [(76, (oMod G code (nI tps) (nI pts) (nI lns) (nI wds) (nI brs) (nI ors) stp hasP fld laid told (nI rws) cms (nI cmT) cmS isN (nI trs))), (102, (zI G 7 nm)), (104, (zI G 7 fr)), (105, (zI G 12 fm)), (107, (zI G 12 ow)), (109, (zI G 35 kk))]) 110 _ h110).symm ?_
  refine z_n (L' := [(76, (oMod G code (nI tps) (nI pts) (nI lns) (nI wds) (nI brs) (nI ors) stp hasP fld laid told (nI rws) cms (nI cmT) cmS isN (nI trs))), (102, (zI G 7 nm)), (104, (zI G 7 fr)), (105, (zI G 12 fm)), (107, (zI G 12 ow)), (109, (zI G 35 kk)), (110, (zI G 20 tm))]) rfl ?_
  refine z_heap (g' := zu (zus g [(76, (oMod G code (nI tps) (nI pts) (nI lns) (nI wds) (nI brs) (nI ors) stp hasP fld laid told (nI rws) cms (nI cmT) cmS isN (nI trs))), (102, (zI G 7 nm)), (104, (zI G 7 fr)), (105, (zI G 12 fm)), (107, (zI G 12 ow)), (109, (zI G 35 kk)), (110, (zI G 20 tm))]) 111 (zI G 4 ch)) (zu_self (zus g [(76, (oMod G code (nI tps) (nI pts) (nI lns) (nI wds) (nI brs) (nI ors) stp hasP fld laid told (nI rws) cms (nI cmT) cmS isN (nI trs))), (102, (zI G 7 nm)), (104, (zI G 7 fr)), (105, (zI G 12 fm)), (107, (zI G 12 ow)), (109, (zI G 35 kk)), (110, (zI G 20 tm))]) 111 _ h111).symm ?_
  refine z_n (L' := [(76, (oMod G code (nI tps) (nI pts) (nI lns) (nI wds) (nI brs) (nI ors) stp hasP fld laid told (nI rws) cms (nI cmT) cmS isN (nI trs))), (102, (zI G 7 nm)), (104, (zI G 7 fr)), (105, (zI G 12 fm)), (107, (zI G 12 ow)), (109, (zI G 35 kk)), (110, (zI G 20 tm)), (111, (zI G 4 ch))]) rfl ?_
  refine z_aload_n dX7_kinds_0 rfl rfl ?_
  refine z_iconst (v := nI 0) dX7_kinds_1 rfl (by decide) ?_
  refine z_putN (e9 := (oMod G (nI 0) (nI tps) (nI pts) (nI lns) (nI wds) (nI brs) (nI ors) stp hasP fld laid told (nI rws) cms (nI cmT) cmS isN (nI trs))) tyX7 tyX7_ok nmX7 dX7_kinds_2 rfl hiX7_kinds_X7 0 lkX7_kinds_122 rfl (by decide +kernel) (Nat.le_of_ble_eq_true rfl) rfl rfl (by decide) (Nat.le_of_ble_eq_true rfl) rfl rfl rfl ?_
  refine z_n (L' := [(76, (oMod G (nI 0) (nI tps) (nI pts) (nI lns) (nI wds) (nI brs) (nI ors) stp hasP fld laid told (nI rws) cms (nI cmT) cmS isN (nI trs))), (102, (zI G 7 nm)), (104, (zI G 7 fr)), (105, (zI G 12 fm)), (107, (zI G 12 ow)), (109, (zI G 35 kk)), (110, (zI G 20 tm)), (111, (zI G 4 ch))]) rfl ?_
  refine z_iload_n dX7_kinds_5 rfl rfl ?_
  refine z_iconst (v := nI 3) dX7_kinds_6 rfl (by decide) ?_
  refine z_bipush (v := nI 6) dX7_kinds_7 rfl (by decide) ?_
  refine z_callSi (c_X7_isIn G ex _ n (nI 3) (nI 6)) gX7_kinds_X7_isIn rfl dX7_kinds_9 rfl rfl okk_X7_isIn ⟨Nat.le_of_ble_eq_true rfl, Nat.le_of_ble_eq_true rfl⟩ ⟨Nat.le_of_ble_eq_true rfl, Nat.le_of_ble_eq_true rfl⟩ (Nat.le_of_ble_eq_true rfl) ?_
  refine z_if_eq (tgt := 24) dX7_kinds_12 rfl (by decide) (fun c12 => ?_) (fun c12 => ?_)
  · refine z_bipush (v := (-9)) dX7_kinds_24 rfl (by decide) ?_
    exact z_ireturn dX7_kinds_26 rfl rfl (Nat.le_refl _) (Nat.le_refl _) (fun _ => rfl) ⟨by simp only [X7_kinds_v, if_pos c12], by simp only [X7_kinds_p76_0, X7_kinds_p76_16, X7_kinds_p76_17, X7_kinds_c102, X7_kinds_c104, X7_kinds_c105, X7_kinds_c107, X7_kinds_c109, X7_kinds_c110, X7_kinds_c111, if_pos c12]⟩
  · refine z_iload_n dX7_kinds_15 rfl rfl ?_
    refine z_iconst (v := nI 0) dX7_kinds_16 rfl (by decide) ?_
    refine z_iconst (v := nI 4) dX7_kinds_17 rfl (by decide) ?_
    refine z_callSi (c_X7_isIn G ex _ m (nI 0) (nI 4)) gX7_kinds_X7_isIn rfl dX7_kinds_18 rfl rfl okk_X7_isIn ⟨Nat.le_of_ble_eq_true rfl, Nat.le_of_ble_eq_true rfl⟩ ⟨Nat.le_of_ble_eq_true rfl, Nat.le_of_ble_eq_true rfl⟩ (Nat.le_of_ble_eq_true rfl) ?_
    refine z_if_ne (tgt := 27) dX7_kinds_21 rfl (by decide) (fun c21 => ?_) (fun c21 => ?_)
    · obtain ⟨hvn, hn3⟩ := isIn_36 c12
      have hvm : vp_in m 5 := isIn_k (n := 4) c21 (by decide)
      have hln := zvlt hvn
      have hlm := zvlt hvm
      have hT := layTri_le (tm := tm) hn3 hln
      refine z_lv (congrArg (fun z9 : Int32 => ([some (.ref (zB G + 76)), some (.int z9), some (.int m), none, none, none, none] : List (Option Value))) (show n = (nI n.toNatClampNeg) from zvin hvn)) ?_
      refine z_lv (congrArg (fun z9 : Int32 => ([some (.ref (zB G + 76)), some (.int (nI n.toNatClampNeg)), some (.int z9), none, none, none, none] : List (Option Value))) (show m = (nI m.toNatClampNeg) from zvin hvm)) ?_
      refine z_iconst (v := nI 5) dX7_kinds_27 rfl (by decide) ?_
      refine z_iload_n dX7_kinds_28 rfl rfl ?_
      refine z_imul dX7_kinds_29 rfl ?_
      refine z_iload_n dX7_kinds_30 rfl rfl ?_
      refine z_iadd dX7_kinds_31 rfl ?_
      refine z_top (show ((nI 5) * (nI n.toNatClampNeg)) + (nI m.toNatClampNeg) = nI ((5 * n.toNatClampNeg) + m.toNatClampNeg) from (zq_add (zq_mul rfl rfl) rfl)) ?_
      refine z_istore_3 dX7_kinds_32 rfl ?_
      refine z_aload_n dX7_kinds_33 rfl rfl ?_
      refine z_get dX7_kinds_34 rfl hiX7_kinds_X7 49 lkX7_kinds_110 (Nat.le_of_ble_eq_true rfl) rfl rfl (by decide) rfl ?_
      refine z_iload_n dX7_kinds_37 rfl rfl ?_
      refine z_ialdN (j := (5 * n.toNatClampNeg) + m.toNatClampNeg) dX7_kinds_38 rfl (Nat.le_of_ble_eq_true rfl) rfl (rfl) (by omega) (by decide) ?_
      refine z_if_ne (tgt := 146) dX7_kinds_39 rfl (by decide) (fun c39 => ?_) (fun c39 => ?_)
      · refine z_aload_n dX7_kinds_146 rfl rfl ?_
        refine z_get dX7_kinds_147 rfl hiX7_kinds_X7 49 lkX7_kinds_110 (Nat.le_of_ble_eq_true rfl) rfl rfl (by decide) rfl ?_
        refine z_iload_n dX7_kinds_150 rfl rfl ?_
        refine z_ialdN (j := (5 * n.toNatClampNeg) + m.toNatClampNeg) dX7_kinds_151 rfl (Nat.le_of_ble_eq_true rfl) rfl (rfl) (by omega) (by decide) ?_
        refine z_iconst (v := nI 1) dX7_kinds_152 rfl (by decide) ?_
        refine z_isub dX7_kinds_153 rfl ?_
        exact z_ireturn dX7_kinds_154 rfl rfl (Nat.le_refl _) (Nat.le_refl _) (fun _ => rfl) ⟨by simp only [X7_kinds_v, if_neg c12, if_neg c21, if_neg c39], by simp only [X7_kinds_p76_0, X7_kinds_p76_16, X7_kinds_p76_17, X7_kinds_c102, X7_kinds_c104, X7_kinds_c105, X7_kinds_c107, X7_kinds_c109, X7_kinds_c110, X7_kinds_c111, if_neg c12, if_neg c21, if_neg c39]⟩
      · refine z_aload_n dX7_kinds_42 rfl rfl ?_
        refine z_iload_n dX7_kinds_43 rfl rfl ?_
        refine z_callVv (c_X7_layTriples G ex _ (nI 0) tps pts lns wds brs ors stp hasP fld laid told rws cms cmT cmS isN trs tm n.toNatClampNeg (by omega) rfl rfl) gX7_kinds_X7_layTriples rfl dX7_kinds_44 rfl rfl rfl okk_X7_layTriples (Nat.le_of_ble_eq_true rfl) rfl rfl ⟨Nat.le_of_ble_eq_true rfl, Nat.le_of_ble_eq_true rfl⟩ ⟨Nat.le_of_ble_eq_true rfl, Nat.le_of_ble_eq_true rfl⟩ (Nat.le_of_ble_eq_true rfl) ?_
        refine z_nn (L' := [(76, (oMod G (nI 0) (nI tps) (nI pts) (nI lns) (nI wds) (nI brs) (nI ors) stp hasP fld laid told (nI rws) cms (nI cmT) cmS isN (nI (X7_layTriples_p76_17 tm n.toNatClampNeg)))), (102, (zI G 7 nm)), (104, (zI G 7 fr)), (105, (zI G 12 fm)), (107, (zI G 12 ow)), (109, (zI G 35 kk)), (110, (zI G 20 (X7_layTriples_c110 tm n.toNatClampNeg))), (111, (zI G 4 ch))]) rfl ?_
        refine z_iconst (v := nI 0) dX7_kinds_47 rfl (by decide) ?_
        refine z_istore_4 dX7_kinds_48 rfl ?_
        refine z_iload_n dX7_kinds_50 rfl rfl ?_
        refine z_aload_n dX7_kinds_51 rfl rfl ?_
        refine z_get dX7_kinds_52 rfl hiX7_kinds_X7 50 lkX7_kinds_303 (Nat.le_of_ble_eq_true rfl) rfl rfl (by decide) rfl ?_
        refine z_icmp_gt (tgt := 62) dX7_kinds_55 rfl (by decide) (fun c55 => ?_) (fun c55 => ?_)
        · refine z_iconst (v := nI 0) dX7_kinds_62 rfl (by decide) ?_
          refine z_istore_5 dX7_kinds_63 rfl ?_
          refine z_iconst (v := nI 0) dX7_kinds_65 rfl (by decide) ?_
          refine z_istore_6 dX7_kinds_66 rfl ?_
          refine z_forI (head := fun k (st9 : (Nat → Int32)) => Z G mX7_kinds (zrm 3 74) ex _ 68 [some (.ref (zB G + 76)), some (.int (nI n.toNatClampNeg)), some (.int (nI m.toNatClampNeg)), some (.int (nI ((5 * n.toNatClampNeg) + m.toNatClampNeg))), some (.int (nI 0)), some (.int (nI 0)), some (.int (nI k))] [] (zN, zus g [(76, (oMod G (nI 0) (nI tps) (nI pts) (nI lns) (nI wds) (nI brs) (nI ors) stp hasP fld laid told (nI rws) cms (nI cmT) cmS isN (nI (X7_layTriples_p76_17 tm n.toNatClampNeg)))), (102, (zI G 7 nm)), (104, (zI G 7 fr)), (105, (zI G 12 fm)), (107, (zI G 12 ow)), (109, (zI G 35 kk)), (110, (zI G 20 (X7_layTriples_c110 tm n.toNatClampNeg))), (111, (zI G 4 st9))]) 0 0) (F := (X7_kinds_L68_F)) (n := m.toNatClampNeg) (fun k a => ∀ j, j < k → a j = nI j) (fun k a hk h j hj => by
                unfold X7_kinds_L68_F
                simp only [upd]
                split
                · rename_i q; rw [q]
                · exact h j (by omega)) ?_ m.toNatClampNeg 0 ch (by omega) (fun j h => absurd h (Nat.not_lt_zero j)) ?_
          · intro k c0 hi hI K
            refine z_iload dX7_kinds_68 rfl rfl ?_
            refine z_iload_n dX7_kinds_70 rfl rfl ?_
            refine z_icmp_ge (tgt := 89) dX7_kinds_71 rfl (by decide) (fun c71 => ?_) (fun c71 => ?_)
            · exact absurd c71 (nI_ge hi (by omega))
            · refine z_aload_n dX7_kinds_74 rfl rfl ?_
              refine z_get dX7_kinds_75 rfl hiX7_kinds_X7 52 lkX7_kinds_116 (Nat.le_of_ble_eq_true rfl) rfl rfl (by decide) rfl ?_
              refine z_iload dX7_kinds_78 rfl rfl ?_
              refine z_iload dX7_kinds_80 rfl rfl ?_
              refine z_iastN (j := k) dX7_kinds_82 rfl (Nat.le_of_ble_eq_true rfl) rfl (rfl) (by omega) (by decide) ?_
              refine z_n (L' := [(76, (oMod G (nI 0) (nI tps) (nI pts) (nI lns) (nI wds) (nI brs) (nI ors) stp hasP fld laid told (nI rws) cms (nI cmT) cmS isN (nI (X7_layTriples_p76_17 tm n.toNatClampNeg)))), (102, (zI G 7 nm)), (104, (zI G 7 fr)), (105, (zI G 12 fm)), (107, (zI G 12 ow)), (109, (zI G 35 kk)), (110, (zI G 20 (X7_layTriples_c110 tm n.toNatClampNeg))), (111, (zI G 4 (upd c0 k (nI k))))]) rfl ?_
              refine z_iinc_6 (v := nI (k + 1)) dX7_kinds_83 rfl (zinc _) ?_
              refine z_goto (tgt := 68) dX7_kinds_86 (by decide) ?_
              exact K
          · generalize hR68 : zfold (X7_kinds_L68_F) m.toNatClampNeg 0 ch = r9
            obtain ⟨c0o, rfl⟩ : ∃ z, z = r9 := ⟨_, rfl⟩
            intro hI
            have hc0 : ∀ j, j < m.toNatClampNeg → c0o j = nI j := hI
            refine z_iload dX7_kinds_68 rfl rfl ?_
            refine z_iload_n dX7_kinds_70 rfl rfl ?_
            refine z_icmp_ge (tgt := 89) dX7_kinds_71 rfl (by decide) (fun c71 => ?_) (fun c71 => ?_)
            · refine z_forB (head := fun t (st9 : (Int32) × (Int32) × (Nat → Int32) × (Nat → Int32) × (Nat → Int32) × (Nat → Int32) × (Nat → Int32)) => ∀ y6 : Option Value, Z G mX7_kinds (zrm 3 74) ex _ 89 [some (.ref (zB G + 76)), some (.int (nI n.toNatClampNeg)), some (.int (nI m.toNatClampNeg)), some (.int (nI ((5 * n.toNatClampNeg) + m.toNatClampNeg))), some (.int st9.1), some (.int st9.2.1), y6] [] (zN, zus g [(76, (oMod G (nI 0) (nI tps) (nI pts) (nI lns) (nI wds) (nI brs) (nI ors) stp hasP fld laid told (nI rws) cms (nI cmT) cmS isN (nI (X7_layTriples_p76_17 tm n.toNatClampNeg)))), (102, (zI G 7 st9.2.2.2.2.1)), (104, (zI G 7 st9.2.2.2.2.2.1)), (105, (zI G 12 st9.2.2.1)), (107, (zI G 12 st9.2.2.2.1)), (109, (zI G 35 kk)), (110, (zI G 20 (X7_layTriples_c110 tm n.toNatClampNeg))), (111, (zI G 4 st9.2.2.2.2.2.2))]) 0 0) (out := fun b _ => (some (Value.int b.1) = some (Value.int (X7_kinds_v tm ch kk fm ow nm fr n m))) ∧ ((zN, zus g [(76, (oMod G (nI b.2.1) (nI tps) (nI pts) (nI lns) (nI wds) (nI brs) (nI ors) stp hasP fld laid told (nI rws) cms (nI cmT) cmS b.2.2.1 (nI b.2.2.2.1))), (102, (zI G 7 b.2.2.2.2.1)), (104, (zI G 7 b.2.2.2.2.2.1)), (105, (zI G 12 b.2.2.2.2.2.2.1)), (107, (zI G 12 b.2.2.2.2.2.2.2.1)), (109, (zI G 35 b.2.2.2.2.2.2.2.2.1)), (110, (zI G 20 b.2.2.2.2.2.2.2.2.2.1)), (111, (zI G 4 b.2.2.2.2.2.2.2.2.2.2))]) : zAH) = (zN, zus g [(76, (oMod G (nI (X7_kinds_p76_0 tm ch kk fm ow nm fr n m)) (nI tps) (nI pts) (nI lns) (nI wds) (nI brs) (nI ors) stp hasP fld laid told (nI rws) cms (nI cmT) cmS (X7_kinds_p76_16 isN tm ch kk fm ow nm fr n m) (nI (X7_kinds_p76_17 trs tm ch kk fm ow nm fr n m)))), (102, zI G 7 (X7_kinds_c102 tm ch kk fm ow nm fr n m)), (104, zI G 7 (X7_kinds_c104 tm ch kk fm ow nm fr n m)), (105, zI G 12 (X7_kinds_c105 tm ch kk fm ow nm fr n m)), (107, zI G 12 (X7_kinds_c107 tm ch kk fm ow nm fr n m)), (109, zI G 35 (X7_kinds_c109 tm ch kk fm ow nm fr n m)), (110, zI G 20 (X7_kinds_c110 tm ch kk fm ow nm fr n m)), (111, zI G 4 (X7_kinds_c111 tm ch kk fm ow nm fr n m))])) (B := (X7_kinds_L89_B tm kk n m)) (F := (X7_kinds_L89_F tm n m)) (n := 1) (fun t a => a.2.1 = nI 0 ∧ t = 0) (fun t a ht h hB => by
                    unfold X7_kinds_L89_B at hB
                    simp only [if_pos (show a.2.1 = 0 from h.1)] at hB
                    cases hB) ?_ 1 0 (nI 0, nI 0, fm, ow, nm, fr, c0o) (by omega) ⟨rfl, rfl⟩ ?_ ?_ _
              · intro t a9 hi hI Ko K
                obtain ⟨mn, mo, fm1, ow1, nm1, fr1, ch1⟩ := a9
                intro y6
                refine z_iload dX7_kinds_89 rfl rfl ?_
                refine z_if_eq (tgt := 131) dX7_kinds_91 rfl (by decide) (fun c91 => ?_) (fun c91 => ?_)
                · refine z_aload_n dX7_kinds_131 rfl rfl ?_
                  refine z_get dX7_kinds_132 rfl hiX7_kinds_X7 49 lkX7_kinds_110 (Nat.le_of_ble_eq_true rfl) rfl rfl (by decide) rfl ?_
                  refine z_iload_n dX7_kinds_135 rfl rfl ?_
                  refine z_iload dX7_kinds_136 rfl rfl ?_
                  refine z_iconst (v := nI 1) dX7_kinds_138 rfl (by decide) ?_
                  refine z_iadd dX7_kinds_139 rfl ?_
                  refine z_iastN (j := (5 * n.toNatClampNeg) + m.toNatClampNeg) dX7_kinds_140 rfl (Nat.le_of_ble_eq_true rfl) rfl (rfl) (by omega) (by decide) ?_
                  refine z_n (L' := [(76, (oMod G (nI 0) (nI tps) (nI pts) (nI lns) (nI wds) (nI brs) (nI ors) stp hasP fld laid told (nI rws) cms (nI cmT) cmS isN (nI (X7_layTriples_p76_17 tm n.toNatClampNeg)))), (102, (zI G 7 nm1)), (104, (zI G 7 fr1)), (105, (zI G 12 fm1)), (107, (zI G 12 ow1)), (109, (zI G 35 (upd kk ((5 * n.toNatClampNeg) + m.toNatClampNeg) (mn + (nI 1))))), (110, (zI G 20 (X7_layTriples_c110 tm n.toNatClampNeg))), (111, (zI G 4 ch1))]) rfl ?_
                  refine z_aload_n dX7_kinds_141 rfl rfl ?_
                  refine z_iconst (v := nI 0) dX7_kinds_142 rfl (by decide) ?_
                  refine z_putN (e9 := (oMod G (nI 0) (nI tps) (nI pts) (nI lns) (nI wds) (nI brs) (nI ors) stp hasP fld laid told (nI rws) cms (nI cmT) cmS (nI 0) (nI (X7_layTriples_p76_17 tm n.toNatClampNeg)))) tyX7 tyX7_ok nmX7 dX7_kinds_143 rfl hiX7_kinds_X7 47 lkX7_kinds_162 rfl (by decide +kernel) (Nat.le_of_ble_eq_true rfl) rfl rfl (by decide) (Nat.le_of_ble_eq_true rfl) rfl rfl rfl ?_
                  refine z_n (L' := [(76, (oMod G (nI 0) (nI tps) (nI pts) (nI lns) (nI wds) (nI brs) (nI ors) stp hasP fld laid told (nI rws) cms (nI cmT) cmS (nI 0) (nI (X7_layTriples_p76_17 tm n.toNatClampNeg)))), (102, (zI G 7 nm1)), (104, (zI G 7 fr1)), (105, (zI G 12 fm1)), (107, (zI G 12 ow1)), (109, (zI G 35 (upd kk ((5 * n.toNatClampNeg) + m.toNatClampNeg) (mn + (nI 1))))), (110, (zI G 20 (X7_layTriples_c110 tm n.toNatClampNeg))), (111, (zI G 4 ch1))]) rfl ?_
                  refine z_aload_n dX7_kinds_146 rfl rfl ?_
                  refine z_get dX7_kinds_147 rfl hiX7_kinds_X7 49 lkX7_kinds_110 (Nat.le_of_ble_eq_true rfl) rfl rfl (by decide) rfl ?_
                  refine z_iload_n dX7_kinds_150 rfl rfl ?_
                  refine z_ialdN (j := (5 * n.toNatClampNeg) + m.toNatClampNeg) dX7_kinds_151 rfl (Nat.le_of_ble_eq_true rfl) rfl (rfl) (by omega) (by decide) ?_
                  refine z_iconst (v := nI 1) dX7_kinds_152 rfl (by decide) ?_
                  refine z_isub dX7_kinds_153 rfl ?_
                  exact z_ireturn dX7_kinds_154 rfl rfl (Nat.le_refl _) (Nat.le_refl _) (fun _ => rfl) (Ko (((upd kk ((5 * n.toNatClampNeg) + m.toNatClampNeg) (mn + (nI 1))) ((5 * n.toNatClampNeg) + m.toNatClampNeg)) - (nI 1), 0, nI 0, X7_layTriples_p76_17 tm n.toNatClampNeg, nm1, fr1, fm1, ow1, upd kk ((5 * n.toNatClampNeg) + m.toNatClampNeg) (mn + (nI 1)), X7_layTriples_c110 tm n.toNatClampNeg, ch1) (by simp only [X7_kinds_L89_B, if_pos c91]))
                · refine z_iload dX7_kinds_94 rfl rfl ?_
                  refine z_aload_n dX7_kinds_96 rfl rfl ?_
                  refine z_iload_n dX7_kinds_97 rfl rfl ?_
                  refine z_callVi (c_X7_isGoodSet G ex _ (nI 0) tps pts lns wds brs ors stp hasP fld laid told rws cms cmT cmS isN (X7_layTriples_p76_17 tm n.toNatClampNeg) (X7_layTriples_c110 tm n.toNatClampNeg) ch1 m.toNatClampNeg (by omega) (by first | exact hch9 | exact absurd hI.1 c91) rfl rfl rfl) gX7_kinds_X7_isGoodSet rfl dX7_kinds_98 rfl rfl rfl okk_X7_isGoodSet (Nat.le_of_ble_eq_true rfl) rfl rfl ⟨Nat.le_of_ble_eq_true rfl, Nat.le_of_ble_eq_true rfl⟩ ⟨Nat.le_of_ble_eq_true rfl, Nat.le_of_ble_eq_true rfl⟩ (Nat.le_of_ble_eq_true rfl) ?_
                  refine z_if_eq (tgt := 117) dX7_kinds_101 rfl (by decide) (fun c101 => ?_) (fun c101 => ?_)
                  · refine z_iconst (v := nI 0) dX7_kinds_117 rfl (by decide) ?_
                    refine z_iadd dX7_kinds_118 rfl ?_
                    refine z_istore_4 dX7_kinds_119 rfl ?_
                    refine z_aload_n dX7_kinds_121 rfl rfl ?_
                    refine z_iload_n dX7_kinds_122 rfl rfl ?_
                    refine z_callVi (c_X7_nextSet G ex _ (nI 0) tps pts lns wds brs ors stp hasP fld laid told rws cms cmT cmS isN (X7_layTriples_p76_17 tm n.toNatClampNeg) ch1 m.toNatClampNeg (by omega) rfl rfl) gX7_kinds_X7_nextSet rfl dX7_kinds_123 rfl rfl rfl okk_X7_nextSet (Nat.le_of_ble_eq_true rfl) rfl rfl ⟨Nat.le_of_ble_eq_true rfl, Nat.le_of_ble_eq_true rfl⟩ ⟨Nat.le_of_ble_eq_true rfl, Nat.le_of_ble_eq_true rfl⟩ (Nat.le_of_ble_eq_true rfl) ?_
                    refine z_nn (L' := [(76, (oMod G (nI 0) (nI tps) (nI pts) (nI lns) (nI wds) (nI brs) (nI ors) stp hasP fld laid told (nI rws) cms (nI cmT) cmS isN (nI (X7_layTriples_p76_17 tm n.toNatClampNeg)))), (102, (zI G 7 nm1)), (104, (zI G 7 fr1)), (105, (zI G 12 fm1)), (107, (zI G 12 ow1)), (109, (zI G 35 kk)), (110, (zI G 20 (X7_layTriples_c110 tm n.toNatClampNeg))), (111, (zI G 4 (X7_nextSet_c111 (X7_layTriples_p76_17 tm n.toNatClampNeg) ch1 m.toNatClampNeg)))]) rfl ?_
                    refine z_istore_5 dX7_kinds_126 rfl ?_
                    refine z_goto (tgt := 89) dX7_kinds_128 (by decide) ?_
                    have K9 := (K (by simp only [X7_kinds_L89_B, if_neg c91, if_pos c101]))
                    try simp only [X7_kinds_L89_F, if_neg c91, if_pos c101] at K9
                    exact K9 _
                  · refine z_aload_n dX7_kinds_104 rfl rfl ?_
                    refine z_iload_n dX7_kinds_105 rfl rfl ?_
                    refine z_iload_n dX7_kinds_106 rfl rfl ?_
                    refine z_callVi (c_X7_isLeastSet G ex _ (nI 0) tps pts lns wds brs ors stp hasP fld laid told rws cms cmT cmS isN (X7_layTriples_p76_17 tm n.toNatClampNeg) (X7_layTriples_c110 tm n.toNatClampNeg) ch1 fm1 ow1 nm1 fr1 n.toNatClampNeg m.toNatClampNeg (by omega) (by omega) (by first | exact hch9 | exact absurd hI.1 c91) rfl rfl rfl rfl rfl rfl rfl) gX7_kinds_X7_isLeastSet rfl dX7_kinds_107 rfl rfl rfl okk_X7_isLeastSet (Nat.le_of_ble_eq_true rfl) rfl rfl ⟨Nat.le_of_ble_eq_true rfl, Nat.le_of_ble_eq_true rfl⟩ ⟨Nat.le_of_ble_eq_true rfl, Nat.le_of_ble_eq_true rfl⟩ (Nat.le_of_ble_eq_true rfl) ?_
                    refine z_nn (L' := [(76, (oMod G (nI 0) (nI tps) (nI pts) (nI lns) (nI wds) (nI brs) (nI ors) stp hasP fld laid told (nI rws) cms (nI cmT) cmS isN (nI (X7_layTriples_p76_17 tm n.toNatClampNeg)))), (102, (zI G 7 (X7_isLeastSet_c102 (X7_layTriples_c110 tm n.toNatClampNeg) ch1 fm1 ow1 nm1 fr1 n.toNatClampNeg m.toNatClampNeg))), (104, (zI G 7 (X7_isLeastSet_c104 (X7_layTriples_c110 tm n.toNatClampNeg) ch1 fm1 ow1 nm1 fr1 n.toNatClampNeg m.toNatClampNeg))), (105, (zI G 12 (X7_isLeastSet_c105 (X7_layTriples_c110 tm n.toNatClampNeg) ch1 fm1 ow1 nm1 fr1 n.toNatClampNeg m.toNatClampNeg))), (107, (zI G 12 (X7_isLeastSet_c107 (X7_layTriples_c110 tm n.toNatClampNeg) ch1 fm1 ow1 nm1 fr1 n.toNatClampNeg m.toNatClampNeg))), (109, (zI G 35 kk)), (110, (zI G 20 (X7_layTriples_c110 tm n.toNatClampNeg))), (111, (zI G 4 ch1))]) rfl ?_
                    refine z_if_eq (tgt := 117) dX7_kinds_110 rfl (by decide) (fun c110 => ?_) (fun c110 => ?_)
                    · refine z_iconst (v := nI 0) dX7_kinds_117 rfl (by decide) ?_
                      refine z_iadd dX7_kinds_118 rfl ?_
                      refine z_istore_4 dX7_kinds_119 rfl ?_
                      refine z_aload_n dX7_kinds_121 rfl rfl ?_
                      refine z_iload_n dX7_kinds_122 rfl rfl ?_
                      refine z_callVi (c_X7_nextSet G ex _ (nI 0) tps pts lns wds brs ors stp hasP fld laid told rws cms cmT cmS isN (X7_layTriples_p76_17 tm n.toNatClampNeg) ch1 m.toNatClampNeg (by omega) rfl rfl) gX7_kinds_X7_nextSet rfl dX7_kinds_123 rfl rfl rfl okk_X7_nextSet (Nat.le_of_ble_eq_true rfl) rfl rfl ⟨Nat.le_of_ble_eq_true rfl, Nat.le_of_ble_eq_true rfl⟩ ⟨Nat.le_of_ble_eq_true rfl, Nat.le_of_ble_eq_true rfl⟩ (Nat.le_of_ble_eq_true rfl) ?_
                      refine z_nn (L' := [(76, (oMod G (nI 0) (nI tps) (nI pts) (nI lns) (nI wds) (nI brs) (nI ors) stp hasP fld laid told (nI rws) cms (nI cmT) cmS isN (nI (X7_layTriples_p76_17 tm n.toNatClampNeg)))), (102, (zI G 7 (X7_isLeastSet_c102 (X7_layTriples_c110 tm n.toNatClampNeg) ch1 fm1 ow1 nm1 fr1 n.toNatClampNeg m.toNatClampNeg))), (104, (zI G 7 (X7_isLeastSet_c104 (X7_layTriples_c110 tm n.toNatClampNeg) ch1 fm1 ow1 nm1 fr1 n.toNatClampNeg m.toNatClampNeg))), (105, (zI G 12 (X7_isLeastSet_c105 (X7_layTriples_c110 tm n.toNatClampNeg) ch1 fm1 ow1 nm1 fr1 n.toNatClampNeg m.toNatClampNeg))), (107, (zI G 12 (X7_isLeastSet_c107 (X7_layTriples_c110 tm n.toNatClampNeg) ch1 fm1 ow1 nm1 fr1 n.toNatClampNeg m.toNatClampNeg))), (109, (zI G 35 kk)), (110, (zI G 20 (X7_layTriples_c110 tm n.toNatClampNeg))), (111, (zI G 4 (X7_nextSet_c111 (X7_layTriples_p76_17 tm n.toNatClampNeg) ch1 m.toNatClampNeg)))]) rfl ?_
                      refine z_istore_5 dX7_kinds_126 rfl ?_
                      refine z_goto (tgt := 89) dX7_kinds_128 (by decide) ?_
                      have K9 := (K (by simp only [X7_kinds_L89_B, if_neg c91, if_neg c101, if_pos c110]))
                      try simp only [X7_kinds_L89_F, if_neg c91, if_neg c101, if_pos c110] at K9
                      exact K9 _
                    · refine z_iconst (v := nI 1) dX7_kinds_113 rfl (by decide) ?_
                      refine z_goto (tgt := 118) dX7_kinds_114 (by decide) ?_
                      refine z_iadd dX7_kinds_118 rfl ?_
                      refine z_istore_4 dX7_kinds_119 rfl ?_
                      refine z_aload_n dX7_kinds_121 rfl rfl ?_
                      refine z_iload_n dX7_kinds_122 rfl rfl ?_
                      refine z_callVi (c_X7_nextSet G ex _ (nI 0) tps pts lns wds brs ors stp hasP fld laid told rws cms cmT cmS isN (X7_layTriples_p76_17 tm n.toNatClampNeg) ch1 m.toNatClampNeg (by omega) rfl rfl) gX7_kinds_X7_nextSet rfl dX7_kinds_123 rfl rfl rfl okk_X7_nextSet (Nat.le_of_ble_eq_true rfl) rfl rfl ⟨Nat.le_of_ble_eq_true rfl, Nat.le_of_ble_eq_true rfl⟩ ⟨Nat.le_of_ble_eq_true rfl, Nat.le_of_ble_eq_true rfl⟩ (Nat.le_of_ble_eq_true rfl) ?_
                      refine z_nn (L' := [(76, (oMod G (nI 0) (nI tps) (nI pts) (nI lns) (nI wds) (nI brs) (nI ors) stp hasP fld laid told (nI rws) cms (nI cmT) cmS isN (nI (X7_layTriples_p76_17 tm n.toNatClampNeg)))), (102, (zI G 7 (X7_isLeastSet_c102 (X7_layTriples_c110 tm n.toNatClampNeg) ch1 fm1 ow1 nm1 fr1 n.toNatClampNeg m.toNatClampNeg))), (104, (zI G 7 (X7_isLeastSet_c104 (X7_layTriples_c110 tm n.toNatClampNeg) ch1 fm1 ow1 nm1 fr1 n.toNatClampNeg m.toNatClampNeg))), (105, (zI G 12 (X7_isLeastSet_c105 (X7_layTriples_c110 tm n.toNatClampNeg) ch1 fm1 ow1 nm1 fr1 n.toNatClampNeg m.toNatClampNeg))), (107, (zI G 12 (X7_isLeastSet_c107 (X7_layTriples_c110 tm n.toNatClampNeg) ch1 fm1 ow1 nm1 fr1 n.toNatClampNeg m.toNatClampNeg))), (109, (zI G 35 kk)), (110, (zI G 20 (X7_layTriples_c110 tm n.toNatClampNeg))), (111, (zI G 4 (X7_nextSet_c111 (X7_layTriples_p76_17 tm n.toNatClampNeg) ch1 m.toNatClampNeg)))]) rfl ?_
                      refine z_istore_5 dX7_kinds_126 rfl ?_
                      refine z_goto (tgt := 89) dX7_kinds_128 (by decide) ?_
                      have K9 := (K (by simp only [X7_kinds_L89_B, if_neg c91, if_neg c101, if_neg c110]))
                      try simp only [X7_kinds_L89_F, if_neg c91, if_neg c101, if_neg c110] at K9
                      exact K9 _
              · intro b a9 hz89
                exact ⟨by simp only [X7_kinds_v, if_neg c12, if_neg c21, if_pos c39, if_pos c55, hR68, zlet_e, hz89, zpick_s], by simp only [X7_kinds_p76_0, X7_kinds_p76_16, X7_kinds_p76_17, X7_kinds_c102, X7_kinds_c104, X7_kinds_c105, X7_kinds_c107, X7_kinds_c109, X7_kinds_c110, X7_kinds_c111, if_neg c12, if_neg c21, if_pos c39, if_pos c55, hR68, zlet_e, hz89, zpick_s]⟩
              · intro a9 hz89 hI
                obtain ⟨mn, mo, fm1, ow1, nm1, fr1, ch1⟩ := a9
                intro y6
                exact absurd hI.2 (by decide)
            · exact absurd (nI_le (Nat.le_refl _) (by omega)) c71
        · have hmT : m.toNatClampNeg ≤ X7_layTriples_p76_17 tm n.toNatClampNeg := Nat.not_lt.mp (fun q => c55 (nI_lt q (by omega)))
          refine z_iconst (v := nI 1) dX7_kinds_58 rfl (by decide) ?_
          refine z_goto (tgt := 63) dX7_kinds_59 (by decide) ?_
          refine z_istore_5 dX7_kinds_63 rfl ?_
          refine z_iconst (v := nI 0) dX7_kinds_65 rfl (by decide) ?_
          refine z_istore_6 dX7_kinds_66 rfl ?_
          refine z_forI (head := fun k (st9 : (Nat → Int32)) => Z G mX7_kinds (zrm 3 74) ex _ 68 [some (.ref (zB G + 76)), some (.int (nI n.toNatClampNeg)), some (.int (nI m.toNatClampNeg)), some (.int (nI ((5 * n.toNatClampNeg) + m.toNatClampNeg))), some (.int (nI 0)), some (.int (nI 1)), some (.int (nI k))] [] (zN, zus g [(76, (oMod G (nI 0) (nI tps) (nI pts) (nI lns) (nI wds) (nI brs) (nI ors) stp hasP fld laid told (nI rws) cms (nI cmT) cmS isN (nI (X7_layTriples_p76_17 tm n.toNatClampNeg)))), (102, (zI G 7 nm)), (104, (zI G 7 fr)), (105, (zI G 12 fm)), (107, (zI G 12 ow)), (109, (zI G 35 kk)), (110, (zI G 20 (X7_layTriples_c110 tm n.toNatClampNeg))), (111, (zI G 4 st9))]) 0 0) (F := (X7_kinds_L68v2_F)) (n := m.toNatClampNeg) (fun k a => ∀ j, j < k → a j = nI j) (fun k a hk h j hj => by
                unfold X7_kinds_L68v2_F
                simp only [upd]
                split
                · rename_i q; rw [q]
                · exact h j (by omega)) ?_ m.toNatClampNeg 0 ch (by omega) (fun j h => absurd h (Nat.not_lt_zero j)) ?_
          · intro k c0 hi hI K
            refine z_iload dX7_kinds_68 rfl rfl ?_
            refine z_iload_n dX7_kinds_70 rfl rfl ?_
            refine z_icmp_ge (tgt := 89) dX7_kinds_71 rfl (by decide) (fun c71 => ?_) (fun c71 => ?_)
            · exact absurd c71 (nI_ge hi (by omega))
            · refine z_aload_n dX7_kinds_74 rfl rfl ?_
              refine z_get dX7_kinds_75 rfl hiX7_kinds_X7 52 lkX7_kinds_116 (Nat.le_of_ble_eq_true rfl) rfl rfl (by decide) rfl ?_
              refine z_iload dX7_kinds_78 rfl rfl ?_
              refine z_iload dX7_kinds_80 rfl rfl ?_
              refine z_iastN (j := k) dX7_kinds_82 rfl (Nat.le_of_ble_eq_true rfl) rfl (rfl) (by omega) (by decide) ?_
              refine z_n (L' := [(76, (oMod G (nI 0) (nI tps) (nI pts) (nI lns) (nI wds) (nI brs) (nI ors) stp hasP fld laid told (nI rws) cms (nI cmT) cmS isN (nI (X7_layTriples_p76_17 tm n.toNatClampNeg)))), (102, (zI G 7 nm)), (104, (zI G 7 fr)), (105, (zI G 12 fm)), (107, (zI G 12 ow)), (109, (zI G 35 kk)), (110, (zI G 20 (X7_layTriples_c110 tm n.toNatClampNeg))), (111, (zI G 4 (upd c0 k (nI k))))]) rfl ?_
              refine z_iinc_6 (v := nI (k + 1)) dX7_kinds_83 rfl (zinc _) ?_
              refine z_goto (tgt := 68) dX7_kinds_86 (by decide) ?_
              exact K
          · generalize hR68 : zfold (X7_kinds_L68v2_F) m.toNatClampNeg 0 ch = r9
            obtain ⟨c0o, rfl⟩ : ∃ z, z = r9 := ⟨_, rfl⟩
            intro hI
            have hc0 : ∀ j, j < m.toNatClampNeg → c0o j = nI j := hI
            refine z_iload dX7_kinds_68 rfl rfl ?_
            refine z_iload_n dX7_kinds_70 rfl rfl ?_
            refine z_icmp_ge (tgt := 89) dX7_kinds_71 rfl (by decide) (fun c71 => ?_) (fun c71 => ?_)
            · refine z_forB (head := fun t (st9 : (Int32) × (Int32) × (Nat → Int32) × (Nat → Int32) × (Nat → Int32) × (Nat → Int32) × (Nat → Int32)) => ∀ y6 : Option Value, Z G mX7_kinds (zrm 3 74) ex _ 89 [some (.ref (zB G + 76)), some (.int (nI n.toNatClampNeg)), some (.int (nI m.toNatClampNeg)), some (.int (nI ((5 * n.toNatClampNeg) + m.toNatClampNeg))), some (.int st9.1), some (.int st9.2.1), y6] [] (zN, zus g [(76, (oMod G (nI 0) (nI tps) (nI pts) (nI lns) (nI wds) (nI brs) (nI ors) stp hasP fld laid told (nI rws) cms (nI cmT) cmS isN (nI (X7_layTriples_p76_17 tm n.toNatClampNeg)))), (102, (zI G 7 st9.2.2.2.2.1)), (104, (zI G 7 st9.2.2.2.2.2.1)), (105, (zI G 12 st9.2.2.1)), (107, (zI G 12 st9.2.2.2.1)), (109, (zI G 35 kk)), (110, (zI G 20 (X7_layTriples_c110 tm n.toNatClampNeg))), (111, (zI G 4 st9.2.2.2.2.2.2))]) 0 0) (out := fun b _ => (some (Value.int b.1) = some (Value.int (X7_kinds_v tm ch kk fm ow nm fr n m))) ∧ ((zN, zus g [(76, (oMod G (nI b.2.1) (nI tps) (nI pts) (nI lns) (nI wds) (nI brs) (nI ors) stp hasP fld laid told (nI rws) cms (nI cmT) cmS b.2.2.1 (nI b.2.2.2.1))), (102, (zI G 7 b.2.2.2.2.1)), (104, (zI G 7 b.2.2.2.2.2.1)), (105, (zI G 12 b.2.2.2.2.2.2.1)), (107, (zI G 12 b.2.2.2.2.2.2.2.1)), (109, (zI G 35 b.2.2.2.2.2.2.2.2.1)), (110, (zI G 20 b.2.2.2.2.2.2.2.2.2.1)), (111, (zI G 4 b.2.2.2.2.2.2.2.2.2.2))]) : zAH) = (zN, zus g [(76, (oMod G (nI (X7_kinds_p76_0 tm ch kk fm ow nm fr n m)) (nI tps) (nI pts) (nI lns) (nI wds) (nI brs) (nI ors) stp hasP fld laid told (nI rws) cms (nI cmT) cmS (X7_kinds_p76_16 isN tm ch kk fm ow nm fr n m) (nI (X7_kinds_p76_17 trs tm ch kk fm ow nm fr n m)))), (102, zI G 7 (X7_kinds_c102 tm ch kk fm ow nm fr n m)), (104, zI G 7 (X7_kinds_c104 tm ch kk fm ow nm fr n m)), (105, zI G 12 (X7_kinds_c105 tm ch kk fm ow nm fr n m)), (107, zI G 12 (X7_kinds_c107 tm ch kk fm ow nm fr n m)), (109, zI G 35 (X7_kinds_c109 tm ch kk fm ow nm fr n m)), (110, zI G 20 (X7_kinds_c110 tm ch kk fm ow nm fr n m)), (111, zI G 4 (X7_kinds_c111 tm ch kk fm ow nm fr n m))])) (B := (X7_kinds_L89v2_B tm kk n m)) (F := (X7_kinds_L89v2_F tm n m)) (n := 194484) (fun t a => (∀ j, j < m.toNatClampNeg → vp_in (a.2.2.2.2.2.2 j) (X7_layTriples_p76_17 tm n.toNatClampNeg - m.toNatClampNeg + j + 1)) ∧ ((a.2.1 = nI 1 ∧ t ≤ valS m.toNatClampNeg a.2.2.2.2.2.2) ∨ (a.2.1 = nI 0 ∧ t ≤ 194483))) (fun t a ht h hB => by
                    obtain ⟨hR, hm9⟩ := h
                    unfold X7_kinds_L89v2_B at hB
                    unfold X7_kinds_L89v2_F
                    by_cases c1 : a.2.1 = 0
                    · simp only [if_pos c1] at hB
                      cases hB
                    · have hmo : t ≤ valS m.toNatClampNeg a.2.2.2.2.2.2 := by
                        rcases hm9 with q | q
                        · exact q.2
                        · exact absurd q.1 c1
                      have e := nextSet_ok (by omega) hmT hT hR
                      simp only [if_neg c1]
                      have e2 : (∀ j, j < m.toNatClampNeg → vp_in (X7_nextSet_c111 (X7_layTriples_p76_17 tm n.toNatClampNeg) a.2.2.2.2.2.2 m.toNatClampNeg j) (X7_layTriples_p76_17 tm n.toNatClampNeg - m.toNatClampNeg + j + 1)) ∧ ((X7_nextSet_v (X7_layTriples_p76_17 tm n.toNatClampNeg) a.2.2.2.2.2.2 m.toNatClampNeg = nI 1 ∧ t + 1 ≤ valS m.toNatClampNeg (X7_nextSet_c111 (X7_layTriples_p76_17 tm n.toNatClampNeg) a.2.2.2.2.2.2 m.toNatClampNeg)) ∨ (X7_nextSet_v (X7_layTriples_p76_17 tm n.toNatClampNeg) a.2.2.2.2.2.2 m.toNatClampNeg = nI 0 ∧ t + 1 ≤ 194483)) := by
                        refine ⟨e.1, ?_⟩
                        have l := valS_lt m.toNatClampNeg (fun j hj => vp_mn9 (hR j hj) (by omega))
                        have l2 : 21 ^ m.toNatClampNeg ≤ 21 ^ 4 := Nat.pow_le_pow_right (by decide) (by omega)
                        rcases e.2 with q | q
                        · exact Or.inr ⟨q, by omega⟩
                        · exact Or.inl ⟨q.1, by omega⟩
                      repeat' split
                      all_goals exact e2) ?_ 194484 0 (nI 0, nI 1, fm, ow, nm, fr, c0o) (by omega) ⟨fun j hj => by show vp_in (c0o j) _; rw [hc0 j hj]; exact vp_in_nI (by omega) (by omega), Or.inl ⟨rfl, Nat.zero_le _⟩⟩ ?_ ?_ _
              · intro t a9 hi hI Ko K
                obtain ⟨mn, mo, fm1, ow1, nm1, fr1, ch1⟩ := a9
                intro y6
                have hR1 : ∀ j, j < m.toNatClampNeg → vp_in (ch1 j) (X7_layTriples_p76_17 tm n.toNatClampNeg - m.toNatClampNeg + j + 1) := hI.1
                have hch9 : ∀ j, j < m.toNatClampNeg → vp_in (ch1 j) 20 := fun j hj => vp_mn9 (hR1 j hj) (by omega)
                refine z_iload dX7_kinds_89 rfl rfl ?_
                refine z_if_eq (tgt := 131) dX7_kinds_91 rfl (by decide) (fun c91 => ?_) (fun c91 => ?_)
                · refine z_aload_n dX7_kinds_131 rfl rfl ?_
                  refine z_get dX7_kinds_132 rfl hiX7_kinds_X7 49 lkX7_kinds_110 (Nat.le_of_ble_eq_true rfl) rfl rfl (by decide) rfl ?_
                  refine z_iload_n dX7_kinds_135 rfl rfl ?_
                  refine z_iload dX7_kinds_136 rfl rfl ?_
                  refine z_iconst (v := nI 1) dX7_kinds_138 rfl (by decide) ?_
                  refine z_iadd dX7_kinds_139 rfl ?_
                  refine z_iastN (j := (5 * n.toNatClampNeg) + m.toNatClampNeg) dX7_kinds_140 rfl (Nat.le_of_ble_eq_true rfl) rfl (rfl) (by omega) (by decide) ?_
                  refine z_n (L' := [(76, (oMod G (nI 0) (nI tps) (nI pts) (nI lns) (nI wds) (nI brs) (nI ors) stp hasP fld laid told (nI rws) cms (nI cmT) cmS isN (nI (X7_layTriples_p76_17 tm n.toNatClampNeg)))), (102, (zI G 7 nm1)), (104, (zI G 7 fr1)), (105, (zI G 12 fm1)), (107, (zI G 12 ow1)), (109, (zI G 35 (upd kk ((5 * n.toNatClampNeg) + m.toNatClampNeg) (mn + (nI 1))))), (110, (zI G 20 (X7_layTriples_c110 tm n.toNatClampNeg))), (111, (zI G 4 ch1))]) rfl ?_
                  refine z_aload_n dX7_kinds_141 rfl rfl ?_
                  refine z_iconst (v := nI 0) dX7_kinds_142 rfl (by decide) ?_
                  refine z_putN (e9 := (oMod G (nI 0) (nI tps) (nI pts) (nI lns) (nI wds) (nI brs) (nI ors) stp hasP fld laid told (nI rws) cms (nI cmT) cmS (nI 0) (nI (X7_layTriples_p76_17 tm n.toNatClampNeg)))) tyX7 tyX7_ok nmX7 dX7_kinds_143 rfl hiX7_kinds_X7 47 lkX7_kinds_162 rfl (by decide +kernel) (Nat.le_of_ble_eq_true rfl) rfl rfl (by decide) (Nat.le_of_ble_eq_true rfl) rfl rfl rfl ?_
                  refine z_n (L' := [(76, (oMod G (nI 0) (nI tps) (nI pts) (nI lns) (nI wds) (nI brs) (nI ors) stp hasP fld laid told (nI rws) cms (nI cmT) cmS (nI 0) (nI (X7_layTriples_p76_17 tm n.toNatClampNeg)))), (102, (zI G 7 nm1)), (104, (zI G 7 fr1)), (105, (zI G 12 fm1)), (107, (zI G 12 ow1)), (109, (zI G 35 (upd kk ((5 * n.toNatClampNeg) + m.toNatClampNeg) (mn + (nI 1))))), (110, (zI G 20 (X7_layTriples_c110 tm n.toNatClampNeg))), (111, (zI G 4 ch1))]) rfl ?_
                  refine z_aload_n dX7_kinds_146 rfl rfl ?_
                  refine z_get dX7_kinds_147 rfl hiX7_kinds_X7 49 lkX7_kinds_110 (Nat.le_of_ble_eq_true rfl) rfl rfl (by decide) rfl ?_
                  refine z_iload_n dX7_kinds_150 rfl rfl ?_
                  refine z_ialdN (j := (5 * n.toNatClampNeg) + m.toNatClampNeg) dX7_kinds_151 rfl (Nat.le_of_ble_eq_true rfl) rfl (rfl) (by omega) (by decide) ?_
                  refine z_iconst (v := nI 1) dX7_kinds_152 rfl (by decide) ?_
                  refine z_isub dX7_kinds_153 rfl ?_
                  exact z_ireturn dX7_kinds_154 rfl rfl (Nat.le_refl _) (Nat.le_refl _) (fun _ => rfl) (Ko (((upd kk ((5 * n.toNatClampNeg) + m.toNatClampNeg) (mn + (nI 1))) ((5 * n.toNatClampNeg) + m.toNatClampNeg)) - (nI 1), 0, nI 0, X7_layTriples_p76_17 tm n.toNatClampNeg, nm1, fr1, fm1, ow1, upd kk ((5 * n.toNatClampNeg) + m.toNatClampNeg) (mn + (nI 1)), X7_layTriples_c110 tm n.toNatClampNeg, ch1) (by simp only [X7_kinds_L89v2_B, if_pos c91]))
                · refine z_iload dX7_kinds_94 rfl rfl ?_
                  refine z_aload_n dX7_kinds_96 rfl rfl ?_
                  refine z_iload_n dX7_kinds_97 rfl rfl ?_
                  refine z_callVi (c_X7_isGoodSet G ex _ (nI 0) tps pts lns wds brs ors stp hasP fld laid told rws cms cmT cmS isN (X7_layTriples_p76_17 tm n.toNatClampNeg) (X7_layTriples_c110 tm n.toNatClampNeg) ch1 m.toNatClampNeg (by omega) (by first | exact hch9 | exact absurd hI.1 c91) rfl rfl rfl) gX7_kinds_X7_isGoodSet rfl dX7_kinds_98 rfl rfl rfl okk_X7_isGoodSet (Nat.le_of_ble_eq_true rfl) rfl rfl ⟨Nat.le_of_ble_eq_true rfl, Nat.le_of_ble_eq_true rfl⟩ ⟨Nat.le_of_ble_eq_true rfl, Nat.le_of_ble_eq_true rfl⟩ (Nat.le_of_ble_eq_true rfl) ?_
                  refine z_if_eq (tgt := 117) dX7_kinds_101 rfl (by decide) (fun c101 => ?_) (fun c101 => ?_)
                  · refine z_iconst (v := nI 0) dX7_kinds_117 rfl (by decide) ?_
                    refine z_iadd dX7_kinds_118 rfl ?_
                    refine z_istore_4 dX7_kinds_119 rfl ?_
                    refine z_aload_n dX7_kinds_121 rfl rfl ?_
                    refine z_iload_n dX7_kinds_122 rfl rfl ?_
                    refine z_callVi (c_X7_nextSet G ex _ (nI 0) tps pts lns wds brs ors stp hasP fld laid told rws cms cmT cmS isN (X7_layTriples_p76_17 tm n.toNatClampNeg) ch1 m.toNatClampNeg (by omega) rfl rfl) gX7_kinds_X7_nextSet rfl dX7_kinds_123 rfl rfl rfl okk_X7_nextSet (Nat.le_of_ble_eq_true rfl) rfl rfl ⟨Nat.le_of_ble_eq_true rfl, Nat.le_of_ble_eq_true rfl⟩ ⟨Nat.le_of_ble_eq_true rfl, Nat.le_of_ble_eq_true rfl⟩ (Nat.le_of_ble_eq_true rfl) ?_
                    refine z_nn (L' := [(76, (oMod G (nI 0) (nI tps) (nI pts) (nI lns) (nI wds) (nI brs) (nI ors) stp hasP fld laid told (nI rws) cms (nI cmT) cmS isN (nI (X7_layTriples_p76_17 tm n.toNatClampNeg)))), (102, (zI G 7 nm1)), (104, (zI G 7 fr1)), (105, (zI G 12 fm1)), (107, (zI G 12 ow1)), (109, (zI G 35 kk)), (110, (zI G 20 (X7_layTriples_c110 tm n.toNatClampNeg))), (111, (zI G 4 (X7_nextSet_c111 (X7_layTriples_p76_17 tm n.toNatClampNeg) ch1 m.toNatClampNeg)))]) rfl ?_
                    refine z_istore_5 dX7_kinds_126 rfl ?_
                    refine z_goto (tgt := 89) dX7_kinds_128 (by decide) ?_
                    have K9 := (K (by simp only [X7_kinds_L89v2_B, if_neg c91, if_pos c101]))
                    try simp only [X7_kinds_L89v2_F, if_neg c91, if_pos c101] at K9
                    exact K9 _
                  · refine z_aload_n dX7_kinds_104 rfl rfl ?_
                    refine z_iload_n dX7_kinds_105 rfl rfl ?_
                    refine z_iload_n dX7_kinds_106 rfl rfl ?_
                    refine z_callVi (c_X7_isLeastSet G ex _ (nI 0) tps pts lns wds brs ors stp hasP fld laid told rws cms cmT cmS isN (X7_layTriples_p76_17 tm n.toNatClampNeg) (X7_layTriples_c110 tm n.toNatClampNeg) ch1 fm1 ow1 nm1 fr1 n.toNatClampNeg m.toNatClampNeg (by omega) (by omega) (by first | exact hch9 | exact absurd hI.1 c91) rfl rfl rfl rfl rfl rfl rfl) gX7_kinds_X7_isLeastSet rfl dX7_kinds_107 rfl rfl rfl okk_X7_isLeastSet (Nat.le_of_ble_eq_true rfl) rfl rfl ⟨Nat.le_of_ble_eq_true rfl, Nat.le_of_ble_eq_true rfl⟩ ⟨Nat.le_of_ble_eq_true rfl, Nat.le_of_ble_eq_true rfl⟩ (Nat.le_of_ble_eq_true rfl) ?_
                    refine z_nn (L' := [(76, (oMod G (nI 0) (nI tps) (nI pts) (nI lns) (nI wds) (nI brs) (nI ors) stp hasP fld laid told (nI rws) cms (nI cmT) cmS isN (nI (X7_layTriples_p76_17 tm n.toNatClampNeg)))), (102, (zI G 7 (X7_isLeastSet_c102 (X7_layTriples_c110 tm n.toNatClampNeg) ch1 fm1 ow1 nm1 fr1 n.toNatClampNeg m.toNatClampNeg))), (104, (zI G 7 (X7_isLeastSet_c104 (X7_layTriples_c110 tm n.toNatClampNeg) ch1 fm1 ow1 nm1 fr1 n.toNatClampNeg m.toNatClampNeg))), (105, (zI G 12 (X7_isLeastSet_c105 (X7_layTriples_c110 tm n.toNatClampNeg) ch1 fm1 ow1 nm1 fr1 n.toNatClampNeg m.toNatClampNeg))), (107, (zI G 12 (X7_isLeastSet_c107 (X7_layTriples_c110 tm n.toNatClampNeg) ch1 fm1 ow1 nm1 fr1 n.toNatClampNeg m.toNatClampNeg))), (109, (zI G 35 kk)), (110, (zI G 20 (X7_layTriples_c110 tm n.toNatClampNeg))), (111, (zI G 4 ch1))]) rfl ?_
                    refine z_if_eq (tgt := 117) dX7_kinds_110 rfl (by decide) (fun c110 => ?_) (fun c110 => ?_)
                    · refine z_iconst (v := nI 0) dX7_kinds_117 rfl (by decide) ?_
                      refine z_iadd dX7_kinds_118 rfl ?_
                      refine z_istore_4 dX7_kinds_119 rfl ?_
                      refine z_aload_n dX7_kinds_121 rfl rfl ?_
                      refine z_iload_n dX7_kinds_122 rfl rfl ?_
                      refine z_callVi (c_X7_nextSet G ex _ (nI 0) tps pts lns wds brs ors stp hasP fld laid told rws cms cmT cmS isN (X7_layTriples_p76_17 tm n.toNatClampNeg) ch1 m.toNatClampNeg (by omega) rfl rfl) gX7_kinds_X7_nextSet rfl dX7_kinds_123 rfl rfl rfl okk_X7_nextSet (Nat.le_of_ble_eq_true rfl) rfl rfl ⟨Nat.le_of_ble_eq_true rfl, Nat.le_of_ble_eq_true rfl⟩ ⟨Nat.le_of_ble_eq_true rfl, Nat.le_of_ble_eq_true rfl⟩ (Nat.le_of_ble_eq_true rfl) ?_
                      refine z_nn (L' := [(76, (oMod G (nI 0) (nI tps) (nI pts) (nI lns) (nI wds) (nI brs) (nI ors) stp hasP fld laid told (nI rws) cms (nI cmT) cmS isN (nI (X7_layTriples_p76_17 tm n.toNatClampNeg)))), (102, (zI G 7 (X7_isLeastSet_c102 (X7_layTriples_c110 tm n.toNatClampNeg) ch1 fm1 ow1 nm1 fr1 n.toNatClampNeg m.toNatClampNeg))), (104, (zI G 7 (X7_isLeastSet_c104 (X7_layTriples_c110 tm n.toNatClampNeg) ch1 fm1 ow1 nm1 fr1 n.toNatClampNeg m.toNatClampNeg))), (105, (zI G 12 (X7_isLeastSet_c105 (X7_layTriples_c110 tm n.toNatClampNeg) ch1 fm1 ow1 nm1 fr1 n.toNatClampNeg m.toNatClampNeg))), (107, (zI G 12 (X7_isLeastSet_c107 (X7_layTriples_c110 tm n.toNatClampNeg) ch1 fm1 ow1 nm1 fr1 n.toNatClampNeg m.toNatClampNeg))), (109, (zI G 35 kk)), (110, (zI G 20 (X7_layTriples_c110 tm n.toNatClampNeg))), (111, (zI G 4 (X7_nextSet_c111 (X7_layTriples_p76_17 tm n.toNatClampNeg) ch1 m.toNatClampNeg)))]) rfl ?_
                      refine z_istore_5 dX7_kinds_126 rfl ?_
                      refine z_goto (tgt := 89) dX7_kinds_128 (by decide) ?_
                      have K9 := (K (by simp only [X7_kinds_L89v2_B, if_neg c91, if_neg c101, if_pos c110]))
                      try simp only [X7_kinds_L89v2_F, if_neg c91, if_neg c101, if_pos c110] at K9
                      exact K9 _
                    · refine z_iconst (v := nI 1) dX7_kinds_113 rfl (by decide) ?_
                      refine z_goto (tgt := 118) dX7_kinds_114 (by decide) ?_
                      refine z_iadd dX7_kinds_118 rfl ?_
                      refine z_istore_4 dX7_kinds_119 rfl ?_
                      refine z_aload_n dX7_kinds_121 rfl rfl ?_
                      refine z_iload_n dX7_kinds_122 rfl rfl ?_
                      refine z_callVi (c_X7_nextSet G ex _ (nI 0) tps pts lns wds brs ors stp hasP fld laid told rws cms cmT cmS isN (X7_layTriples_p76_17 tm n.toNatClampNeg) ch1 m.toNatClampNeg (by omega) rfl rfl) gX7_kinds_X7_nextSet rfl dX7_kinds_123 rfl rfl rfl okk_X7_nextSet (Nat.le_of_ble_eq_true rfl) rfl rfl ⟨Nat.le_of_ble_eq_true rfl, Nat.le_of_ble_eq_true rfl⟩ ⟨Nat.le_of_ble_eq_true rfl, Nat.le_of_ble_eq_true rfl⟩ (Nat.le_of_ble_eq_true rfl) ?_
                      refine z_nn (L' := [(76, (oMod G (nI 0) (nI tps) (nI pts) (nI lns) (nI wds) (nI brs) (nI ors) stp hasP fld laid told (nI rws) cms (nI cmT) cmS isN (nI (X7_layTriples_p76_17 tm n.toNatClampNeg)))), (102, (zI G 7 (X7_isLeastSet_c102 (X7_layTriples_c110 tm n.toNatClampNeg) ch1 fm1 ow1 nm1 fr1 n.toNatClampNeg m.toNatClampNeg))), (104, (zI G 7 (X7_isLeastSet_c104 (X7_layTriples_c110 tm n.toNatClampNeg) ch1 fm1 ow1 nm1 fr1 n.toNatClampNeg m.toNatClampNeg))), (105, (zI G 12 (X7_isLeastSet_c105 (X7_layTriples_c110 tm n.toNatClampNeg) ch1 fm1 ow1 nm1 fr1 n.toNatClampNeg m.toNatClampNeg))), (107, (zI G 12 (X7_isLeastSet_c107 (X7_layTriples_c110 tm n.toNatClampNeg) ch1 fm1 ow1 nm1 fr1 n.toNatClampNeg m.toNatClampNeg))), (109, (zI G 35 kk)), (110, (zI G 20 (X7_layTriples_c110 tm n.toNatClampNeg))), (111, (zI G 4 (X7_nextSet_c111 (X7_layTriples_p76_17 tm n.toNatClampNeg) ch1 m.toNatClampNeg)))]) rfl ?_
                      refine z_istore_5 dX7_kinds_126 rfl ?_
                      refine z_goto (tgt := 89) dX7_kinds_128 (by decide) ?_
                      have K9 := (K (by simp only [X7_kinds_L89v2_B, if_neg c91, if_neg c101, if_neg c110]))
                      try simp only [X7_kinds_L89v2_F, if_neg c91, if_neg c101, if_neg c110] at K9
                      exact K9 _
              · intro b a9 hz89
                exact ⟨by simp only [X7_kinds_v, if_neg c12, if_neg c21, if_pos c39, if_neg c55, hR68, zlet_e, hz89, zpick_s], by simp only [X7_kinds_p76_0, X7_kinds_p76_16, X7_kinds_p76_17, X7_kinds_c102, X7_kinds_c104, X7_kinds_c105, X7_kinds_c107, X7_kinds_c109, X7_kinds_c110, X7_kinds_c111, if_neg c12, if_neg c21, if_pos c39, if_neg c55, hR68, zlet_e, hz89, zpick_s]⟩
              · intro a9 hz89 hI
                obtain ⟨mn, mo, fm1, ow1, nm1, fr1, ch1⟩ := a9
                intro y6
                have l := valS_lt m.toNatClampNeg (fun j hj => vp_mn9 (hI.1 j hj) (show _ ≤ 21 by omega))
                have l2 : 21 ^ m.toNatClampNeg ≤ 21 ^ 4 := Nat.pow_le_pow_right (by decide) (by omega)
                rcases hI.2 with q | q
                · exact absurd q.2 (by omega)
                · exact absurd q.2 (by decide)
            · exact absurd (nI_le (Nat.le_refl _) (by omega)) c71
    · refine z_bipush (v := (-9)) dX7_kinds_24 rfl (by decide) ?_
      exact z_ireturn dX7_kinds_26 rfl rfl (Nat.le_refl _) (Nat.le_refl _) (fun _ => rfl) ⟨by simp only [X7_kinds_v, if_neg c12, if_pos c21], by simp only [X7_kinds_p76_0, X7_kinds_p76_16, X7_kinds_p76_17, X7_kinds_c102, X7_kinds_c104, X7_kinds_c105, X7_kinds_c107, X7_kinds_c109, X7_kinds_c110, X7_kinds_c111, if_neg c12, if_pos c21]⟩
