/-! ===== kinds in both ===== -/
def R7 (cnt kk : Nat → Int32) : Prop := ∀ n m, 3 ≤ n → n ≤ 6 → m ≤ 4 → (cnt (5 * n + m) = -1 ∨ cnt (5 * n + m) = nI (KN n m)) ∧ (kk (5 * n + m) = 0 ∨ kk (5 * n + m) = nI (KN n m + 1))
theorem kn_lt : ∀ n, n < 7 → 3 ≤ n → ∀ m, m < 5 → KN n m < 100 := by decide +kernel
theorem R7_c {cnt kk : Nat → Int32} (h : R7 cnt kk) {n m : Nat} (hm : m ≤ 4) : R7 (upd cnt (5 * n + m) (nI (KN n m))) kk := by
  intro a b h1 h2 h3
  refine ⟨?_, (h a b h1 h2 h3).2⟩
  unfold upd
  by_cases c : 5 * a + b = 5 * n + m
  · rw [if_pos c, show a = n by omega, show b = m by omega]
    exact Or.inr rfl
  · rw [if_neg c]
    exact (h a b h1 h2 h3).1
theorem R7_r {cnt kk : Nat → Int32} (h : R7 cnt kk) {n m : Nat} (hm : m ≤ 4) : R7 cnt (upd kk (5 * n + m) (nI (KN n m + 1))) := by
  intro a b h1 h2 h3
  refine ⟨(h a b h1 h2 h3).1, ?_⟩
  unfold upd
  by_cases c : 5 * a + b = 5 * n + m
  · rw [if_pos c, show a = n by omega, show b = m by omega]
    exact Or.inr rfl
  · rw [if_neg c]
    exact (h a b h1 h2 h3).2
theorem isIn_yes {v lo hi : Int32} (h1 : lo ≤ v) (h2 : v ≤ hi) : ¬ X7_isIn_v v lo hi = 0 := by
  unfold X7_isIn_v
  rw [if_neg (Int32.not_lt.mpr h1), if_neg (Int32.not_lt.mpr h2)]
  decide
theorem isIn_no {v lo hi : Int32} (h : ¬ (lo ≤ v ∧ v ≤ hi)) : X7_isIn_v v lo hi = 0 := by
  unfold X7_isIn_v
  by_cases c1 : v < lo
  · rw [if_pos c1]
    rfl
  · rw [if_neg c1, if_pos (Int32.not_le.mp (fun c2 => h ⟨Int32.not_lt.mp c1, c2⟩))]
    rfl
section KK
variable {cnt kk im ren ch tm rch fm ow nm fr : Nat → Int32}
theorem ref_kinds {n m : Nat} (h3 : 3 ≤ n) (hn : n ≤ 6) (h4 : m ≤ 4) (h0 : kk (5 * n + m) = 0) (isN : Int32) :
    X7_kinds_v tm rch kk fm ow nm fr (nI n) (nI m) = nI (KN n m) ∧ X7_kinds_p76_0 tm rch kk fm ow nm fr (nI n) (nI m) = 0 ∧ X7_kinds_p76_16 isN tm rch kk fm ow nm fr (nI n) (nI m) = nI 0 ∧ X7_kinds_c109 tm rch kk fm ow nm fr (nI n) (nI m) = upd kk (5 * n + m) (nI (KN n m + 1)) := by
  have cn : (nI n).toNatClampNeg = n := nI_clamp (by omega)
  have cm : (nI m).toNatClampNeg = m := nI_clamp (by omega)
  have y1 : ¬ X7_isIn_v (nI n) (nI 3) (nI 6) = 0 := isIn_yes ((nI_le31 (by omega) (by omega)).mpr h3) ((nI_le31 (by omega) (by omega)).mpr hn)
  have y2 : ¬ X7_isIn_v (nI m) (nI 0) (nI 4) = 0 := isIn_yes ((nI_le31 (by omega) (by omega)).mpr (Nat.zero_le _)) ((nI_le31 (by omega) (by omega)).mpr h4)
  obtain ⟨t1, -⟩ := tri_is (tm := tm) h3 hn
  have t20 := (tri_0 n (by omega) h3).2.1
  unfold X7_kinds_v X7_kinds_p76_0 X7_kinds_p76_16 X7_kinds_c109
  simp only [zlet]
  rw [cn, cm]
  rw [if_neg y1, if_neg y1, if_neg y1, if_neg y1, if_neg y2, if_neg y2, if_neg y2, if_neg y2, if_pos h0, if_pos h0, if_pos h0, if_pos h0, t1]
  by_cases c : (trL n).length < m
  · have c' : nI (trL n).length < nI m := Int32.not_le.mp (fun q => by have := (nI_le31 (by omega) (by omega)).mp q; omega)
    rw [if_pos c', if_pos c', if_pos c', if_pos c']
    have k0 := kn_0 n (by omega) h3 m (by omega) c
    rw [k0]
    have eB : ∃ b, X7_kinds_L89_B tm kk (nI n) (nI m) 0 (nI 0, nI 0, fm, ow, nm, fr, zfold X7_kinds_L68_F m 0 rch) = some b ∧ b.1 = nI 0 ∧ b.2.1 = 0 ∧ b.2.2.1 = nI 0 ∧ b.2.2.2.2.2.2.2.2.1 = upd kk (5 * n + m) (nI (0 + 1)) := by
      unfold X7_kinds_L89_B
      rw [if_pos (show nI 0 = 0 from rfl), cn, cm]
      refine ⟨_, rfl, ?_, rfl, rfl, rfl⟩
      show upd kk (5 * n + m) (nI 0 + nI 1) (5 * n + m) - nI 1 = nI 0
      unfold upd
      rw [if_pos rfl]
      rfl
    obtain ⟨b, eB, w1, w2, w3, w4⟩ := eB
    have ez : zfoldB (X7_kinds_L89_B tm kk (nI n) (nI m)) (X7_kinds_L89_F tm (nI n) (nI m)) 1 0 (nI 0, nI 0, fm, ow, nm, fr, zfold X7_kinds_L68_F m 0 rch) = (some b, (nI 0, nI 0, fm, ow, nm, fr, zfold X7_kinds_L68_F m 0 rch)) := by
      simp only [zfoldB, eB]
    rw [ez]
    exact ⟨w1, w2, w3, w4⟩
  · have c' : ¬ nI (trL n).length < nI m := Int32.not_lt.mpr ((nI_le31 (by omega) (by omega)).mpr (by omega))
    rw [if_neg c', if_neg c', if_neg c', if_neg c']
    obtain ⟨d, hd, hk⟩ := kr_all h3 hn h4 (by omega)
    have hr : ∀ x, x ∈ List.range m → x < 32 := fun x hx => by have := List.mem_range.mp hx; omega
    have eu : unp m (pk32 (List.range m)) = List.range m := by
      have := unp_pk (List.range m) hr
      rw [List.length_range] at this
      exact this
    obtain ⟨b, z, e, w⟩ := kr_go (tm := tm) (kk := kk) h3 hn h4 (by omega) t20 d _ 0 _ 194484 0 (nI 0, nI 1, fm, ow, nm, fr, zfold X7_kinds_L68v2_F m 0 rch) hk hd rfl (Or.inr ⟨pk32 (List.range m), rfl, rfl, by
      rw [eu]
      exact ⟨List.pairwise_lt_range, fun x hx => by have := List.mem_range.mp hx; omega⟩, fun j hj => by
      rw [eu]
      have e : zfold X7_kinds_L68v2_F m 0 rch j = _ := put_fold (G := nI) m 0 rch j
      show zfold X7_kinds_L68v2_F m 0 rch j = _
      rw [e, if_pos (by omega), List.getD_eq_getElem?_getD, List.getElem?_range hj]
      rfl⟩)
    rw [e]
    exact w
theorem kinds_same (h : R7 cnt kk) (isN n m : Int32) :
    X6_kinds_v im ren ch cnt n m = X7_kinds_v tm rch kk fm ow nm fr n m ∧ R7 (X6_kinds_c75 im ren ch cnt n m) (X7_kinds_c109 tm rch kk fm ow nm fr n m) ∧ X7_kinds_p76_0 tm rch kk fm ow nm fr n m = 0 ∧ (X7_kinds_p76_16 isN tm rch kk fm ow nm fr n m = isN ∨ X7_kinds_p76_16 isN tm rch kk fm ow nm fr n m = nI 0) := by
  by_cases c1 : nI 3 ≤ n ∧ n ≤ nI 6
  · by_cases c2 : nI 0 ≤ m ∧ m ≤ nI 4
    · obtain ⟨n', hn', rfl⟩ := nI_of (x := n) (fun q => absurd (Int32.le_trans (show (0 : Int32) ≤ nI 3 by decide) c1.1) (Int32.not_le.mpr q))
      obtain ⟨m', hm', rfl⟩ := nI_of (x := m) (Int32.not_lt.mpr c2.1)
      have h3 : 3 ≤ n' := (nI_le31 (by omega) hn').mp c1.1
      have h6 : n' ≤ 6 := (nI_le31 hn' (by omega)).mp c1.2
      have h4 : m' ≤ 4 := (nI_le31 hm' (by omega)).mp c2.2
      have cn : (nI n').toNatClampNeg = n' := nI_clamp (by omega)
      have cm : (nI m').toNatClampNeg = m' := nI_clamp (by omega)
      obtain ⟨r1, r2⟩ := h n' m' h3 h6 h4
      have kl := kn_lt n' (by omega) h3 m' (by omega)
      have ec : X6_kinds_v im ren ch cnt (nI n') (nI m') = nI (KN n' m') ∧ (X6_kinds_c75 im ren ch cnt (nI n') (nI m') = cnt ∨ X6_kinds_c75 im ren ch cnt (nI n') (nI m') = upd cnt (5 * n' + m') (nI (KN n' m'))) := by
        unfold X6_kinds_v X6_kinds_c75
        rw [if_neg (Int32.not_lt.mpr c1.1), if_neg (Int32.not_lt.mpr c1.1), if_neg (Int32.not_lt.mpr c1.2), if_neg (Int32.not_lt.mpr c1.2), if_neg (Int32.not_lt.mpr (show (0 : Int32) ≤ nI m' from c2.1)), if_neg (Int32.not_lt.mpr (show (0 : Int32) ≤ nI m' from c2.1)), if_pos c2.2, if_pos c2.2, cn, cm]
        unfold X1_kindsOf_v X1_kindsOf_c75
        rw [show n' * 5 = 5 * n' by omega]
        by_cases c : cnt (5 * n' + m') = -1
        · rw [if_pos c, if_pos c, cls_kinds (by omega) h6 h4, kc_all h3 h6 h4]
          refine ⟨?_, Or.inr rfl⟩
          unfold upd
          rw [if_pos rfl]
        · rw [if_neg c, if_neg c]
          exact ⟨r1.resolve_left c, Or.inl rfl⟩
      have hR : R7 (X6_kinds_c75 im ren ch cnt (nI n') (nI m')) kk := by
        rcases ec.2 with q | q
        · rw [q]; exact h
        · rw [q]; exact R7_c h h4
      rw [ec.1]
      by_cases c : kk (5 * n' + m') = 0
      · obtain ⟨w1, w2, w3, w4⟩ := ref_kinds (tm := tm) (rch := rch) (fm := fm) (ow := ow) (nm := nm) (fr := fr) h3 h6 h4 c isN
        rw [w1, w2, w3, w4]
        exact ⟨rfl, R7_r hR h4, rfl, Or.inr rfl⟩
      · have y1 : ¬ X7_isIn_v (nI n') (nI 3) (nI 6) = 0 := isIn_yes c1.1 c1.2
        have y2 : ¬ X7_isIn_v (nI m') (nI 0) (nI 4) = 0 := isIn_yes c2.1 c2.2
        unfold X7_kinds_v X7_kinds_p76_0 X7_kinds_p76_16 X7_kinds_c109
        simp only [zlet]
        rw [cn, cm]
        rw [if_neg y1, if_neg y1, if_neg y1, if_neg y1, if_neg y2, if_neg y2, if_neg y2, if_neg y2, if_neg c, if_neg c, if_neg c, if_neg c]
        refine ⟨?_, hR, rfl, Or.inl rfl⟩
        rw [r2.resolve_left c, pk_sub (by omega), Nat.add_sub_cancel]
    · have n2 : X7_isIn_v m (nI 0) (nI 4) = 0 := isIn_no c2
      have y1 : ¬ X7_isIn_v n (nI 3) (nI 6) = 0 := isIn_yes c1.1 c1.2
      have ec : X6_kinds_v im ren ch cnt n m = -9 ∧ X6_kinds_c75 im ren ch cnt n m = cnt := by
        unfold X6_kinds_v X6_kinds_c75
        rw [if_neg (Int32.not_lt.mpr c1.1), if_neg (Int32.not_lt.mpr c1.1), if_neg (Int32.not_lt.mpr c1.2), if_neg (Int32.not_lt.mpr c1.2)]
        by_cases c : m < 0
        · rw [if_pos c, if_pos c]; exact ⟨rfl, rfl⟩
        · rw [if_neg c, if_neg c, if_neg (fun q => c2 ⟨Int32.not_lt.mp c, q⟩), if_neg (fun q => c2 ⟨Int32.not_lt.mp c, q⟩)]; exact ⟨rfl, rfl⟩
      rw [ec.1, ec.2]
      unfold X7_kinds_v X7_kinds_p76_0 X7_kinds_p76_16 X7_kinds_c109
      rw [if_neg y1, if_neg y1, if_neg y1, if_neg y1, if_pos n2, if_pos n2, if_pos n2, if_pos n2]
      exact ⟨rfl, h, rfl, Or.inl rfl⟩
  · have n1 : X7_isIn_v n (nI 3) (nI 6) = 0 := isIn_no c1
    have ec : X6_kinds_v im ren ch cnt n m = -9 ∧ X6_kinds_c75 im ren ch cnt n m = cnt := by
      unfold X6_kinds_v X6_kinds_c75
      by_cases c : n < nI 3
      · rw [if_pos c, if_pos c]; exact ⟨rfl, rfl⟩
      · rw [if_neg c, if_neg c, if_pos (Int32.not_le.mp (fun q => c1 ⟨Int32.not_lt.mp c, q⟩)), if_pos (Int32.not_le.mp (fun q => c1 ⟨Int32.not_lt.mp c, q⟩))]; exact ⟨rfl, rfl⟩
    rw [ec.1, ec.2]
    unfold X7_kinds_v X7_kinds_p76_0 X7_kinds_p76_16 X7_kinds_c109
    rw [if_pos n1, if_pos n1, if_pos n1, if_pos n1]
    exact ⟨rfl, h, rfl, Or.inl rfl⟩
end KK
