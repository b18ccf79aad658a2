/-! ===== meet and meets, alike in both ===== -/
theorem cross_red {q : Nat} (hq : PR q) {L M : Nat → Int} (bL : ∀ i, -144 ≤ L i ∧ L i ≤ 144) (bM : ∀ i, -144 ≤ M i ∧ M i ≤ 144) {uu vv ww : Nat → Int32} (h1 : ∀ i, i < 3 → uu i = Int32.ofInt (rst q (L i))) (h2 : ∀ i, i < 3 → vv i = Int32.ofInt (rst q (M i))) :
    X3_cross_c55_55 (nI q) uu vv ww 0 = Int32.ofInt (((L 1 % q) * (M 2 % q) - (L 2 % q) * (M 1 % q)) % q) ∧ X3_cross_c55_55 (nI q) uu vv ww 1 = Int32.ofInt (((L 2 % q) * (M 0 % q) - (L 0 % q) * (M 2 % q)) % q) ∧ X3_cross_c55_55 (nI q) uu vv ww 2 = Int32.ofInt (((L 0 % q) * (M 1 % q) - (L 1 % q) * (M 0 % q)) % q) := by
  have hb := PR_b hq
  have er : ∀ x : Int, rst q x = x % q := fun x => by unfold rst; rw [if_neg (by omega)]
  have bb : ∀ x : Int, 0 ≤ x % q ∧ x % q ≤ 13 := fun x => by
    have g1 := Int.emod_nonneg x (show (q : Int) ≠ 0 by omega)
    have g2 := Int.emod_lt_of_pos x (show (0 : Int) < q by omega)
    omega
  have key : ∀ a b c d : Int, X2_rest_v (nI q) (Int32.ofInt (rst q a) * Int32.ofInt (rst q b) - Int32.ofInt (rst q c) * Int32.ofInt (rst q d)) = Int32.ofInt (((a % q) * (b % q) - (c % q) * (d % q)) % q) := fun a b c d => by
    have A := bb a
    have B := bb b
    have C := bb c
    have D := bb d
    have m1 := mulb A.1 A.2 (show -13 ≤ b % q by omega) B.2
    have m2 := mulb C.1 C.2 (show -13 ≤ d % q by omega) D.2
    rw [← Int32.ofInt_mul, ← Int32.ofInt_mul, ← Int32.ofInt_sub, er a, er b, er c, er d, rest_is (Or.inr hq) (by omega) (by omega), er]
  unfold X3_cross_c55_55
  rw [h1 0 (by decide), h1 1 (by decide), h1 2 (by decide), h2 0 (by decide), h2 1 (by decide), h2 2 (by decide), key, key, key]
  exact ⟨rfl, rfl, rfl⟩
section MM
variable {n lns : Nat} {wd : Nat → Nat → Int32} {n0 n1 n2 plc p1 p2 l1 l2 : Nat → Int32} {laid hasP fnd : Int32} {fs sc th po lp : Nat → Int32} {fd : Nat}
theorem join_is {q : Nat} (hq : FLD q) {u v : Nat} (hu : u < nPl q) (hv : v < nPl q) (hN : NUM q n0 n1 n2 (nPl q)) {a b : Nat} (ha : plc a = nI u) (hb : plc b = nI v) (P Q R : Nat → Int32) : ∀ i, i < 3 → X3_joinPoints_c57_57 (nI q) n0 n1 n2 plc P Q R a b i = Int32.ofInt (rst q (crs q u v i)) := by
  have h183 := nPl_le hq
  obtain ⟨x0, x1, x2⟩ := hN u hu
  obtain ⟨y0, y1, y2⟩ := hN v hv
  unfold X3_joinPoints_c57_57
  refine cross_is hq hu hv (fun i hi => ?_) (fun i hi => ?_)
  · unfold X3_numbersOf_c55_55
    rw [ha, nI_clamp (by omega), x0, x1, x2]
    rcases (show i = 0 ∨ i = 1 ∨ i = 2 by omega) with rfl | rfl | rfl <;> simp [upd]
  · unfold X3_numbersOf_c56_56
    rw [hb, nI_clamp (by omega), y0, y1, y2]
    rcases (show i = 0 ∨ i = 1 ∨ i = 2 by omega) with rfl | rfl | rfl <;> simp [upd]
theorem join58 (F : Int32) (P Q R : Nat → Int32) (a b : Nat) : X3_joinPoints_c58_58 F n0 n1 n2 plc P Q R a b = X3_joinPoints_c57_57 F n0 n1 n2 plc P Q R a b := rfl
/-- two lines of a picture over a prime -/
theorem both_same {q : Nat} (hq : PR q) {u0 u1 v0 v1 : Nat} (hu0 : u0 < nPl q) (hu1 : u1 < nPl q) (hv0 : v0 < nPl q) (hv1 : v1 < nPl q) (hu : u0 ≠ u1) (hN : NUM q n0 n1 n2 (nPl q)) {wa wb : Nat → Int32} (a0 : plc (wa 0).toNatClampNeg = nI u0) (a1 : plc (wa 1).toNatClampNeg = nI u1) (b0 : plc (wb 0).toNatClampNeg = nI v0) (b1 : plc (wb 1).toNatClampNeg = nI v1) {F : Nat → Int32 × Nat → Int32 × Nat} (hF : ∀ k a, k < nPl q → ((val q k u0 u1 = 0 ∧ val q k v0 v1 = 0) ∧ F k a = (nI k, a.2 + 1)) ∨ (¬ (val q k u0 u1 = 0 ∧ val q k v0 v1 = 0) ∧ F k a = a)) :
    (X3_placeOnBoth_v q n0 n1 n2 plc p1 p2 l1 l2 wa wb = -4 ∧ 2 ≤ (zfold F (nPl q) 0 (-4, 0)).2) ∨ ∃ K, K < nPl q ∧ X3_placeOnBoth_v q n0 n1 n2 plc p1 p2 l1 l2 wa wb = nI K ∧ zfold F (nPl q) 0 (-4, 0) = (nI K, 1) := by
  have hb := PR_b hq
  have hfl : FLD q := Or.inr hq
  have bm : ∀ x : Int, 0 ≤ x % q ∧ x % q < q := fun x => ⟨Int.emod_nonneg x (by omega), Int.emod_lt_of_pos x (by omega)⟩
  unfold X3_placeOnBoth_v
  rw [join58]
  obtain ⟨e0, e1, e2⟩ := cross_red hq (L := crs q u0 u1) (M := crs q v0 v1) (ww := X3_joinPoints_c55_58 n0 n1 n2 plc (X3_joinPoints_c55_57 n0 n1 n2 plc p1 ((wa 0).toNatClampNeg)) ((wb 0).toNatClampNeg)) (fun i => crs_b hfl hu0 hu1 i) (fun i => crs_b hfl hv0 hv1 i) (join_is hfl hu0 hu1 hN a0 a1 p1 p2 l1) (join_is hfl hv0 hv1 hN b0 b1 (X3_joinPoints_c55_57 n0 n1 n2 plc p1 ((wa 0).toNatClampNeg)) (X3_joinPoints_c56_57 n0 n1 n2 plc p2 ((wa 1).toNatClampNeg)) l2)
  have r0 := red_dvd (q := q) (a := crs q u0 u1 1) (b := crs q v0 v1 2) (c := crs q u0 u1 2) (d := crs q v0 v1 1)
  have r1 := red_dvd (q := q) (a := crs q u0 u1 2) (b := crs q v0 v1 0) (c := crs q u0 u1 0) (d := crs q v0 v1 2)
  have r2 := red_dvd (q := q) (a := crs q u0 u1 0) (b := crs q v0 v1 1) (c := crs q u0 u1 1) (d := crs q v0 v1 0)
  have hS : ∀ k, (val q k u0 u1 = 0 ∧ val q k v0 v1 = 0) ↔ ((q : Int) ∣ dot q k (crs q u0 u1) ∧ (q : Int) ∣ dot q k (crs q v0 v1)) := fun k => by rw [val_0 hq, val_0 hq]
  rcases place_is hq e0 e1 e2 (bm _) (bm _) (bm _) with ⟨E, z0, z1, z2⟩ | ⟨K, l, hK, E, hl, d0, d1, d2⟩
  · refine Or.inl ⟨E, ?_⟩
    rw [z0, Int.zero_sub, Int.dvd_neg] at r0
    rw [z1, Int.zero_sub, Int.dvd_neg] at r1
    rw [z2, Int.zero_sub, Int.dvd_neg] at r2
    have nL : ¬ (q : Int) ∣ crs q u0 u1 0 ∨ ¬ (q : Int) ∣ crs q u0 u1 1 ∨ ¬ (q : Int) ∣ crs q u0 u1 2 := by
      by_cases c0 : (q : Int) ∣ crs q u0 u1 0
      · by_cases c1 : (q : Int) ∣ crs q u0 u1 1
        · refine Or.inr (Or.inr (fun c2 => hu (pl_inj hq hu0 hu1 (fun i hi => ?_))))
          rcases (show i = 0 ∨ i = 1 ∨ i = 2 by omega) with rfl | rfl | rfl
          · exact c0
          · exact c1
          · exact c2
        · exact Or.inr (Or.inl c1)
      · exact Or.inl c0
    have o0 : (q : Int) ∣ dot q u0 (crs q u0 u1) := by rw [dot_u]; exact Int.dvd_zero _
    have o1 : (q : Int) ∣ dot q u1 (crs q u0 u1) := by rw [dot_v]; exact Int.dvd_zero _
    have t0 : (q : Int) ∣ dot q u0 (crs q v0 v1) := on_both hq r0 r1 r2 nL o0
    have t1 : (q : Int) ∣ dot q u1 (crs q v0 v1) := on_both hq r0 r1 r2 nL o1
    have g := (ct_ge (S := fun k => val q k u0 u1 = 0 ∧ val q k v0 v1 = 0) hF (nPl q) 0 (-4, 0) (by omega)).2.2
    rcases Nat.lt_or_gt_of_ne hu with w | w
    · exact g u0 u1 (Nat.zero_le _) w hu1 ((hS u0).mpr ⟨o0, t0⟩) ((hS u1).mpr ⟨o1, t1⟩)
    · exact g u1 u0 (Nat.zero_le _) w hu0 ((hS u1).mpr ⟨o1, t1⟩) ((hS u0).mpr ⟨o0, t0⟩)
  · have oK := on_L hq hl d0 d1 d2 r0 r1 r2
    exact Or.inr ⟨K, hK, E, ct_one (S := fun k => val q k u0 u1 = 0 ∧ val q k v0 v1 = 0) hF (nPl q) 0 (-4, 0) (by omega) (Nat.zero_le _) hK ((hS K).mpr oK) (fun k hk sk => by
      obtain ⟨s1, s2⟩ := (hS k).mp sk
      obtain ⟨w0, w1, w2⟩ := on_one hq hl d0 d1 d2 r0 r1 r2 s1 s2
      refine pl_inj hq hk hK (fun i hi => ?_)
      rcases (show i = 0 ∨ i = 1 ∨ i = 2 by omega) with rfl | rfl | rfl
      · exact w0
      · exact w1
      · exact w2)⟩
/-- the first two points of each line -/
def TWO (n lns : Nat) (wd : Nat → Nat → Int32) (lp : Nat → Int32) : Prop := ∀ l, l < lns → ∃ x y, x < n ∧ y < n ∧ x ≠ y ∧ wd l 0 = nI x ∧ wd l 1 = nI y ∧ lp (5 * l + 0) = nI x ∧ lp (5 * l + 1) = nI y
theorem meet_same (hn : n ≤ 10) (hl : lns ≤ 12) (hW : TWO n lns wd lp) {fr : Nat} (hfr : FLD fr) (hS : SRC n fnd fd n0 n1 n2 plc hasP (nI fr) laid fs sc th po) (a b : Int32) :
    ((X6_placeOfBoth_v lns wd fnd fd n0 n1 n2 plc p1 p2 l1 l2 a b = -4 ∧ X7_meet_p76_0 lns hasP fr laid fs sc th po lp a b = 1) ∨
     (¬ X6_placeOfBoth_v lns wd fnd fd n0 n1 n2 plc p1 p2 l1 l2 a b = -4 ∧ X7_meet_p76_0 lns hasP fr laid fs sc th po lp a b = 0 ∧ X6_placeOfBoth_v lns wd fnd fd n0 n1 n2 plc p1 p2 l1 l2 a b = X7_meet_v lns hasP fr laid fs sc th po lp a b)) ∧
    SRC n fnd fd n0 n1 n2 plc hasP (nI fr) (X7_meet_p76_10 lns hasP fr laid fs sc th po lp a b) (X7_meet_c92 lns hasP fr laid fs sc th po lp a b) (X7_meet_c93 lns hasP fr laid fs sc th po lp a b) (X7_meet_c94 lns hasP fr laid fs sc th po lp a b) po := by
  have hS0 := hS
  obtain ⟨rfl, hf, hr, hL, hF⟩ := hS
  unfold X6_placeOfBoth_v X7_meet_p76_0 X7_meet_v X7_meet_p76_10 X7_meet_c92 X7_meet_c93 X7_meet_c94
  simp only [zlet, ite_self]
  by_cases va : vp_in a lns
  · have x1 : ¬ X4_hasLine_v lns a = 0 := fun u => (hasL_iff (by omega)).mp u va
    have x2 : ¬ X7_isIn_v a (nI 0) (nI lns - nI 1) = 0 := fun u => (isIn_iff (by omega)).mp u va
    simp only [if_neg x1, if_neg x2]
    by_cases vb : vp_in b lns
    · have y1 : ¬ X4_hasLine_v lns b = 0 := fun u => (hasL_iff (by omega)).mp u vb
      have y2 : ¬ X7_isIn_v b (nI 0) (nI lns - nI 1) = 0 := fun u => (isIn_iff (by omega)).mp u vb
      simp only [if_neg y1, if_neg y2]
      by_cases c1 : a = b
      · simp only [if_pos c1]
        exact ⟨Or.inr ⟨by decide, trivial, trivial⟩, hS0⟩
      · simp only [if_neg c1]
        by_cases c2 : fnd = 0
        · simp only [if_pos c2]
          exact ⟨Or.inr ⟨by decide, trivial, trivial⟩, hS0⟩
        · obtain ⟨e, hN, hp, hd⟩ := hF c2
          have e2 : fr = fd := (nI_eq (by have := FLD_b hfr; omega) (by have := FLD_b hf; omega)).mp e
          subst e2
          simp only [if_neg c2]
          by_cases c3 : fr = 0
          · have z : nI fr = 0 := by rw [c3]; rfl
            simp only [if_pos z]
            exact ⟨Or.inr ⟨by decide, trivial, trivial⟩, hS0⟩
          · have z : ¬ nI fr = 0 := nI_ne0 (by omega) (by have := FLD_b hf; omega)
            simp only [if_neg z]
            have hq : PR fr := hf.resolve_left c3
            have h183 := nPl_le hf
            refine ⟨?_, rfl, hf, hr, Or.inr ⟨fr, hf, rfl, layField_is hf hL⟩, fun _ => ⟨rfl, hN, hp, hd⟩⟩
            obtain ⟨ax, ay, hax, hay, nea, wa0, wa1, la0, la1⟩ := hW a.toNatClampNeg (zvlt va)
            obtain ⟨bx, bY, hbx, hby, neb, wb0, wb1, lb0, lb1⟩ := hW b.toNatClampNeg (zvlt vb)
            obtain ⟨pa0, u0, hu0, eu0⟩ := hp ax hax
            obtain ⟨pa1, u1, hu1, eu1⟩ := hp ay hay
            obtain ⟨pb0, v0, hv0, ev0⟩ := hp bx hbx
            obtain ⟨pb1, v1, hv1, ev1⟩ := hp bY hby
            have hu : u0 ≠ u1 := fun q => by
              rcases Nat.lt_or_gt_of_ne nea with w | w
              · exact hd ax ay w hay (by rw [eu0, eu1, q])
              · exact hd ay ax w hax (by rw [eu0, eu1, q])
            have lN := layField_is hf hL
            have key := both_same (plc := plc) (p1 := p1) (p2 := p2) (l1 := l1) (l2 := l2) hq hu0 hu1 hv0 hv1 hu hN (wa := wd a.toNatClampNeg) (wb := wd b.toNatClampNeg) (by rw [wa0, nI_clamp (by omega), pa0, eu0]) (by rw [wa1, nI_clamp (by omega), pa1, eu1]) (by rw [wb0, nI_clamp (by omega), pb0, ev0]) (by rw [wb1, nI_clamp (by omega), pb1, ev1]) (F := X7_meet_L75_F fr laid fs sc th po lp a b) (fun k c hk => by
              unfold X7_meet_L75_F X7_on_v
              rw [la0, la1, lb0, lb1, nI_clamp (show ax < 2 ^ 31 by omega), nI_clamp (show ay < 2 ^ 31 by omega), nI_clamp (show bx < 2 ^ 31 by omega), nI_clamp (show bY < 2 ^ 31 by omega), eu0, eu1, ev0, ev1, nI_clamp (show u0 < 2 ^ 31 by omega), nI_clamp (show u1 < 2 ^ 31 by omega), nI_clamp (show v0 < 2 ^ 31 by omega), nI_clamp (show v1 < 2 ^ 31 by omega), ref_val hf hk hu0 hu1 lN, ref_val hf hk hv0 hv1 lN]
              have b1 := val_b hf hk hu0 hu1
              have b2 := val_b hf hk hv0 hv1
              by_cases s1 : val fr k u0 u1 = 0
              · rw [if_pos ((iI_0 b1.1 b1.2).mpr s1)]
                by_cases s2 : val fr k v0 v1 = 0
                · rw [if_pos ((iI_0 b2.1 b2.2).mpr s2)]
                  exact Or.inl ⟨⟨s1, s2⟩, rfl⟩
                · rw [if_neg (fun u => s2 ((iI_0 b2.1 b2.2).mp u))]
                  exact Or.inr ⟨fun u => s2 u.2, rfl⟩
              · rw [if_neg (fun u => s1 ((iI_0 b1.1 b1.2).mp u))]
                exact Or.inr ⟨fun u => s1 u.1, rfl⟩)
            have many : (zfold (X7_meet_L75_F fr laid fs sc th po lp a b) (nPl fr) 0 (-4, 0)).2 ≤ 183 := by
              have k2 := zfold_I (n := nPl fr) (fun i (c : Int32 × Nat) => c.2 ≤ i) (F := X7_meet_L75_F fr laid fs sc th po lp a b) (fun i c _ hc => by
                unfold X7_meet_L75_F
                split
                · split
                  · show c.2 + 1 ≤ i + 1
                    omega
                  · show c.2 ≤ i + 1
                    omega
                · show c.2 ≤ i + 1
                  omega) (nPl fr) 0 (-4, 0) (by omega) (Nat.le_refl _)
              omega
            rw [nPl_ref hf]
            rcases key with ⟨E, g⟩ | ⟨K, hK, E, g⟩
            · have nl : ¬ nI (zfold (X7_meet_L75_F fr laid fs sc th po lp a b) (nPl fr) 0 (-4, 0)).2 ≤ nI 1 := nI_ge (by omega) (by omega)
              rw [if_neg nl]
              exact Or.inl ⟨E, rfl⟩
            · rw [g, E]
              refine Or.inr ⟨nI_n4 (by omega), ?_, ?_⟩
              · rw [if_pos (show nI 1 ≤ nI 1 from Int32.le_refl _)]
              · rw [if_pos (show nI 1 ≤ nI 1 from Int32.le_refl _)]
    · have y1 : X4_hasLine_v lns b = 0 := (hasL_iff (by omega)).mpr vb
      have y2 : X7_isIn_v b (nI 0) (nI lns - nI 1) = 0 := (isIn_iff (by omega)).mpr vb
      simp only [if_pos y1, if_pos y2]
      exact ⟨Or.inr ⟨by decide, trivial, trivial⟩, hS0⟩
  · have x1 : X4_hasLine_v lns a = 0 := (hasL_iff (by omega)).mpr va
    have x2 : X7_isIn_v a (nI 0) (nI lns - nI 1) = 0 := (isIn_iff (by omega)).mpr va
    simp only [if_pos x1, if_pos x2]
    exact ⟨Or.inr ⟨by decide, trivial, trivial⟩, hS0⟩
theorem meets_same (hn : n ≤ 10) (hl : lns ≤ 12) (hW : TWO n lns wd lp) {fr : Nat} (hfr : FLD fr) (hS : SRC n fnd fd n0 n1 n2 plc hasP (nI fr) laid fs sc th po) (a b : Int32) :
    X6_meets_v lns wd fnd fd n0 n1 n2 plc p1 p2 l1 l2 a b = X7_meets_v lns hasP fr laid fs sc th po lp a b ∧ X7_meets_p76_0 lns hasP fr laid fs sc th po lp a b = 0 ∧
    SRC n fnd fd n0 n1 n2 plc hasP (nI fr) (X7_meets_p76_10 lns hasP fr laid fs sc th po lp a b) (X7_meets_c92 lns hasP fr laid fs sc th po lp a b) (X7_meets_c93 lns hasP fr laid fs sc th po lp a b) (X7_meets_c94 lns hasP fr laid fs sc th po lp a b) po := by
  obtain ⟨k, s⟩ := meet_same (p1 := p1) (p2 := p2) (l1 := l1) (l2 := l2) hn hl hW hfr hS a b
  unfold X6_meets_v X7_meets_v X7_meets_p76_0 X7_meets_p76_10 X7_meets_c92 X7_meets_c93 X7_meets_c94
  simp only [ite_self]
  refine ⟨?_, trivial, s⟩
  rcases k with ⟨k1, k2⟩ | ⟨k1, k2, k3⟩
  · rw [k1, k2, if_pos rfl]
  · rw [k2, if_neg (by decide), k3]
end MM
