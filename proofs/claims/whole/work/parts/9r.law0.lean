/-! ===== the law's walk: rows of its own ===== -/
def mL_law : zM := (cL_law, 7, some .boolean, RL, wsL_law, "law")
abbrev rmW : Room := { frames := 2048, cells := 601024, slots := 7293034, locals := 84000 }
abbrev lvL (G : zG) (b9 i : Nat) (o5 o6 : Option Value) : List (Option Value) := [some (.ref b9), some (.ref (zB G + 0)), some (.ref (zB G + 76)), some (.ref (zB G + 112)), some (.int (nI i)), o5, o6]
abbrev ZL (G : zG) (b9 L9 : Nat) (xs9 : Nat → Int32) := ZS G mL_law rmW false b9 L9 xs9 lw_Z
theorem zs_widen {G : zG} {M : zM} {rm : Room} {b9 L9 : Nat} {xs9 : Nat → Int32} {Qf : List Frame → Array Value → State → State → Prop} {pc : Nat} {lv : List (Option Value)} {st : List Value} {h : zAH} {cu su cu' su' : Nat} (hc : cu ≤ cu') (hs : su ≤ su') (K : ZS G M rm false b9 L9 xs9 Qf pc lv st h cu' su') : ZS G M rm false b9 L9 xs9 Qf pc lv st h cu su := by
  intro p e s m args below meth c H locs ls S9 X hz hL hP hS
  exact W.widen hc hs (K p e s m args below meth c H locs ls S9 X (fun he => nomatch he) hL hP hS)
theorem zs_arg {G : zG} {b9 L9 : Nat} {xs9 : Nat → Int32} {i : Nat} {o5 o6 : Option Value} {pc n j : Nat} {jj : Int} {st : List Value} {h : zAH} {cu su : Nat} (d0 : decode cL_law pc = .ok (.aload_n 0, 1)) (d1 : decode cL_law (pc + 1) = .ok (.iload 4, 2)) (d2 : decode cL_law (pc + 3) = .ok (.iconst jj, 1)) (d3 : decode cL_law (pc + 4) = .ok (.iadd, 1)) (d4 : decode cL_law (pc + 5) = .ok (.iaload, 1)) (hn : pc + 6 = n) (hj : Int32.ofInt jj = nI j) (hL : L9 ≤ 2560) (hij : i + j < L9)
    (K : ZL G b9 L9 xs9 n (lvL G b9 i o5 o6) (.int (xs9 (i + j)) :: st) h cu su) : ZL G b9 L9 xs9 pc (lvL G b9 i o5 o6) st h cu su := by
  refine zs_aload_n (k := 0) d0 rfl rfl ?_
  refine zs_iload d1 rfl rfl ?_
  refine zs_iconst d2 rfl hj ?_
  refine zs_iadd d3 rfl ?_
  have e : nI i + nI j = nI (i + j) := nI_add i j
  refine zs_sld d4 hn (by rw [e]; exact vp_in_nI hij (by omega)) ?_
  rw [e, nI_clamp (by omega)]
  exact K
theorem zs_bl {G : zG} {b9 L9 : Nat} {xs9 : Nat → Int32} {lv : List (Option Value)} {pc n : Nat} {x : Int32} {st : List Value} {h : zAH} {cu su : Nat} (d0 : decode cL_law pc = .ok (.ifCond .eq 7, 3)) (d1 : decode cL_law (pc + 3) = .ok (.iconst 1, 1)) (d2 : decode cL_law (pc + 4) = .ok (.goto 4, 3)) (d3 : decode cL_law (pc + 7) = .ok (.iconst 0, 1)) (hn : pc + 8 = n)
    (K : ZL G b9 L9 xs9 n lv (.int (if x = 0 then nI 0 else nI 1) :: st) h cu su) : ZL G b9 L9 xs9 pc lv (.int x :: st) h cu su := by
  subst hn
  refine zs_if_eq (tgt := pc + 7) d0 rfl (by omega) (fun c => ?_) (fun c => ?_)
  · rw [if_pos c] at K
    exact zs_iconst (v := nI 0) d3 rfl (by decide) K
  · rw [if_neg c] at K
    refine zs_iconst (v := nI 1) d1 rfl (by decide) ?_
    exact zs_goto (tgt := pc + 8) d2 (by omega) K
theorem zs_ret1 {G : zG} {ex : Bool} {b9 L9 : Nat} {xs9 : Nat → Int32} {pc : Nat} {lv : List (Option Value)} {h : zAH} {cu su : Nat} (hd : decode cL_law pc = .ok (.ireturn, 1)) (hcu : cu ≤ 601024) (hsu : su ≤ 7293034) : ZS G mL_law rmW ex b9 L9 xs9 lw_Z pc lv [.int (nI 1)] h cu su := by
  intro p e s m args below meth c H locs ls S9 X hz hL hP hS
  obtain ⟨hx, hb, hml, hr, hown, hts, hlk9, hnm, hK⟩ := id X
  obtain ⟨rfl, hB, -⟩ := S9
  refine va_forget (fun q hq => by rw [hB]; exact hS.2.2 q hq) ?_
  refine W.widen hcu hsu ?_
  exact lw_ret hx hb hr hlk9 hd
theorem lg_cmp_self (x : Int64) : lg_cmp x x = 0 := by
  unfold lg_cmp
  rw [if_neg (show ¬ x > x from Int64.lt_irrefl), if_pos rfl]
theorem lt5 {i L : Nat} (hL : L ≤ 2560) (hi : i ≤ 2560) : (nI L - nI 5 < nI i) ↔ L < i + 5 := by
  by_cases c : 5 ≤ L
  · rw [pk_sub c]
    have q := nI_le31 (a := i) (b := L - 5) (by omega) (by omega)
    constructor
    · intro h
      have : ¬ nI i ≤ nI (L - 5) := Int32.not_le.mpr h
      rw [q] at this
      omega
    · intro h
      refine Int32.not_le.mp (fun u => ?_)
      have := q.mp u
      omega
  · have k : ∀ a, a < 5 → nI a - nI 5 < nI 0 := by decide +kernel
    have h0 := k L (by omega)
    refine ⟨fun _ => by omega, fun _ => ?_⟩
    have q := (nI_le31 (a := 0) (b := i) (by omega) (by omega)).mpr (by omega)
    exact Int32.lt_of_lt_of_le h0 q
theorem stp_sign (G : zG) {J : Nat → Int64} {g : Nat → va_E} (hI : INVS G J g) (x1 : Int32) : ∃ h, (∀ k, k < zN → g k = h k) ∧ (∃ fs, h 0 = zO 6 fs) ∧ (STEP G J h yX6_sign wsX6_sign (zrm 0 0) yX7_sign wsX7_sign (zrm 1 22) [.int x1]) := by
  obtain ⟨s, V, I, A, W, U, hg, hR⟩ := hI
  cases s
  · exact ⟨_, hg, ⟨_, rfl⟩, st_sign_F G hR x1⟩
  · exact ⟨_, hg, ⟨_, rfl⟩, st_sign_T G hR x1⟩
theorem stp_read (G : zG) {J : Nat → Int64} {g : Nat → va_E} (hI : INVS G J g) : ∃ h, (∀ k, k < zN → g k = h k) ∧ (∃ fs, h 0 = zO 6 fs) ∧ (STEP G J h yX6_read wsX6_read (zrm 4 93) yX7_read wsX7_read (zrm 2 48) [] ∨ STEP G J h yX6_read wsX6_read (zrm 4 91) yX7_read wsX7_read (zrm 2 48) []) := by
  obtain ⟨s, V, I, A, W, U, hg, hR⟩ := hI
  cases s
  · exact ⟨_, hg, ⟨_, rfl⟩, st_read_F G hR ⟩
  · exact ⟨_, hg, ⟨_, rfl⟩, st_read_T G hR ⟩
theorem stp_count (G : zG) {J : Nat → Int64} {g : Nat → va_E} (hI : INVS G J g) (x1 : Int32) : ∃ h, (∀ k, k < zN → g k = h k) ∧ (∃ fs, h 0 = zO 6 fs) ∧ (STEP G J h yX6_count wsX6_count (zrm 0 0) yX7_count wsX7_count (zrm 0 0) [.int x1]) := by
  obtain ⟨s, V, I, A, W, U, hg, hR⟩ := hI
  cases s
  · exact ⟨_, hg, ⟨_, rfl⟩, st_count_F G hR x1⟩
  · exact ⟨_, hg, ⟨_, rfl⟩, st_count_T G hR x1⟩
theorem stp_line (G : zG) {J : Nat → Int64} {g : Nat → va_E} (hI : INVS G J g) (x1 x2 x3 : Int32) : ∃ h, (∀ k, k < zN → g k = h k) ∧ (∃ fs, h 0 = zO 6 fs) ∧ (STEP G J h yX6_line wsX6_line (zrm 1 21) yX7_line wsX7_line (zrm 1 22) [.int x1, .int x2, .int x3]) := by
  obtain ⟨s, V, I, A, W, U, hg, hR⟩ := hI
  cases s
  · exact ⟨_, hg, ⟨_, rfl⟩, st_line_F G hR x1 x2 x3⟩
  · exact ⟨_, hg, ⟨_, rfl⟩, st_line_T G hR x1 x2 x3⟩
theorem stp_bar (G : zG) {J : Nat → Int64} {g : Nat → va_E} (hI : INVS G J g) (x1 x2 x3 : Int32) : ∃ h, (∀ k, k < zN → g k = h k) ∧ (∃ fs, h 0 = zO 6 fs) ∧ (STEP G J h yX6_bar wsX6_bar (zrm 2 46) yX7_bar wsX7_bar (zrm 2 45) [.int x1, .int x2, .int x3]) := by
  obtain ⟨s, V, I, A, W, U, hg, hR⟩ := hI
  cases s
  · exact ⟨_, hg, ⟨_, rfl⟩, st_bar_F G hR x1 x2 x3⟩
  · exact ⟨_, hg, ⟨_, rfl⟩, st_bar_T G hR x1 x2 x3⟩
theorem stp_orient (G : zG) {J : Nat → Int64} {g : Nat → va_E} (hI : INVS G J g) (x1 x2 x3 x4 : Int32) : ∃ h, (∀ k, k < zN → g k = h k) ∧ (∃ fs, h 0 = zO 6 fs) ∧ (STEP G J h yX6_orient wsX6_orient (zrm 2 46) yX7_orient wsX7_orient (zrm 2 45) [.int x1, .int x2, .int x3, .int x4]) := by
  obtain ⟨s, V, I, A, W, U, hg, hR⟩ := hI
  cases s
  · exact ⟨_, hg, ⟨_, rfl⟩, st_orient_F G hR x1 x2 x3 x4⟩
  · exact ⟨_, hg, ⟨_, rfl⟩, st_orient_T G hR x1 x2 x3 x4⟩
theorem stp_realise (G : zG) {J : Nat → Int64} {g : Nat → va_E} (hI : INVS G J g) (x1 x2 : Int32) : ∃ h, (∀ k, k < zN → g k = h k) ∧ (∃ fs, h 0 = zO 6 fs) ∧ (STEP G J h yX6_realise wsX6_realise (zrm 7 157) yX7_realise wsX7_realise (zrm 3 80) [.int x1, .int x2]) := by
  obtain ⟨s, V, I, A, W, U, hg, hR⟩ := hI
  cases s
  · exact ⟨_, hg, ⟨_, rfl⟩, st_realise_F G hR x1 x2⟩
  · exact ⟨_, hg, ⟨_, rfl⟩, st_realise_T G hR x1 x2⟩
theorem stp_coordinate (G : zG) {J : Nat → Int64} {g : Nat → va_E} (hI : INVS G J g) (x1 x2 : Int32) : ∃ h, (∀ k, k < zN → g k = h k) ∧ (∃ fs, h 0 = zO 6 fs) ∧ (STEP G J h yX6_coordinate wsX6_coordinate (zrm 1 23) yX7_coordinate wsX7_coordinate (zrm 1 22) [.int x1, .int x2]) := by
  obtain ⟨s, V, I, A, W, U, hg, hR⟩ := hI
  cases s
  · exact ⟨_, hg, ⟨_, rfl⟩, st_coordinate_F G hR x1 x2⟩
  · exact ⟨_, hg, ⟨_, rfl⟩, st_coordinate_T G hR x1 x2⟩
theorem stp_check (G : zG) {J : Nat → Int64} {g : Nat → va_E} (hI : INVS G J g) : ∃ h, (∀ k, k < zN → g k = h k) ∧ (∃ fs, h 0 = zO 6 fs) ∧ (STEP G J h yX6_check wsX6_check (zrm 6 134) yX7_check wsX7_check (zrm 3 71) []) := by
  obtain ⟨s, V, I, A, W, U, hg, hR⟩ := hI
  cases s
  · exact ⟨_, hg, ⟨_, rfl⟩, st_check_F G hR ⟩
  · exact ⟨_, hg, ⟨_, rfl⟩, st_check_T G hR ⟩
theorem stp_meet (G : zG) (hlT : (zl G).stackTraces = false) {J : Nat → Int64} {g : Nat → va_E} (hI : INVS G J g) (x1 x2 : Int32) : ∃ h, (∀ k, k < zN → g k = h k) ∧ STEPM G h yL_meet wsL_meet rmL_meet yX7_meet wsX7_meet (zrm 2 44) [.int x1, .int x2] := by
  obtain ⟨s, V, I, A, W, U, hg, hR⟩ := hI
  cases s
  · exact ⟨_, hg, st_meet_F G hlT hR x1 x2⟩
  · exact ⟨_, hg, st_meet_T G hlT hR x1 x2⟩
theorem stp_meets (G : zG) {J : Nat → Int64} {g : Nat → va_E} (hI : INVS G J g) (x1 x2 : Int32) : ∃ h, (∀ k, k < zN → g k = h k) ∧ (∃ fs, h 0 = zO 6 fs) ∧ (STEP G J h yX6_meets wsX6_meets (zrm 6 133) yX7_meets wsX7_meets (zrm 3 69) [.int x1, .int x2]) := by
  obtain ⟨s, V, I, A, W, U, hg, hR⟩ := hI
  cases s
  · exact ⟨_, hg, ⟨_, rfl⟩, st_meets_F G hR x1 x2⟩
  · exact ⟨_, hg, ⟨_, rfl⟩, st_meets_T G hR x1 x2⟩
theorem stp_pivot (G : zG) (hlT : (zl G).stackTraces = false) {J : Nat → Int64} {g : Nat → va_E} (hI : INVS G J g) (x1 x2 x3 : Int32) : ∃ h, (∀ k, k < zN → g k = h k) ∧ STEPM G h yL_pivot wsL_pivot rmL_pivot yX7_pivot wsX7_pivot (zrm 1 20) [.int x1, .int x2, .int x3] := by
  obtain ⟨s, V, I, A, W, U, hg, hR⟩ := hI
  cases s
  · exact ⟨_, hg, st_pivot_F G hlT hR x1 x2 x3⟩
  · exact ⟨_, hg, st_pivot_T G hlT hR x1 x2 x3⟩
theorem stp_deduce (G : zG) {J : Nat → Int64} {g : Nat → va_E} (hI : INVS G J g) : ∃ h, (∀ k, k < zN → g k = h k) ∧ (∃ fs, h 0 = zO 6 fs) ∧ (STEP G J h yX6_deduce wsX6_deduce (zrm 6 152) yX7_deduce wsX7_deduce (zrm 5 130) []) := by
  obtain ⟨s, V, I, A, W, U, hg, hR⟩ := hI
  cases s
  · exact ⟨_, hg, ⟨_, rfl⟩, st_deduce_F G hR ⟩
  · exact ⟨_, hg, ⟨_, rfl⟩, st_deduce_T G hR ⟩
theorem stp_row (G : zG) {J : Nat → Int64} {g : Nat → va_E} (hI : INVS G J g) (x1 x2 : Int32) : ∃ h, (∀ k, k < zN → g k = h k) ∧ (∃ fs, h 0 = zO 6 fs) ∧ (STEP G J h yX6_row wsX6_row (zrm 1 22) yX7_row wsX7_row (zrm 1 22) [.int x1, .int x2]) := by
  obtain ⟨s, V, I, A, W, U, hg, hR⟩ := hI
  cases s
  · exact ⟨_, hg, ⟨_, rfl⟩, st_row_F G hR x1 x2⟩
  · exact ⟨_, hg, ⟨_, rfl⟩, st_row_T G hR x1 x2⟩
theorem stp_plant (G : zG) {J : Nat → Int64} {g : Nat → va_E} (hI : INVS G J g) (x1 x2 : Int32) : ∃ h, (∀ k, k < zN → g k = h k) ∧ (∃ fs, h 0 = zO 6 fs) ∧ (STEP G J h yX6_plant wsX6_plant (zrm 1 21) yX7_plant wsX7_plant (zrm 1 22) [.int x1, .int x2]) := by
  obtain ⟨s, V, I, A, W, U, hg, hR⟩ := hI
  cases s
  · exact ⟨_, hg, ⟨_, rfl⟩, st_plant_F G hR x1 x2⟩
  · exact ⟨_, hg, ⟨_, rfl⟩, st_plant_T G hR x1 x2⟩
theorem stp_proof (G : zG) {J : Nat → Int64} {g : Nat → va_E} (hI : INVS G J g) : ∃ h, (∀ k, k < zN → g k = h k) ∧ (∃ fs, h 0 = zO 6 fs) ∧ (STEP G J h yX6_proof wsX6_proof (zrm 5 122) yX7_proof wsX7_proof (zrm 4 105) []) := by
  obtain ⟨s, V, I, A, W, U, hg, hR⟩ := hI
  cases s
  · exact ⟨_, hg, ⟨_, rfl⟩, st_proof_F G hR ⟩
  · exact ⟨_, hg, ⟨_, rfl⟩, st_proof_T G hR ⟩
theorem stp_known (G : zG) {J : Nat → Int64} {g : Nat → va_E} (hI : INVS G J g) (x1 x2 x3 : Int32) : ∃ h, (∀ k, k < zN → g k = h k) ∧ (∃ fs, h 0 = zO 6 fs) ∧ (STEP G J h yX6_known wsX6_known (zrm 4 92) yX7_known wsX7_known (zrm 2 49) [.int x1, .int x2, .int x3]) := by
  obtain ⟨s, V, I, A, W, U, hg, hR⟩ := hI
  cases s
  · exact ⟨_, hg, ⟨_, rfl⟩, st_known_F G hR x1 x2 x3⟩
  · exact ⟨_, hg, ⟨_, rfl⟩, st_known_T G hR x1 x2 x3⟩
theorem stp_certificate (G : zG) {J : Nat → Int64} {g : Nat → va_E} (hI : INVS G J g) (x1 x2 : Int32) : ∃ h, (∀ k, k < zN → g k = h k) ∧ (∃ fs, h 0 = zO 6 fs) ∧ (STEP G J h yX6_certificate wsX6_certificate (zrm 5 116) yX7_certificate wsX7_certificate (zrm 3 73) [.int x1, .int x2]) := by
  obtain ⟨s, V, I, A, W, U, hg, hR⟩ := hI
  cases s
  · exact ⟨_, hg, ⟨_, rfl⟩, st_certificate_F G hR x1 x2⟩
  · exact ⟨_, hg, ⟨_, rfl⟩, st_certificate_T G hR x1 x2⟩
theorem stp_kinds (G : zG) {J : Nat → Int64} {g : Nat → va_E} (hI : INVS G J g) (x1 x2 : Int32) : ∃ h, (∀ k, k < zN → g k = h k) ∧ (∃ fs, h 0 = zO 6 fs) ∧ (STEP G J h yX6_kinds wsX6_kinds (zrm 9 226) yX7_kinds wsX7_kinds (zrm 3 74) [.int x1, .int x2]) := by
  obtain ⟨s, V, I, A, W, U, hg, hR⟩ := hI
  cases s
  · exact ⟨_, hg, ⟨_, rfl⟩, st_kinds_F G hR x1 x2⟩
  · exact ⟨_, hg, ⟨_, rfl⟩, st_kinds_T G hR x1 x2⟩
theorem stp_canonical (G : zG) {J : Nat → Int64} {g : Nat → va_E} (hI : INVS G J g) (x1 : Int32) : ∃ h, (∀ k, k < zN → g k = h k) ∧ (∃ fs, h 0 = zO 6 fs) ∧ (STEP G J h yX6_canonical wsX6_canonical (zrm 3 88) yX7_canonical wsX7_canonical (zrm 4 91) [.int x1]) := by
  obtain ⟨s, V, I, A, W, U, hg, hR⟩ := hI
  cases s
  · exact ⟨_, hg, ⟨_, rfl⟩, st_canonical_F G hR x1⟩
  · exact ⟨_, hg, ⟨_, rfl⟩, st_canonical_T G hR x1⟩
theorem stp_orbit (G : zG) {J : Nat → Int64} {g : Nat → va_E} (hI : INVS G J g) (x1 : Int32) : ∃ h, (∀ k, k < zN → g k = h k) ∧ (∃ fs, h 0 = zO 6 fs) ∧ (STEP G J h yX6_orbit wsX6_orbit (zrm 3 88) yX7_orbit wsX7_orbit (zrm 4 91) [.int x1]) := by
  obtain ⟨s, V, I, A, W, U, hg, hR⟩ := hI
  cases s
  · exact ⟨_, hg, ⟨_, rfl⟩, st_orbit_F G hR x1⟩
  · exact ⟨_, hg, ⟨_, rfl⟩, st_orbit_T G hR x1⟩
