/-! ===== the law: its loop, its set-up ===== -/
theorem law_top {G : zG} {b9 L9 : Nat} {xs9 : Nat → Int32} {i : Nat} {o5 o6 : Option Value} {h : zAH} {cu su : Nat} (hL : L9 ≤ 2560) (hi : i ≤ 2560) (kx : L9 < i + 5 → ZL G b9 L9 xs9 925 (lvL G b9 i o5 o6) [] h cu su) (kb : i + 5 ≤ L9 → ZL G b9 L9 xs9 32 (lvL G b9 i o5 o6) [] h cu su) : ZL G b9 L9 xs9 23 (lvL G b9 i o5 o6) [] h cu su := by
  refine zs_iload dL_law_23 rfl rfl ?_
  refine zs_aload_n (k := 0) dL_law_25 rfl rfl ?_
  refine zs_slen dL_law_26 rfl ?_
  refine zs_iconst (v := nI 5) dL_law_27 rfl (by decide) ?_
  refine zs_isub dL_law_28 rfl ?_
  exact zs_icmp_gt (tgt := 925) dL_law_29 rfl (by decide) (fun c => kx ((lt5 hL hi).mp c)) (fun c => kb (by
    have c2 : ¬ L9 < i + 5 := fun u => c ((lt5 hL hi).mpr u)
    omega))
theorem law_body {G : zG} {b9 L9 : Nat} {xs9 : Nat → Int32} {t : Nat} {o5 o6 : Option Value} {J : Nat → Int64} {g : Nat → va_E} (hlT : (zl G).stackTraces = false) (hL : L9 ≤ 2560) (ht : 5 * t + 4 < L9) (hI : INVS G J g)
    (K : ∀ (J' : Nat → Int64) (g' : Nat → va_E) (o5' o6' : Option Value), INVS G J' g' → ZL G b9 L9 xs9 919 (lvL G b9 (5 * t) o5' o6') [] (zN, g') (113 + t + 1) (7400 + 6 * t + 6)) : ZL G b9 L9 xs9 32 (lvL G b9 (5 * t) o5 o6) [] (zN, g) (113 + t) (7400 + 6 * t) := by
  refine zs_aload_n (k := 0) dL_law_32 rfl rfl ?_
  refine zs_iload dL_law_33 rfl rfl ?_
  refine zs_sld dL_law_35 rfl (vp_in_nI (by omega) (by omega)) ?_
  refine zs_bipush (v := 31) dL_law_36 rfl (by decide) ?_
  refine zs_iand dL_law_38 rfl ?_
  obtain ⟨k, hk, e⟩ := an31 (xs9 (nI (5 * t)).toNatClampNeg)
  rw [e]
  have K' : ∀ (J' : Nat → Int64) (g' : Nat → va_E) (o5' o6' : Option Value), INVS G J' g' → ZL G b9 L9 xs9 919 (lvL G b9 (5 * t) o5' o6') [] (zN, g') (113 + t) (7400 + 6 * t) := fun J' g' o5' o6' hI' => zs_widen (by omega) (by omega) (K J' g' o5' o6' hI')
  match k, hk with
  | 0, _ => exact zs_tableIn (tgt := 136) (off := 97) dL_law_39 (by decide) (by decide) rfl (by decide) (lc_sign hL ht hI (by omega) (by omega) K')
  | 1, _ => exact zs_tableIn (tgt := 161) (off := 122) dL_law_39 (by decide) (by decide) rfl (by decide) (lc_read hL ht hI (by omega) (by omega) K')
  | 2, _ => exact zs_tableIn (tgt := 174) (off := 135) dL_law_39 (by decide) (by decide) rfl (by decide) (lc_count hL ht hI (by omega) (by omega) K')
  | 3, _ => exact zs_tableIn (tgt := 199) (off := 160) dL_law_39 (by decide) (by decide) rfl (by decide) (lc_line hL ht hI (by omega) (by omega) K')
  | 4, _ => exact zs_tableIn (tgt := 264) (off := 225) dL_law_39 (by decide) (by decide) rfl (by decide) (lc_bar hL ht hI (by omega) (by omega) K')
  | 5, _ => exact zs_tableIn (tgt := 313) (off := 274) dL_law_39 (by decide) (by decide) rfl (by decide) (lc_orient hL ht hI (by omega) (by omega) K')
  | 6, _ => exact zs_tableIn (tgt := 374) (off := 335) dL_law_39 (by decide) (by decide) rfl (by decide) (lc_realise hL ht hI (by omega) (by omega) K')
  | 7, _ => exact zs_tableIn (tgt := 411) (off := 372) dL_law_39 (by decide) (by decide) rfl (by decide) (lc_coordinate hL ht hI (by omega) (by omega) K')
  | 8, _ => exact zs_tableIn (tgt := 448) (off := 409) dL_law_39 (by decide) (by decide) rfl (by decide) (lc_check hL ht hI (by omega) (by omega) K')
  | 9, _ => exact zs_tableIn (tgt := 461) (off := 422) dL_law_39 (by decide) (by decide) rfl (by decide) (lc_meet hlT hL ht hI (by omega) (by omega) K)
  | 10, _ => exact zs_tableIn (tgt := 529) (off := 490) dL_law_39 (by decide) (by decide) rfl (by decide) (lc_meets hL ht hI (by omega) (by omega) K')
  | 11, _ => exact zs_tableIn (tgt := 566) (off := 527) dL_law_39 (by decide) (by decide) rfl (by decide) (lc_pivot hlT hL ht hI (by omega) (by omega) K)
  | 12, _ => exact zs_tableIn (tgt := 646) (off := 607) dL_law_39 (by decide) (by decide) rfl (by decide) (lc_deduce hL ht hI (by omega) (by omega) K')
  | 13, _ => exact zs_tableIn (tgt := 659) (off := 620) dL_law_39 (by decide) (by decide) rfl (by decide) (lc_row hL ht hI (by omega) (by omega) K')
  | 14, _ => exact zs_tableIn (tgt := 696) (off := 657) dL_law_39 (by decide) (by decide) rfl (by decide) (lc_plant hL ht hI (by omega) (by omega) K')
  | 15, _ => exact zs_tableIn (tgt := 733) (off := 694) dL_law_39 (by decide) (by decide) rfl (by decide) (lc_proof hL ht hI (by omega) (by omega) K')
  | 16, _ => exact zs_tableIn (tgt := 746) (off := 707) dL_law_39 (by decide) (by decide) rfl (by decide) (lc_known hL ht hI (by omega) (by omega) K')
  | 17, _ => exact zs_tableIn (tgt := 795) (off := 756) dL_law_39 (by decide) (by decide) rfl (by decide) (lc_certificate hL ht hI (by omega) (by omega) K')
  | 18, _ => exact zs_tableIn (tgt := 832) (off := 793) dL_law_39 (by decide) (by decide) rfl (by decide) (lc_kinds hL ht hI (by omega) (by omega) K')
  | 19, _ => exact zs_tableIn (tgt := 869) (off := 830) dL_law_39 (by decide) (by decide) rfl (by decide) (lc_canonical hL ht hI (by omega) (by omega) K')
  | 20, _ => exact zs_tableIn (tgt := 894) (off := 855) dL_law_39 (by decide) (by decide) rfl (by decide) (lc_orbit hL ht hI (by omega) (by omega) K')
  | 21, _ => exact zs_tableOut (tgt := 919) dL_law_39 (Or.inr (by decide)) (by decide) (K' _ _ _ _ hI)
  | 22, _ => exact zs_tableOut (tgt := 919) dL_law_39 (Or.inr (by decide)) (by decide) (K' _ _ _ _ hI)
  | 23, _ => exact zs_tableOut (tgt := 919) dL_law_39 (Or.inr (by decide)) (by decide) (K' _ _ _ _ hI)
  | 24, _ => exact zs_tableOut (tgt := 919) dL_law_39 (Or.inr (by decide)) (by decide) (K' _ _ _ _ hI)
  | 25, _ => exact zs_tableOut (tgt := 919) dL_law_39 (Or.inr (by decide)) (by decide) (K' _ _ _ _ hI)
  | 26, _ => exact zs_tableOut (tgt := 919) dL_law_39 (Or.inr (by decide)) (by decide) (K' _ _ _ _ hI)
  | 27, _ => exact zs_tableOut (tgt := 919) dL_law_39 (Or.inr (by decide)) (by decide) (K' _ _ _ _ hI)
  | 28, _ => exact zs_tableOut (tgt := 919) dL_law_39 (Or.inr (by decide)) (by decide) (K' _ _ _ _ hI)
  | 29, _ => exact zs_tableOut (tgt := 919) dL_law_39 (Or.inr (by decide)) (by decide) (K' _ _ _ _ hI)
  | 30, _ => exact zs_tableOut (tgt := 919) dL_law_39 (Or.inr (by decide)) (by decide) (K' _ _ _ _ hI)
  | 31, _ => exact zs_tableOut (tgt := 919) dL_law_39 (Or.inr (by decide)) (by decide) (K' _ _ _ _ hI)
  | k + 32, q => exact absurd q (by omega)
theorem law_loop {G : zG} {b9 L9 : Nat} {xs9 : Nat → Int32} (hlT : (zl G).stackTraces = false) (hL : L9 ≤ 2560) : ∀ (d t : Nat), L9 ≤ 5 * t + 5 * d → 5 * t ≤ 2560 → ∀ (J : Nat → Int64) (g : Nat → va_E) (o5 o6 : Option Value), INVS G J g → ZL G b9 L9 xs9 23 (lvL G b9 (5 * t) o5 o6) [] (zN, g) (113 + t) (7400 + 6 * t) := by
  intro d
  induction d with
  | zero =>
    intro t h1 h2 J g o5 o6 hI
    refine law_top hL h2 (fun _ => ?_) (fun c => absurd c (by omega))
    refine zs_iconst (v := nI 1) dL_law_925 rfl (by decide) ?_
    exact zs_ret1 dL_law_926 (by omega) (by omega)
  | succ d ih =>
    intro t h1 h2 J g o5 o6 hI
    refine law_top hL h2 (fun _ => ?_) (fun c => ?_)
    · refine zs_iconst (v := nI 1) dL_law_925 rfl (by decide) ?_
      exact zs_ret1 dL_law_926 (by omega) (by omega)
    · refine law_body hlT hL (by omega) hI (fun J' g' o5' o6' hI' => ?_)
      refine zs_iinc_4 (v := nI (5 * (t + 1))) dL_law_919 rfl (by rw [show Int32.ofInt 5 = nI 5 by decide, nI_add]; rfl) ?_
      refine zs_goto (tgt := 23) dL_law_922 (by decide) ?_
      exact zs_widen (cu' := 113 + (t + 1)) (su' := 7400 + 6 * (t + 1)) (by omega) (by omega) (ih (t + 1) (by omega) (by omega) J' g' o5' o6' hI')
set_option maxRecDepth 20000 in
theorem meL_law_cl8 : Cond.classLink RL 8 RX6 ∈ zws mL_law := by
  show Cond.classLink RL 8 RX6 ∈ wsL_law
  decide +kernel
set_option maxRecDepth 20000 in
theorem meL_law_in6 : Cond.instantiable RX6 8 ∈ zws mL_law := by
  show Cond.instantiable RX6 8 ∈ wsL_law
  decide +kernel
set_option maxRecDepth 20000 in
theorem meL_law_ii6 : Cond.initialized RX6 ∈ zws mL_law := by
  show Cond.initialized RX6 ∈ wsL_law
  decide +kernel
set_option maxRecDepth 20000 in
theorem meL_law_cl20 : Cond.classLink RL 20 RX7 ∈ zws mL_law := by
  show Cond.classLink RL 20 RX7 ∈ wsL_law
  decide +kernel
set_option maxRecDepth 20000 in
theorem meL_law_in7 : Cond.instantiable RX7 53 ∈ zws mL_law := by
  show Cond.instantiable RX7 53 ∈ wsL_law
  decide +kernel
set_option maxRecDepth 20000 in
theorem meL_law_ii7 : Cond.initialized RX7 ∈ zws mL_law := by
  show Cond.initialized RX7 ∈ wsL_law
  decide +kernel
set_option maxRecDepth 20000 in
theorem meL_law_aL : Cond.arrayClass .long ∈ zws mL_law := by
  show Cond.arrayClass .long ∈ wsL_law
  decide +kernel
set_option maxRecDepth 20000 in
theorem meL_law_ml19 : Cond.methodLink RL 19 yX6_init ∈ zws mL_law := by
  show Cond.methodLink RL 19 yX6_init ∈ wsL_law
  decide +kernel
set_option maxRecDepth 20000 in
theorem meL_law_im6 : Cond.instanceMethod yX6_init ∈ zws mL_law := by
  show Cond.instanceMethod yX6_init ∈ wsL_law
  decide +kernel
set_option maxRecDepth 20000 in
theorem meL_law_ml22 : Cond.methodLink RL 22 yX7_init ∈ zws mL_law := by
  show Cond.methodLink RL 22 yX7_init ∈ wsL_law
  decide +kernel
set_option maxRecDepth 20000 in
theorem meL_law_im7 : Cond.instanceMethod yX7_init ∈ zws mL_law := by
  show Cond.instanceMethod yX7_init ∈ wsL_law
  decide +kernel
theorem rels0 : RELS (fun _ => 0) (fun j => if j = 6 then -4 else if j = 10 then -4 else 0) (fun j => if j = 75 then fillF 35 (-1) (fun _ => 0) else fun _ => 0) (fun _ _ => 0) :=
  ⟨⟨Nat.zero_le _, Nat.zero_le _, fun h => absurd h (by decide), fun k hk => absurd hk (Nat.not_lt_zero k), fun l hl => absurd hl (Nat.not_lt_zero l)⟩,
   ⟨fun k => Or.inr (Or.inl rfl), fun x y z h1 h2 h3 => absurd h3 (Nat.not_lt_zero z), fun x y z h1 h2 h3 => absurd h3 (Nat.not_lt_zero z)⟩,
   ⟨rfl, Or.inl rfl, ⟨0, Or.inl rfl, rfl⟩, Or.inl rfl, fun q => absurd rfl q⟩, fun k hk => absurd hk (Nat.not_lt_zero k), ⟨fun q => absurd rfl q, fun q => absurd rfl q⟩,
   fun n m h1 h2 h3 => ⟨Or.inl (by show fillF 35 (-1) (fun _ => 0) (5 * n + m) = -1; unfold fillF; rw [fill_at (n := 0), if_pos (by omega)]), Or.inl rfl⟩,
   Nat.zero_le _, fun k hk => absurd hk (Nat.not_lt_zero k), Nat.zero_le _, Nat.zero_le _, Nat.zero_le _, Or.inl rfl, Nat.zero_le _, Nat.le_of_ble_eq_true rfl, fun _ => rfl⟩
set_option maxRecDepth 100000 in
set_option maxHeartbeats 4000000 in
theorem law_start {G : zG} {b9 L9 : Nat} {xs9 : Nat → Int32} (hlT : (zl G).stackTraces = false) (hL : L9 ≤ 2560) (g0 : Nat → va_E) : ZS G mL_law rmW true b9 L9 xs9 lw_Z 0 [some (.ref b9), none, none, none, none, none, none] [] (0, g0) 0 0 := by
  refine zs_newo (fs := [.null, .int 0, .null, .null, .null, .null, .null, .null]) (ci := 6) tyX6 tyX6_ok dL_law_0 rfl inlX6 meL_law_cl8 meL_law_in6 meL_law_ii6 rfl (by decide +kernel) (Nat.le_of_ble_eq_true rfl) (Nat.le_of_ble_eq_true rfl) ?_
  refine zs_dup dL_law_3 rfl rfl ?_
  refine zs_callIv (As := []) (c_X6_init_0 G _ rfl) gL_law_X6_init rfl dL_law_4 rfl meL_law_ii6 meL_law_ml19 meL_law_im6 rfl rfl okk_X6_init ⟨Nat.le_of_ble_eq_true rfl, Nat.le_of_ble_eq_true rfl⟩ ⟨Nat.le_of_ble_eq_true rfl, Nat.le_of_ble_eq_true rfl⟩ (Nat.le_of_ble_eq_true rfl) ?_
  refine zs_astore_1 dL_law_7 rfl ?_
  refine zs_newo (fs := [.int 0, .null, .int 0, .int 0, .int 0, .null, .null, .null, .null, .null, .int 0, .null, .null, .null, .int 0, .null, .int 0, .null, .null, .int 0, .int 0, .int 0, .null, .null, .null, .int 0, .null, .null, .null, .null, .null, .int 0, .int 0, .null, .null, .null, .null, .null, .int 0, .int 0, .int 0, .null, .null, .null, .null, .null, .null, .int 0, .null, .null, .int 0, .null, .null]) (ci := 7) tyX7 tyX7_ok dL_law_8 rfl inlX7 meL_law_cl20 meL_law_in7 meL_law_ii7 rfl (by decide +kernel) (Nat.le_of_ble_eq_true rfl) (Nat.le_of_ble_eq_true rfl) ?_
  refine zs_dup dL_law_11 rfl rfl ?_
  refine zs_callIv (As := []) (c_X7_init_76 G _ rfl) gL_law_X7_init rfl dL_law_12 rfl meL_law_ii7 meL_law_ml22 meL_law_im7 rfl rfl okk_X7_init ⟨Nat.le_of_ble_eq_true rfl, Nat.le_of_ble_eq_true rfl⟩ ⟨Nat.le_of_ble_eq_true rfl, Nat.le_of_ble_eq_true rfl⟩ (Nat.le_of_ble_eq_true rfl) ?_
  refine zs_astore_2 dL_law_15 rfl ?_
  refine zs_iconst (v := nI 1) dL_law_16 rfl (by decide) ?_
  refine zs_newJ (N := 1) dL_law_17 rfl meL_law_aL (Nat.le_of_ble_eq_true rfl) (Nat.le_of_ble_eq_true rfl) (Nat.le_of_ble_eq_true rfl) ?_
  refine zs_astore_3 dL_law_19 rfl ?_
  refine zs_iconst (v := nI 0) dL_law_20 rfl (by decide) ?_
  refine zs_istore_4 dL_law_21 rfl ?_
  refine zs_weak ?_
  refine zs_widen (cu' := 113 + 0) (su' := 7400 + 6 * 0) (Nat.le_of_ble_eq_true rfl) (Nat.le_of_ble_eq_true rfl) ?_
  refine law_loop hlT hL 512 0 (by omega) (by omega) (fun _ => 0) _ none none ?_
  exact ⟨true, fun _ => 0, fun j => if j = 6 then -4 else if j = 10 then -4 else 0, fun j => if j = 75 then fillF 35 (-1) (fun _ => 0) else fun _ => 0, fun _ _ => 0, fun _ _ => 0, all113 ⟨rfl, rfl, rfl, rfl, rfl, rfl, rfl, rfl, rfl, rfl, rfl, rfl, rfl, rfl, rfl, rfl, rfl, rfl, rfl, rfl, rfl, rfl, rfl, rfl, rfl, rfl, rfl, rfl, rfl, rfl, rfl, rfl, rfl, rfl, rfl, rfl, rfl, rfl, rfl, rfl, rfl, rfl, rfl, rfl, rfl, rfl, rfl, rfl, rfl, rfl, rfl, rfl, rfl, rfl, rfl, rfl, rfl, rfl, rfl, rfl, rfl, rfl, rfl, rfl, rfl, rfl, rfl, rfl, rfl, rfl, rfl, rfl, rfl, rfl, rfl, rfl, rfl, rfl, rfl, rfl, rfl, rfl, rfl, rfl, rfl, rfl, rfl, rfl, rfl, rfl, rfl, rfl, rfl, rfl, rfl, rfl, rfl, rfl, rfl, rfl, rfl, rfl, rfl, rfl, rfl, rfl, rfl, rfl, rfl, rfl, rfl, rfl, rfl⟩, rels0⟩
