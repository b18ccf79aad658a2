/-! ===== the first relation that makes a row: the reference ===== -/
theorem zfoldY_first {α β : Type} {B : Nat → α → Option (β ⊕ α)} {F : Nat → α → α} {n : Nat} {S : Nat → β → Prop} {N : Nat → Prop} (hs : ∀ i a b, i < n → B i a = some (.inl b) → S i b) (hn : ∀ i a, i < n → B i a = none → N i) (hb : ∀ i a z, i < n → B i a = some (.inr z) → ∀ k, k < n → N k) :
    ∀ (d i : Nat) (a : α), i + d = n → (∀ b, zfoldY B F d i a = .inl b → ∃ j, i ≤ j ∧ j < n ∧ S j b ∧ ∀ k, i ≤ k → k < j → N k) ∧ (∀ z, zfoldY B F d i a = .inr z → ∀ k, i ≤ k → k < n → N k) := by
  intro d
  induction d with
  | zero =>
    intro i a hi
    exact ⟨fun b hb => (by simp only [zfoldY] at hb; cases hb), fun _ _ k h1 h2 => (by omega)⟩
  | succ d ih =>
    intro i a hi
    obtain ⟨r1, r2⟩ := ih (i + 1) (F i a) (by omega)
    simp only [zfoldY]
    cases hB : B i a with
    | some y =>
      cases y with
      | inl b =>
        refine ⟨fun b9 h9 => ?_, fun z h9 => (by cases h9)⟩
        cases h9
        exact ⟨i, Nat.le_refl _, by omega, hs i a _ (by omega) hB, fun k h1 h2 => by omega⟩
      | inr z =>
        exact ⟨fun b9 h9 => (by cases h9), fun z h9 k h1 h2 => hb i a _ (by omega) hB k h2⟩
    | none =>
      refine ⟨fun b9 h9 => ?_, fun z h9 k h1 h2 => ?_⟩
      · obtain ⟨j, g1, g2, g3, g4⟩ := r1 b9 h9
        refine ⟨j, by omega, g2, g3, fun k h1 h2 => ?_⟩
        rcases Nat.eq_or_lt_of_le h1 with e | e
        · rw [← e]; exact hn i a (by omega) hB
        · exact g4 k e h2
      · rcases Nat.eq_or_lt_of_le h1 with e | e
        · rw [← e]; exact hn i a (by omega) hB
        · exact r2 z h9 k e h2
theorem zpY_no {α β γ : Type} {r : β ⊕ α} (h : zpickY r (fun b => some (.inl b : β ⊕ γ)) (fun _ => none) = none) : ∃ z, r = .inr z := by
  cases r with
  | inl b => cases h
  | inr a => exact ⟨a, rfl⟩
theorem zpY_no2 {α β : Type} {r : β ⊕ α} (h : zpickY r (fun b => some b) (fun _ => (none : Option β)) = none) : ∃ z, r = .inr z := by
  cases r with
  | inl b => cases h
  | inr a => exact ⟨a, rfl⟩
section PF4
abbrev RR : Type := (Int32) × (Nat) × (Int32) × (Nat) × (Int32) × (Nat → Int32) × (Nat → Int32) × (Nat → Int32) × (Nat → Int32) × (Nat → Int32) × (Nat → Int32)
def K4 (n : Nat) (sg : Nat → Int32) (a b c d : Nat) : Prop := ∀ e, d < e → e < n → V5 n a b c d e → ¬ PD sg a b c d e
def K3 (n : Nat) (sg : Nat → Int32) (a b c : Nat) : Prop := ∀ d, c < d → d < n → K4 n sg a b c d
def K2 (n : Nat) (sg : Nat → Int32) (a b : Nat) : Prop := ∀ c, b < c → c < n → K3 n sg a b c
def K1 (n : Nat) (sg : Nat → Int32) (a : Nat) : Prop := ∀ b, b < n → K2 n sg a b
variable {n brs rws : Nat} {bm sg rk rt rs rf : Nat → Int32}
/-- what the reference has found, at last -/
def FR (brs rws : Nat) (bm sg rk rt rs rf : Nat → Int32) (a b c d e : Nat) (r : RR) : Prop := ∃ z, X7_follows_L62_B brs rws bm sg rk rt rs rf a b c d e z = some (.inl r)
def P4 (n brs rws : Nat) (bm sg rk rt rs rf : Nat → Int32) (a b c d : Nat) (r : RR) : Prop := ∃ e, d < e ∧ e < n ∧ (V5 n a b c d e ∧ PD sg a b c d e ∧ FR brs rws bm sg rk rt rs rf a b c d e r) ∧ ∀ e', d < e' → e' < e → V5 n a b c d e' → ¬ PD sg a b c d e'
def P3 (n brs rws : Nat) (bm sg rk rt rs rf : Nat → Int32) (a b c : Nat) (r : RR) : Prop := ∃ d, c < d ∧ d < n ∧ P4 n brs rws bm sg rk rt rs rf a b c d r ∧ ∀ d', c < d' → d' < d → K4 n sg a b c d'
def P2 (n brs rws : Nat) (bm sg rk rt rs rf : Nat → Int32) (a b : Nat) (r : RR) : Prop := ∃ c, b < c ∧ c < n ∧ P3 n brs rws bm sg rk rt rs rf a b c r ∧ ∀ c', b < c' → c' < c → K3 n sg a b c'
def P1 (n brs rws : Nat) (bm sg rk rt rs rf : Nat → Int32) (a : Nat) (r : RR) : Prop := ∃ b, b < n ∧ P2 n brs rws bm sg rk rt rs rf a b r ∧ ∀ b', b' < b → K2 n sg a b'
theorem nI_ne {x y : Nat} (hx : x < 10) (hy : y < 10) : nI x = nI y ↔ x = y := nI_eq (by omega) (by omega)
theorem nI_z {x : Nat} (hx : x < 10) : nI x = 0 ↔ x = 0 := nI_eq (b := 0) (by omega) (by decide)
theorem work_c {sg sx : Nat → Int32} {a b c d e : Nat} : X7_work_p76_13 sg sx a b c d e < 10 := by
  rw [work_13]
  rcases wkD_c (L := X7_laySix_c101 sg sx a b c d e) with q | q | q <;> omega
theorem ff62 (hn : n ≤ 10) {a b c d : Nat} (ha : a < n) (hb : b < c) (hc : c < d) (hd : d < n) (h1 : b ≠ a) (h2 : c ≠ a) (y : (Nat → Int32) × (Int32) × (Nat) × (Int32)) :
    (∀ r, zfoldY (X7_follows_L62_B brs rws bm sg rk rt rs rf a b c d) (X7_follows_L62_F sg a b c d) (n - (d + 1)) (d + 1) y = .inl r → P4 n brs rws bm sg rk rt rs rf a b c d r) ∧
    (∀ z, zfoldY (X7_follows_L62_B brs rws bm sg rk rt rs rf a b c d) (X7_follows_L62_F sg a b c d) (n - (d + 1)) (d + 1) y = .inr z → K4 n sg a b c d) := by
  have q := zfoldY_first (n := n) (B := X7_follows_L62_B brs rws bm sg rk rt rs rf a b c d) (F := X7_follows_L62_F sg a b c d)
    (S := fun e r => d < e → (V5 n a b c d e ∧ PD sg a b c d e ∧ FR brs rws bm sg rk rt rs rf a b c d e r)) (N := fun e => d < e → V5 n a b c d e → ¬ PD sg a b c d e)
    (fun e w r he hB hde => ?_) (fun e w he hB hde hv => ?_) (fun e w z he hB k hk hdk hv => ?_) (n - (d + 1)) (d + 1) y (by omega)
  · refine ⟨fun r hr => ?_, fun z h0 e g1 g2 => q.2 z h0 e g1 g2 g1⟩
    obtain ⟨e, g1, g2, g3, g4⟩ := q.1 r hr
    exact ⟨e, g1, g2, g3 g1, fun e' u1 u2 => g4 e' u1 u2 u1⟩
  · have hB0 := hB
    unfold X7_follows_L62_B at hB
    split at hB
    · cases hB
    · rename_i c1
      split at hB
      · cases hB
      · rename_i c2
        split at hB
        · cases hB
        · rename_i c3
          have d1 : d ≠ a := fun z => c1 (by rw [z])
          have e1 : e ≠ a := fun z => c2 (by rw [z])
          refine ⟨⟨ha, hb, hc, hde, he, h1, h2, d1, e1⟩, ?_, w, hB0⟩
          exact PD_iff.mp (fun z => c3 (by rw [z]; rfl))
  · unfold X7_follows_L62_B at hB
    split at hB
    · cases hB
    · split at hB
      · rename_i c2
        exact absurd ((nI_ne (by omega) (by omega)).mp c2) hv.2.2.2.2.2.2.2.2
      · split at hB
        · rename_i c3
          exact fun z => (PD_iff.mpr z) ((nI_z work_c).mp c3)
        · cases hB
  · unfold X7_follows_L62_B at hB
    split at hB
    · rename_i c1
      exact absurd ((nI_ne (by omega) (by omega)).mp c1) hv.2.2.2.2.2.2.2.1
    · split at hB
      · cases hB
      · split at hB
        · cases hB
        · cases hB
theorem ff42 (hn : n ≤ 10) {a b c : Nat} (ha : a < n) (hb : b < c) (hc : c < n) (h1 : b ≠ a) (y : (Nat → Int32) × (Int32) × (Nat) × (Int32)) :
    (∀ r, zfoldY (X7_follows_L42_B n brs rws bm sg rk rt rs rf a b c) (X7_follows_L42_F n brs rws bm sg rk rt rs rf a b c) (n - (c + 1)) (c + 1) y = .inl r → P3 n brs rws bm sg rk rt rs rf a b c r) ∧
    (∀ z, zfoldY (X7_follows_L42_B n brs rws bm sg rk rt rs rf a b c) (X7_follows_L42_F n brs rws bm sg rk rt rs rf a b c) (n - (c + 1)) (c + 1) y = .inr z → K3 n sg a b c) := by
  have q := zfoldY_first (n := n) (B := X7_follows_L42_B n brs rws bm sg rk rt rs rf a b c) (F := X7_follows_L42_F n brs rws bm sg rk rt rs rf a b c)
    (S := fun d r => c < d → P4 n brs rws bm sg rk rt rs rf a b c d r) (N := fun d => c < d → K4 n sg a b c d)
    (fun d w r hd hB hcd => ?_) (fun d w hd hB hcd => ?_) (fun d w z hd hB k hk hck => ?_) (n - (c + 1)) (c + 1) y (by omega)
  · refine ⟨fun r hr => ?_, fun z h0 d g1 g2 => q.2 z h0 d g1 g2 g1⟩
    obtain ⟨d, g1, g2, g3, g4⟩ := q.1 r hr
    exact ⟨d, g1, g2, g3 g1, fun d' u1 u2 => g4 d' u1 u2 u1⟩
  · unfold X7_follows_L42_B at hB
    split at hB
    · cases hB
    · rename_i c1
      exact (ff62 hn ha hb hcd hd h1 (fun z => c1 (by rw [z])) _).1 r (zpY_in hB)
  · unfold X7_follows_L42_B at hB
    split at hB
    · cases hB
    · rename_i c1
      obtain ⟨z, hz⟩ := zpY_no hB
      exact (ff62 hn ha hb hcd hd h1 (fun z => c1 (by rw [z])) _).2 z hz
  · unfold X7_follows_L42_B at hB
    split at hB
    · rename_i c1
      exact fun e _ _ hv => absurd ((nI_ne (by omega) (by omega)).mp c1) hv.2.2.2.2.2.2.1
    · exact zpY_nb hB
theorem ff24 (hn : n ≤ 10) {a b : Nat} (ha : a < n) (hb : b < n) (y : (Nat → Int32) × (Int32) × (Nat) × (Int32)) :
    (∀ r, zfoldY (X7_follows_L24_B n brs rws bm sg rk rt rs rf a b) (X7_follows_L24_F n brs rws bm sg rk rt rs rf a b) (n - (b + 1)) (b + 1) y = .inl r → P2 n brs rws bm sg rk rt rs rf a b r) ∧
    (∀ z, zfoldY (X7_follows_L24_B n brs rws bm sg rk rt rs rf a b) (X7_follows_L24_F n brs rws bm sg rk rt rs rf a b) (n - (b + 1)) (b + 1) y = .inr z → K2 n sg a b) := by
  have q := zfoldY_first (n := n) (B := X7_follows_L24_B n brs rws bm sg rk rt rs rf a b) (F := X7_follows_L24_F n brs rws bm sg rk rt rs rf a b)
    (S := fun c r => b < c → P3 n brs rws bm sg rk rt rs rf a b c r) (N := fun c => b < c → K3 n sg a b c)
    (fun c w r hc hB hbc => ?_) (fun c w hc hB hbc => ?_) (fun c w z hc hB k hk hbk => ?_) (n - (b + 1)) (b + 1) y (by omega)
  · refine ⟨fun r hr => ?_, fun z h0 c g1 g2 => q.2 z h0 c g1 g2 g1⟩
    obtain ⟨c, g1, g2, g3, g4⟩ := q.1 r hr
    exact ⟨c, g1, g2, g3 g1, fun c' u1 u2 => g4 c' u1 u2 u1⟩
  · unfold X7_follows_L24_B at hB
    split at hB
    · cases hB
    · rename_i c1
      exact (ff42 hn ha hbc hc (fun z => c1 (by rw [z])) _).1 r (zpY_in hB)
  · unfold X7_follows_L24_B at hB
    split at hB
    · cases hB
    · rename_i c1
      obtain ⟨z, hz⟩ := zpY_no hB
      exact (ff42 hn ha hbc hc (fun z => c1 (by rw [z])) _).2 z hz
  · unfold X7_follows_L24_B at hB
    split at hB
    · rename_i c1
      exact fun d _ _ e _ _ hv => absurd ((nI_ne (by omega) (by omega)).mp c1) hv.2.2.2.2.2.1
    · exact zpY_nb hB
theorem ff12 (hn : n ≤ 10) {a : Nat} (ha : a < n) (y : (Nat → Int32) × (Int32) × (Nat) × (Int32)) :
    (∀ r, (zfoldB (X7_follows_L12_B n brs rws bm sg rk rt rs rf a) (X7_follows_L12_F n brs rws bm sg rk rt rs rf a) n 0 y).1 = some r → P1 n brs rws bm sg rk rt rs rf a r) ∧
    ((zfoldB (X7_follows_L12_B n brs rws bm sg rk rt rs rf a) (X7_follows_L12_F n brs rws bm sg rk rt rs rf a) n 0 y).1 = none → K1 n sg a) := by
  have q := zfoldB_first (n := n) (B := X7_follows_L12_B n brs rws bm sg rk rt rs rf a) (F := X7_follows_L12_F n brs rws bm sg rk rt rs rf a)
    (S := fun b r => P2 n brs rws bm sg rk rt rs rf a b r) (N := fun b => K2 n sg a b)
    (fun b w r hb hB => (ff24 hn ha hb _).1 r (zpY_so hB)) (fun b w hb hB => by obtain ⟨z, hz⟩ := zpY_no2 hB; exact (ff24 hn ha hb _).2 z hz) n 0 y (by omega)
  refine ⟨fun r hr => ?_, fun h0 b h2 => q.2 h0 b (Nat.zero_le _) h2⟩
  obtain ⟨b, -, g2, g3, g4⟩ := q.1 r hr
  exact ⟨b, g2, g3, fun b' h2 => g4 b' (Nat.zero_le _) h2⟩
theorem K1_V5 {a : Nat} (h : K1 n sg a) {b c d e : Nat} (hv : V5 n a b c d e) : ¬ PD sg a b c d e := by
  obtain ⟨h1, h2, h3, h4, h5, h6, h7, h8, h9⟩ := id hv
  exact h b (by omega) c h2 (by omega) d h3 (by omega) e h4 h5 hv
theorem first_ref (hn : n ≤ 10) (y : (Nat → Int32) × (Int32) × (Nat) × (Int32)) :
    (∀ r, (zfoldB (X7_follows_L2_B n brs rws bm sg rk rt rs rf) (X7_follows_L2_F n brs rws bm sg rk rt rs rf) n 0 y).1 = some r → ∃ a b c d e, FST n sg a b c d e ∧ FR brs rws bm sg rk rt rs rf a b c d e r) ∧
    ((zfoldB (X7_follows_L2_B n brs rws bm sg rk rt rs rf) (X7_follows_L2_F n brs rws bm sg rk rt rs rf) n 0 y).1 = none → ∀ a b c d e, V5 n a b c d e → ¬ PD sg a b c d e) := by
  have q := zfoldB_first (n := n) (B := X7_follows_L2_B n brs rws bm sg rk rt rs rf) (F := X7_follows_L2_F n brs rws bm sg rk rt rs rf)
    (S := fun a r => P1 n brs rws bm sg rk rt rs rf a r) (N := fun a => K1 n sg a)
    (fun a w r ha hB => (ff12 hn ha _).1 r (zpick_some hB)) (fun a w ha hB => (ff12 hn ha _).2 (zpick_none hB)) n 0 y (by omega)
  refine ⟨fun r hr => ?_, fun h0 a b c d e hv => K1_V5 (q.2 h0 a (Nat.zero_le _) hv.1) hv⟩
  obtain ⟨a, -, ha, ⟨b, hb, ⟨c, hbc, hc, ⟨d, hcd, hd, ⟨e, hde, he, ⟨hV, hP, hX⟩, ne⟩, nd⟩, nc⟩, nb⟩, na⟩ := q.1 r hr
  refine ⟨a, b, c, d, e, ⟨hV, hP, ?_, ?_, ?_, ?_, ?_⟩, hX⟩
  · exact fun e' u1 hv => ne e' hv.2.2.2.1 u1 hv
  · exact fun d' e' u1 hv => nd d' hv.2.2.1 u1 e' hv.2.2.2.1 hv.2.2.2.2.1 hv
  · exact fun c' d' e' u1 hv => nc c' hv.2.1 u1 d' hv.2.2.1 (by obtain ⟨v1, v2, v3, v4, v5, -⟩ := hv; omega) e' hv.2.2.2.1 hv.2.2.2.2.1 hv
  · exact fun b' c' d' e' u1 hv => nb b' u1 c' hv.2.1 (by obtain ⟨v1, v2, v3, v4, v5, -⟩ := hv; omega) d' hv.2.2.1 (by obtain ⟨v1, v2, v3, v4, v5, -⟩ := hv; omega) e' hv.2.2.2.1 hv.2.2.2.2.1 hv
  · exact fun a' b' c' d' e' u1 hv => K1_V5 (na a' (Nat.zero_le _) u1) hv
end PF4
