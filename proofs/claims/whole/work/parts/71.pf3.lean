section PF3
def M4 (n : Nat) (sg : Nat → Int32) (a b c d : Nat) : Prop := ∀ e, d < e → e < n - 1 → ¬ PD sg a (sga a b) (sga a c) (sga a d) (sga a e)
def M3 (n : Nat) (sg : Nat → Int32) (a b c : Nat) : Prop := ∀ d, c < d → d < n - 1 → M4 n sg a b c d
def M2 (n : Nat) (sg : Nat → Int32) (a b : Nat) : Prop := ∀ c, b < c → c < n - 1 → M3 n sg a b c
def M1 (n : Nat) (sg : Nat → Int32) (a : Nat) : Prop := ∀ b, b < n - 1 → M2 n sg a b
abbrev RC : Type := (Int32) × (Int32) × (Nat → Int32) × (Nat → Int32)
def Q4 (n : Nat) (sg : Nat → Int32) (X : Nat → Nat → Nat → Nat → Nat → RC → Prop) (a b c d : Nat) (r : RC) : Prop := ∃ e, d < e ∧ e < n - 1 ∧ (PD sg a (sga a b) (sga a c) (sga a d) (sga a e) ∧ X a (sga a b) (sga a c) (sga a d) (sga a e) r) ∧ ∀ e', d < e' → e' < e → ¬ PD sg a (sga a b) (sga a c) (sga a d) (sga a e')
def Q3 (n : Nat) (sg : Nat → Int32) (X : Nat → Nat → Nat → Nat → Nat → RC → Prop) (a b c : Nat) (r : RC) : Prop := ∃ d, c < d ∧ d < n - 1 ∧ Q4 n sg X a b c d r ∧ ∀ d', c < d' → d' < d → M4 n sg a b c d'
def Q2 (n : Nat) (sg : Nat → Int32) (X : Nat → Nat → Nat → Nat → Nat → RC → Prop) (a b : Nat) (r : RC) : Prop := ∃ c, b < c ∧ c < n - 1 ∧ Q3 n sg X a b c r ∧ ∀ c', b < c' → c' < c → M3 n sg a b c'
def Q1 (n : Nat) (sg : Nat → Int32) (X : Nat → Nat → Nat → Nat → Nat → RC → Prop) (a : Nat) (r : RC) : Prop := ∃ b, b < n - 1 ∧ Q2 n sg X a b r ∧ ∀ b', b' < b → M2 n sg a b'
variable {n : Nat} {rows outc : Int32} {now sg ba : Nat → Int32}
theorem fk38 (hn : n ≤ 10) (hN : NS3 n now (SGE sg)) (hS : SGI n sg) {a b c : Nat} (ha : a < n) (hb : b < c) (hc : c < n - 1) (z : (Nat → Int32) × (Int32) × (Nat → Int32)) :
    (∀ r, (zfoldB (X0_firstKind_L38_B rows outc now ba n a b c) (X0_firstKind_L38_F rows outc now ba n a b c) ((n - 1) - (c + 1)) (c + 1) z).1 = some r → Q3 n sg (FC n rows outc now ba) a b c r) ∧
    ((zfoldB (X0_firstKind_L38_B rows outc now ba n a b c) (X0_firstKind_L38_F rows outc now ba n a b c) ((n - 1) - (c + 1)) (c + 1) z).1 = none → M3 n sg a b c) := by
  have q := zfoldB_first (n := n - 1) (B := X0_firstKind_L38_B rows outc now ba n a b c) (F := X0_firstKind_L38_F rows outc now ba n a b c)
    (S := fun d r => c < d → Q4 n sg (FC n rows outc now ba) a b c d r) (N := fun d => c < d → M4 n sg a b c d)
    (fun d y r hd hB hcd => (fk50 hn hN hS ha hb hcd hd _).1 r (zpick_some hB)) (fun d y hd hB hcd => (fk50 hn hN hS ha hb hcd hd _).2 (zpick_none hB)) ((n - 1) - (c + 1)) (c + 1) z (by omega)
  refine ⟨fun r hr => ?_, fun h0 d h1 h2 => q.2 h0 d h1 h2 h1⟩
  obtain ⟨d, g1, g2, g3, g4⟩ := q.1 r hr
  exact ⟨d, g1, g2, g3 g1, fun d' h1 h2 => g4 d' h1 h2 h1⟩
theorem fk26 (hn : n ≤ 10) (hN : NS3 n now (SGE sg)) (hS : SGI n sg) {a b : Nat} (ha : a < n) (hb : b < n - 1) (z : (Nat → Int32) × (Int32) × (Nat → Int32)) :
    (∀ r, (zfoldB (X0_firstKind_L26_B rows outc now ba n a b) (X0_firstKind_L26_F rows outc now ba n a b) ((n - 1) - (b + 1)) (b + 1) z).1 = some r → Q2 n sg (FC n rows outc now ba) a b r) ∧
    ((zfoldB (X0_firstKind_L26_B rows outc now ba n a b) (X0_firstKind_L26_F rows outc now ba n a b) ((n - 1) - (b + 1)) (b + 1) z).1 = none → M2 n sg a b) := by
  have q := zfoldB_first (n := n - 1) (B := X0_firstKind_L26_B rows outc now ba n a b) (F := X0_firstKind_L26_F rows outc now ba n a b)
    (S := fun c r => b < c → Q3 n sg (FC n rows outc now ba) a b c r) (N := fun c => b < c → M3 n sg a b c)
    (fun c y r hc hB hbc => (fk38 hn hN hS ha hbc hc _).1 r (zpick_some hB)) (fun c y hc hB hbc => (fk38 hn hN hS ha hbc hc _).2 (zpick_none hB)) ((n - 1) - (b + 1)) (b + 1) z (by omega)
  refine ⟨fun r hr => ?_, fun h0 c h1 h2 => q.2 h0 c h1 h2 h1⟩
  obtain ⟨c, g1, g2, g3, g4⟩ := q.1 r hr
  exact ⟨c, g1, g2, g3 g1, fun c' h1 h2 => g4 c' h1 h2 h1⟩
theorem fk14 (hn : n ≤ 10) (hN : NS3 n now (SGE sg)) (hS : SGI n sg) {a : Nat} (ha : a < n) (z : (Nat → Int32) × (Int32) × (Nat → Int32)) :
    (∀ r, (zfoldB (X0_firstKind_L14_B rows outc now ba n a) (X0_firstKind_L14_F rows outc now ba n a) (n - 1) 0 z).1 = some r → Q1 n sg (FC n rows outc now ba) a r) ∧
    ((zfoldB (X0_firstKind_L14_B rows outc now ba n a) (X0_firstKind_L14_F rows outc now ba n a) (n - 1) 0 z).1 = none → M1 n sg a) := by
  have q := zfoldB_first (n := n - 1) (B := X0_firstKind_L14_B rows outc now ba n a) (F := X0_firstKind_L14_F rows outc now ba n a)
    (S := fun b r => Q2 n sg (FC n rows outc now ba) a b r) (N := fun b => M2 n sg a b)
    (fun b y r hb hB => (fk26 hn hN hS ha hb _).1 r (zpick_some hB)) (fun b y hb hB => (fk26 hn hN hS ha hb _).2 (zpick_none hB)) (n - 1) 0 z (by omega)
  refine ⟨fun r hr => ?_, fun h0 b h2 => q.2 h0 b (Nat.zero_le _) h2⟩
  obtain ⟨b, -, g2, g3, g4⟩ := q.1 r hr
  exact ⟨b, g2, g3, fun b' h2 => g4 b' (Nat.zero_le _) h2⟩
theorem fk6 (hn : n ≤ 10) (hN : NS3 n now (SGE sg)) (hS : SGI n sg) (z : (Nat → Int32) × (Int32) × (Nat → Int32)) :
    (∀ r, (zfoldB (X0_firstKind_L6_B rows outc now ba n) (X0_firstKind_L6_F rows outc now ba n) n 0 z).1 = some r → ∃ a, a < n ∧ Q1 n sg (FC n rows outc now ba) a r ∧ ∀ a', a' < a → M1 n sg a') ∧
    ((zfoldB (X0_firstKind_L6_B rows outc now ba n) (X0_firstKind_L6_F rows outc now ba n) n 0 z).1 = none → ∀ a, a < n → M1 n sg a) := by
  have q := zfoldB_first (n := n) (B := X0_firstKind_L6_B rows outc now ba n) (F := X0_firstKind_L6_F rows outc now ba n)
    (S := fun a r => Q1 n sg (FC n rows outc now ba) a r) (N := fun a => M1 n sg a)
    (fun a y r ha hB => (fk14 hn hN hS ha _).1 r (zpick_some hB)) (fun a y ha hB => (fk14 hn hN hS ha _).2 (zpick_none hB)) n 0 z (by omega)
  refine ⟨fun r hr => ?_, fun h0 a h2 => q.2 h0 a (Nat.zero_le _) h2⟩
  obtain ⟨a, -, g2, g3, g4⟩ := q.1 r hr
  exact ⟨a, g2, g3, fun a' h2 => g4 a' (Nat.zero_le _) h2⟩
theorem M1_V5 {a : Nat} (h : M1 n sg a) {b c d e : Nat} (hv : V5 n a b c d e) : ¬ PD sg a b c d e := by
  obtain ⟨h1, h2, h3, h4, h5, h6, h7, h8, h9⟩ := hv
  obtain ⟨kb, b1, rfl⟩ := sga_inv (x := b) (n := n) (by omega) h6 h1
  obtain ⟨kc, c1, rfl⟩ := sga_inv (x := c) (n := n) (by omega) h7 h1
  obtain ⟨kd, d1, rfl⟩ := sga_inv (x := d) (n := n) (by omega) h8 h1
  obtain ⟨ke, e1, rfl⟩ := sga_inv (x := e) (n := n) h5 h9 h1
  exact h kb b1 kc (sga_lt_iff.mp h2) c1 kd (sga_lt_iff.mp h3) d1 ke (sga_lt_iff.mp h4) e1
/-- the class has found the first one, or there is none -/
theorem first_class (hn : n ≤ 10) (hN : NS3 n now (SGE sg)) (hS : SGI n sg) (z : (Nat → Int32) × (Int32) × (Nat → Int32)) :
    (∀ r, (zfoldB (X0_firstKind_L6_B rows outc now ba n) (X0_firstKind_L6_F rows outc now ba n) n 0 z).1 = some r → ∃ a b c d e, FST n sg a b c d e ∧ FC n rows outc now ba a b c d e r) ∧
    ((zfoldB (X0_firstKind_L6_B rows outc now ba n) (X0_firstKind_L6_F rows outc now ba n) n 0 z).1 = none → ∀ a b c d e, V5 n a b c d e → ¬ PD sg a b c d e) := by
  obtain ⟨q1, q2⟩ := fk6 (rows := rows) (outc := outc) (ba := ba) hn hN hS z
  refine ⟨fun r hr => ?_, fun h0 a b c d e hv => M1_V5 (q2 h0 a hv.1) hv⟩
  obtain ⟨a, ha, ⟨b, hb, ⟨c, hbc, hc, ⟨d, hcd, hd, ⟨e, hde, he, ⟨hP, hX⟩, ne⟩, nd⟩, nc⟩, nb⟩, na⟩ := q1 r hr
  refine ⟨a, sga a b, sga a c, sga a d, sga a e, ⟨⟨ha, sga_mono hbc, sga_mono hcd, sga_mono hde, sga_lt he, sga_ne, sga_ne, sga_ne, sga_ne⟩, hP, ?_, ?_, ?_, ?_, ?_⟩, hX⟩
  · intro e' h1 hv
    obtain ⟨-, -, -, v4, v5, -, -, -, v9⟩ := hv
    obtain ⟨k, k1, rfl⟩ := sga_inv v5 v9 ha
    exact ne k (sga_lt_iff.mp v4) (sga_lt_iff.mp h1)
  · intro d' e' h1 hv
    obtain ⟨-, -, v3, v4, v5, -, -, v8, v9⟩ := hv
    obtain ⟨k, k1, rfl⟩ := sga_inv (n := n) (by omega) v8 ha
    obtain ⟨l, l1, rfl⟩ := sga_inv v5 v9 ha
    exact nd k (sga_lt_iff.mp v3) (sga_lt_iff.mp h1) l (sga_lt_iff.mp v4) l1
  · intro c' d' e' h1 hv
    obtain ⟨-, v2, v3, v4, v5, -, v7, v8, v9⟩ := hv
    obtain ⟨i, i1, rfl⟩ := sga_inv (n := n) (by omega) v7 ha
    obtain ⟨k, k1, rfl⟩ := sga_inv (n := n) (by omega) v8 ha
    obtain ⟨l, l1, rfl⟩ := sga_inv v5 v9 ha
    exact nc i (sga_lt_iff.mp v2) (sga_lt_iff.mp h1) k (sga_lt_iff.mp v3) k1 l (sga_lt_iff.mp v4) l1
  · intro b' c' d' e' h1 hv
    obtain ⟨-, v2, v3, v4, v5, v6, v7, v8, v9⟩ := hv
    obtain ⟨j, j1, rfl⟩ := sga_inv (n := n) (by omega) v6 ha
    obtain ⟨i, i1, rfl⟩ := sga_inv (n := n) (by omega) v7 ha
    obtain ⟨k, k1, rfl⟩ := sga_inv (n := n) (by omega) v8 ha
    obtain ⟨l, l1, rfl⟩ := sga_inv v5 v9 ha
    exact nb j (sga_lt_iff.mp h1) i (sga_lt_iff.mp v2) i1 k (sga_lt_iff.mp v3) k1 l (sga_lt_iff.mp v4) l1
  · intro a' b' c' d' e' h1 hv
    exact M1_V5 (na a' h1) hv
end PF3
