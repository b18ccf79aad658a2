/-! ===== kinds: the twenty answers ===== -/
def KN (n m : Nat) : Nat := [[1, 1, 0, 0, 0], [1, 1, 0, 0, 0], [1, 1, 1, 0, 0], [1, 1, 2, 1, 1]].getD (n - 3) [] |>.getD m 0
set_option maxRecDepth 1000000 in
theorem kc_3_0 : KC 3 0 [] 0 = KN 3 0 := by decide +kernel
set_option maxRecDepth 1000000 in
theorem kr_3_0 : KR 3 0 3 (pk32 (List.range 0) + 1) 0 = some (KN 3 0) := by decide +kernel
set_option maxRecDepth 1000000 in
theorem kc_3_1 : KC 3 1 [] 0 = KN 3 1 := by decide +kernel
set_option maxRecDepth 1000000 in
theorem kr_3_1 : KR 3 1 3 (pk32 (List.range 1) + 1) 0 = some (KN 3 1) := by decide +kernel
set_option maxRecDepth 1000000 in
theorem kc_3_2 : KC 3 2 [] 0 = KN 3 2 := by decide +kernel
set_option maxRecDepth 1000000 in
theorem kc_3_3 : KC 3 3 [] 0 = KN 3 3 := by decide +kernel
set_option maxRecDepth 1000000 in
theorem kc_3_4 : KC 3 4 [] 0 = KN 3 4 := by decide +kernel
set_option maxRecDepth 1000000 in
theorem kc_4_0 : KC 4 0 [] 0 = KN 4 0 := by decide +kernel
set_option maxRecDepth 1000000 in
theorem kr_4_0 : KR 4 0 3 (pk32 (List.range 0) + 1) 0 = some (KN 4 0) := by decide +kernel
set_option maxRecDepth 1000000 in
theorem kc_4_1 : KC 4 1 [] 0 = KN 4 1 := by decide +kernel
set_option maxRecDepth 1000000 in
theorem kr_4_1 : KR 4 1 6 (pk32 (List.range 1) + 1) 0 = some (KN 4 1) := by decide +kernel
set_option maxRecDepth 1000000 in
theorem kc_4_2 : KC 4 2 [] 0 = KN 4 2 := by decide +kernel
set_option maxRecDepth 1000000 in
theorem kr_4_2 : KR 4 2 8 (pk32 (List.range 2) + 1) 0 = some (KN 4 2) := by decide +kernel
set_option maxRecDepth 1000000 in
theorem kc_4_3 : KC 4 3 [] 0 = KN 4 3 := by decide +kernel
set_option maxRecDepth 1000000 in
theorem kr_4_3 : KR 4 3 6 (pk32 (List.range 3) + 1) 0 = some (KN 4 3) := by decide +kernel
set_option maxRecDepth 1000000 in
theorem kc_4_4 : KC 4 4 [] 0 = KN 4 4 := by decide +kernel
set_option maxRecDepth 1000000 in
theorem kr_4_4 : KR 4 4 3 (pk32 (List.range 4) + 1) 0 = some (KN 4 4) := by decide +kernel
set_option maxRecDepth 1000000 in
theorem kc_5_0 : KC 5 0 [] 0 = KN 5 0 := by decide +kernel
set_option maxRecDepth 1000000 in
theorem kr_5_0 : KR 5 0 3 (pk32 (List.range 0) + 1) 0 = some (KN 5 0) := by decide +kernel
set_option maxRecDepth 1000000 in
theorem kc_5_1 : KC 5 1 [] 0 = KN 5 1 := by decide +kernel
set_option maxRecDepth 1000000 in
theorem kr_5_1 : KR 5 1 12 (pk32 (List.range 1) + 1) 0 = some (KN 5 1) := by decide +kernel
set_option maxRecDepth 1000000 in
theorem kc_5_2 : KC 5 2 [] 0 = KN 5 2 := by decide +kernel
set_option maxRecDepth 1000000 in
theorem kr_5_2 : KR 5 2 47 (pk32 (List.range 2) + 1) 0 = some (KN 5 2) := by decide +kernel
set_option maxRecDepth 1000000 in
theorem kc_5_3 : KC 5 3 [] 0 = KN 5 3 := by decide +kernel
set_option maxRecDepth 1000000 in
theorem kr_5_3 : KR 5 3 122 (pk32 (List.range 3) + 1) 0 = some (KN 5 3) := by decide +kernel
set_option maxRecDepth 1000000 in
theorem kc_5_4 : KC 5 4 [] 0 = KN 5 4 := by decide +kernel
set_option maxRecDepth 1000000 in
theorem kr_5_4 : KR 5 4 212 (pk32 (List.range 4) + 1) 0 = some (KN 5 4) := by decide +kernel
set_option maxRecDepth 1000000 in
theorem kc_6_0 : KC 6 0 [] 0 = KN 6 0 := by decide +kernel
set_option maxRecDepth 1000000 in
theorem kr_6_0 : KR 6 0 3 (pk32 (List.range 0) + 1) 0 = some (KN 6 0) := by decide +kernel
set_option maxRecDepth 1000000 in
theorem kc_6_1 : KC 6 1 [] 0 = KN 6 1 := by decide +kernel
set_option maxRecDepth 1000000 in
theorem kr_6_1 : KR 6 1 22 (pk32 (List.range 1) + 1) 0 = some (KN 6 1) := by decide +kernel
set_option maxRecDepth 1000000 in
theorem kc_6_2 : KC 6 2 [] 0 = KN 6 2 := by decide +kernel
set_option maxRecDepth 1000000 in
theorem kr_6_2 : KR 6 2 192 (pk32 (List.range 2) + 1) 0 = some (KN 6 2) := by decide +kernel
set_option maxRecDepth 1000000 in
theorem kc_6_3 : KC 6 3 [] 0 = KN 6 3 := by decide +kernel
set_option maxRecDepth 1000000 in
theorem kr_6_3 : KR 6 3 1142 (pk32 (List.range 3) + 1) 0 = some (KN 6 3) := by decide +kernel
set_option maxRecDepth 1000000 in
theorem kc_6_4 : KC 6 4 [] 0 = KN 6 4 := by decide +kernel
set_option maxRecDepth 1000000 in
theorem kr_6_4 : KR 6 4 4847 (pk32 (List.range 4) + 1) 0 = some (KN 6 4) := by decide +kernel
theorem kc_all {n m : Nat} (h3 : 3 ≤ n) (hn : n ≤ 6) (h4 : m ≤ 4) : KC n m [] 0 = KN n m := by
  rcases (show n = 3 ∨ n = 4 ∨ n = 5 ∨ n = 6 by omega) with rfl | rfl | rfl | rfl <;> rcases (show m = 0 ∨ m = 1 ∨ m = 2 ∨ m = 3 ∨ m = 4 by omega) with rfl | rfl | rfl | rfl | rfl
  · exact kc_3_0
  · exact kc_3_1
  · exact kc_3_2
  · exact kc_3_3
  · exact kc_3_4
  · exact kc_4_0
  · exact kc_4_1
  · exact kc_4_2
  · exact kc_4_3
  · exact kc_4_4
  · exact kc_5_0
  · exact kc_5_1
  · exact kc_5_2
  · exact kc_5_3
  · exact kc_5_4
  · exact kc_6_0
  · exact kc_6_1
  · exact kc_6_2
  · exact kc_6_3
  · exact kc_6_4
theorem kr_all {n m : Nat} (h3 : 3 ≤ n) (hn : n ≤ 6) (h4 : m ≤ 4) (hm : m ≤ (trL n).length) : ∃ d, d ≤ 194484 ∧ KR n m d (pk32 (List.range m) + 1) 0 = some (KN n m) := by
  rcases (show n = 3 ∨ n = 4 ∨ n = 5 ∨ n = 6 by omega) with rfl | rfl | rfl | rfl <;> rcases (show m = 0 ∨ m = 1 ∨ m = 2 ∨ m = 3 ∨ m = 4 by omega) with rfl | rfl | rfl | rfl | rfl
  · exact ⟨_, by omega, kr_3_0⟩
  · exact ⟨_, by omega, kr_3_1⟩
  · exact absurd hm (by decide)
  · exact absurd hm (by decide)
  · exact absurd hm (by decide)
  · exact ⟨_, by omega, kr_4_0⟩
  · exact ⟨_, by omega, kr_4_1⟩
  · exact ⟨_, by omega, kr_4_2⟩
  · exact ⟨_, by omega, kr_4_3⟩
  · exact ⟨_, by omega, kr_4_4⟩
  · exact ⟨_, by omega, kr_5_0⟩
  · exact ⟨_, by omega, kr_5_1⟩
  · exact ⟨_, by omega, kr_5_2⟩
  · exact ⟨_, by omega, kr_5_3⟩
  · exact ⟨_, by omega, kr_5_4⟩
  · exact ⟨_, by omega, kr_6_0⟩
  · exact ⟨_, by omega, kr_6_1⟩
  · exact ⟨_, by omega, kr_6_2⟩
  · exact ⟨_, by omega, kr_6_3⟩
  · exact ⟨_, by omega, kr_6_4⟩
theorem kn_0 : ∀ n, n < 7 → 3 ≤ n → ∀ m, m < 5 → (trL n).length < m → KN n m = 0 := by decide +kernel
