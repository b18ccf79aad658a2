abbrev mX7_deduce : zM := (cX7_deduce, 1, (some .int), RX7, wsX7_deduce, "deduce")
theorem hiX7_deduce_X7 : ∀ w ∈ wsX70, w ∈ wsX7_deduce := fun w h => List.mem_cons_of_mem _ (List.mem_append_right _ h)
theorem lkX7_deduce_122 : Cond.fieldLink RX7 122 "ConfigSearchModel" "code" "I" ∈ wsX7_deduce := by decide +kernel
theorem lkX7_deduce_146 : Cond.fieldLink RX7 146 "ConfigSearchModel" "lines" "I" ∈ wsX7_deduce := by decide +kernel
theorem lkX7_deduce_155 : Cond.fieldLink RX7 155 "ConfigSearchModel" "rows" "I" ∈ wsX7_deduce := by decide +kernel
theorem okk_X7_layTable : zOk yX7_layTable 1 := by unfold zOk; decide +kernel
theorem lkX7_deduce_119 : Cond.fieldLink RX7 119 "ConfigSearchModel" "told" "I" ∈ wsX7_deduce := by decide +kernel
theorem okk_X7_follows : zOk yX7_follows 0 := by unfold zOk; decide +kernel
theorem lkX7_deduce_74 : Cond.fieldLink RX7 74 "ConfigSearchModel" "rowKind" "[I" ∈ wsX7_deduce := by decide +kernel
def X7_deduce_L30_F (pts : Nat) (brs : Nat) (bm : Nat → Int32) (t : Nat) (a9 : (Nat → Int32) × (Int32) × (Nat) × (Int32) × (Int32) × (Nat) × (Nat → Int32) × (Nat → Int32) × (Nat → Int32) × (Nat → Int32) × (Nat → Int32)) : (Nat → Int32) × (Int32) × (Nat) × (Int32) × (Int32) × (Nat) × (Nat → Int32) × (Nat → Int32) × (Nat → Int32) × (Nat → Int32) × (Nat → Int32) := if a9.2.2.2.2.1 = (nI 3) then (if (X7_follows_v pts brs a9.2.2.2.2.2.1 a9.2.1 a9.2.2.1 a9.2.2.2.1 bm a9.2.2.2.2.2.2.1 a9.2.2.2.2.2.2.2.1 a9.2.2.2.2.2.2.2.2.2.1 a9.2.2.2.2.2.2.2.2.2.2 a9.2.2.2.2.2.2.2.2.1 a9.1) = 0 then (X7_follows_c101 pts brs a9.2.2.2.2.2.1 a9.2.1 a9.2.2.1 a9.2.2.2.1 bm a9.2.2.2.2.2.2.1 a9.2.2.2.2.2.2.2.1 a9.2.2.2.2.2.2.2.2.2.1 a9.2.2.2.2.2.2.2.2.2.2 a9.2.2.2.2.2.2.2.2.1 a9.1, X7_follows_p76_13 pts brs a9.2.2.2.2.2.1 a9.2.1 a9.2.2.1 a9.2.2.2.1 bm a9.2.2.2.2.2.2.1 a9.2.2.2.2.2.2.2.1 a9.2.2.2.2.2.2.2.2.2.1 a9.2.2.2.2.2.2.2.2.2.2 a9.2.2.2.2.2.2.2.2.1 a9.1, X7_follows_p76_14 pts brs a9.2.2.2.2.2.1 a9.2.1 a9.2.2.1 a9.2.2.2.1 bm a9.2.2.2.2.2.2.1 a9.2.2.2.2.2.2.2.1 a9.2.2.2.2.2.2.2.2.2.1 a9.2.2.2.2.2.2.2.2.2.2 a9.2.2.2.2.2.2.2.2.1 a9.1, X7_follows_p76_15 pts brs a9.2.2.2.2.2.1 a9.2.1 a9.2.2.1 a9.2.2.2.1 bm a9.2.2.2.2.2.2.1 a9.2.2.2.2.2.2.2.1 a9.2.2.2.2.2.2.2.2.2.1 a9.2.2.2.2.2.2.2.2.2.2 a9.2.2.2.2.2.2.2.2.1 a9.1, nI 1, X7_follows_p76_12 pts brs a9.2.2.2.2.2.1 a9.2.1 a9.2.2.1 a9.2.2.2.1 bm a9.2.2.2.2.2.2.1 a9.2.2.2.2.2.2.2.1 a9.2.2.2.2.2.2.2.2.2.1 a9.2.2.2.2.2.2.2.2.2.2 a9.2.2.2.2.2.2.2.2.1 a9.1, X7_follows_c96 pts brs a9.2.2.2.2.2.1 a9.2.1 a9.2.2.1 a9.2.2.2.1 bm a9.2.2.2.2.2.2.1 a9.2.2.2.2.2.2.2.1 a9.2.2.2.2.2.2.2.2.2.1 a9.2.2.2.2.2.2.2.2.2.2 a9.2.2.2.2.2.2.2.2.1 a9.1, X7_follows_c97 pts brs a9.2.2.2.2.2.1 a9.2.1 a9.2.2.1 a9.2.2.2.1 bm a9.2.2.2.2.2.2.1 a9.2.2.2.2.2.2.2.1 a9.2.2.2.2.2.2.2.2.2.1 a9.2.2.2.2.2.2.2.2.2.2 a9.2.2.2.2.2.2.2.2.1 a9.1, X7_follows_c98 pts brs a9.2.2.2.2.2.1 a9.2.1 a9.2.2.1 a9.2.2.2.1 bm a9.2.2.2.2.2.2.1 a9.2.2.2.2.2.2.2.1 a9.2.2.2.2.2.2.2.2.2.1 a9.2.2.2.2.2.2.2.2.2.2 a9.2.2.2.2.2.2.2.2.1 a9.1, X7_follows_c99 pts brs a9.2.2.2.2.2.1 a9.2.1 a9.2.2.1 a9.2.2.2.1 bm a9.2.2.2.2.2.2.1 a9.2.2.2.2.2.2.2.1 a9.2.2.2.2.2.2.2.2.2.1 a9.2.2.2.2.2.2.2.2.2.2 a9.2.2.2.2.2.2.2.2.1 a9.1, X7_follows_c100 pts brs a9.2.2.2.2.2.1 a9.2.1 a9.2.2.1 a9.2.2.2.1 bm a9.2.2.2.2.2.2.1 a9.2.2.2.2.2.2.2.1 a9.2.2.2.2.2.2.2.2.2.1 a9.2.2.2.2.2.2.2.2.2.2 a9.2.2.2.2.2.2.2.2.1 a9.1) else (if ((X7_follows_c97 pts brs a9.2.2.2.2.2.1 a9.2.1 a9.2.2.1 a9.2.2.2.1 bm a9.2.2.2.2.2.2.1 a9.2.2.2.2.2.2.2.1 a9.2.2.2.2.2.2.2.2.2.1 a9.2.2.2.2.2.2.2.2.2.2 a9.2.2.2.2.2.2.2.2.1 a9.1) ((X7_follows_p76_12 pts brs a9.2.2.2.2.2.1 a9.2.1 a9.2.2.1 a9.2.2.2.1 bm a9.2.2.2.2.2.2.1 a9.2.2.2.2.2.2.2.1 a9.2.2.2.2.2.2.2.2.2.1 a9.2.2.2.2.2.2.2.2.2.2 a9.2.2.2.2.2.2.2.2.1 a9.1) - 1)) = 0 then (if (nI (X7_follows_p76_12 pts brs a9.2.2.2.2.2.1 a9.2.1 a9.2.2.1 a9.2.2.2.1 bm a9.2.2.2.2.2.2.1 a9.2.2.2.2.2.2.2.1 a9.2.2.2.2.2.2.2.2.2.1 a9.2.2.2.2.2.2.2.2.2.2 a9.2.2.2.2.2.2.2.2.1 a9.1)) = (nI 60) then (X7_follows_c101 pts brs a9.2.2.2.2.2.1 a9.2.1 a9.2.2.1 a9.2.2.2.1 bm a9.2.2.2.2.2.2.1 a9.2.2.2.2.2.2.2.1 a9.2.2.2.2.2.2.2.2.2.1 a9.2.2.2.2.2.2.2.2.2.2 a9.2.2.2.2.2.2.2.2.1 a9.1, X7_follows_p76_13 pts brs a9.2.2.2.2.2.1 a9.2.1 a9.2.2.1 a9.2.2.2.1 bm a9.2.2.2.2.2.2.1 a9.2.2.2.2.2.2.2.1 a9.2.2.2.2.2.2.2.2.2.1 a9.2.2.2.2.2.2.2.2.2.2 a9.2.2.2.2.2.2.2.2.1 a9.1, X7_follows_p76_14 pts brs a9.2.2.2.2.2.1 a9.2.1 a9.2.2.1 a9.2.2.2.1 bm a9.2.2.2.2.2.2.1 a9.2.2.2.2.2.2.2.1 a9.2.2.2.2.2.2.2.2.2.1 a9.2.2.2.2.2.2.2.2.2.2 a9.2.2.2.2.2.2.2.2.1 a9.1, X7_follows_p76_15 pts brs a9.2.2.2.2.2.1 a9.2.1 a9.2.2.1 a9.2.2.2.1 bm a9.2.2.2.2.2.2.1 a9.2.2.2.2.2.2.2.1 a9.2.2.2.2.2.2.2.2.2.1 a9.2.2.2.2.2.2.2.2.2.2 a9.2.2.2.2.2.2.2.2.1 a9.1, nI 2, X7_follows_p76_12 pts brs a9.2.2.2.2.2.1 a9.2.1 a9.2.2.1 a9.2.2.2.1 bm a9.2.2.2.2.2.2.1 a9.2.2.2.2.2.2.2.1 a9.2.2.2.2.2.2.2.2.2.1 a9.2.2.2.2.2.2.2.2.2.2 a9.2.2.2.2.2.2.2.2.1 a9.1, X7_follows_c96 pts brs a9.2.2.2.2.2.1 a9.2.1 a9.2.2.1 a9.2.2.2.1 bm a9.2.2.2.2.2.2.1 a9.2.2.2.2.2.2.2.1 a9.2.2.2.2.2.2.2.2.2.1 a9.2.2.2.2.2.2.2.2.2.2 a9.2.2.2.2.2.2.2.2.1 a9.1, X7_follows_c97 pts brs a9.2.2.2.2.2.1 a9.2.1 a9.2.2.1 a9.2.2.2.1 bm a9.2.2.2.2.2.2.1 a9.2.2.2.2.2.2.2.1 a9.2.2.2.2.2.2.2.2.2.1 a9.2.2.2.2.2.2.2.2.2.2 a9.2.2.2.2.2.2.2.2.1 a9.1, X7_follows_c98 pts brs a9.2.2.2.2.2.1 a9.2.1 a9.2.2.1 a9.2.2.2.1 bm a9.2.2.2.2.2.2.1 a9.2.2.2.2.2.2.2.1 a9.2.2.2.2.2.2.2.2.2.1 a9.2.2.2.2.2.2.2.2.2.2 a9.2.2.2.2.2.2.2.2.1 a9.1, X7_follows_c99 pts brs a9.2.2.2.2.2.1 a9.2.1 a9.2.2.1 a9.2.2.2.1 bm a9.2.2.2.2.2.2.1 a9.2.2.2.2.2.2.2.1 a9.2.2.2.2.2.2.2.2.2.1 a9.2.2.2.2.2.2.2.2.2.2 a9.2.2.2.2.2.2.2.2.1 a9.1, X7_follows_c100 pts brs a9.2.2.2.2.2.1 a9.2.1 a9.2.2.1 a9.2.2.2.1 bm a9.2.2.2.2.2.2.1 a9.2.2.2.2.2.2.2.1 a9.2.2.2.2.2.2.2.2.2.1 a9.2.2.2.2.2.2.2.2.2.2 a9.2.2.2.2.2.2.2.2.1 a9.1) else (X7_follows_c101 pts brs a9.2.2.2.2.2.1 a9.2.1 a9.2.2.1 a9.2.2.2.1 bm a9.2.2.2.2.2.2.1 a9.2.2.2.2.2.2.2.1 a9.2.2.2.2.2.2.2.2.2.1 a9.2.2.2.2.2.2.2.2.2.2 a9.2.2.2.2.2.2.2.2.1 a9.1, X7_follows_p76_13 pts brs a9.2.2.2.2.2.1 a9.2.1 a9.2.2.1 a9.2.2.2.1 bm a9.2.2.2.2.2.2.1 a9.2.2.2.2.2.2.2.1 a9.2.2.2.2.2.2.2.2.2.1 a9.2.2.2.2.2.2.2.2.2.2 a9.2.2.2.2.2.2.2.2.1 a9.1, X7_follows_p76_14 pts brs a9.2.2.2.2.2.1 a9.2.1 a9.2.2.1 a9.2.2.2.1 bm a9.2.2.2.2.2.2.1 a9.2.2.2.2.2.2.2.1 a9.2.2.2.2.2.2.2.2.2.1 a9.2.2.2.2.2.2.2.2.2.2 a9.2.2.2.2.2.2.2.2.1 a9.1, X7_follows_p76_15 pts brs a9.2.2.2.2.2.1 a9.2.1 a9.2.2.1 a9.2.2.2.1 bm a9.2.2.2.2.2.2.1 a9.2.2.2.2.2.2.2.1 a9.2.2.2.2.2.2.2.2.2.1 a9.2.2.2.2.2.2.2.2.2.2 a9.2.2.2.2.2.2.2.2.1 a9.1, a9.2.2.2.2.1, X7_follows_p76_12 pts brs a9.2.2.2.2.2.1 a9.2.1 a9.2.2.1 a9.2.2.2.1 bm a9.2.2.2.2.2.2.1 a9.2.2.2.2.2.2.2.1 a9.2.2.2.2.2.2.2.2.2.1 a9.2.2.2.2.2.2.2.2.2.2 a9.2.2.2.2.2.2.2.2.1 a9.1, X7_follows_c96 pts brs a9.2.2.2.2.2.1 a9.2.1 a9.2.2.1 a9.2.2.2.1 bm a9.2.2.2.2.2.2.1 a9.2.2.2.2.2.2.2.1 a9.2.2.2.2.2.2.2.2.2.1 a9.2.2.2.2.2.2.2.2.2.2 a9.2.2.2.2.2.2.2.2.1 a9.1, X7_follows_c97 pts brs a9.2.2.2.2.2.1 a9.2.1 a9.2.2.1 a9.2.2.2.1 bm a9.2.2.2.2.2.2.1 a9.2.2.2.2.2.2.2.1 a9.2.2.2.2.2.2.2.2.2.1 a9.2.2.2.2.2.2.2.2.2.2 a9.2.2.2.2.2.2.2.2.1 a9.1, X7_follows_c98 pts brs a9.2.2.2.2.2.1 a9.2.1 a9.2.2.1 a9.2.2.2.1 bm a9.2.2.2.2.2.2.1 a9.2.2.2.2.2.2.2.1 a9.2.2.2.2.2.2.2.2.2.1 a9.2.2.2.2.2.2.2.2.2.2 a9.2.2.2.2.2.2.2.2.1 a9.1, X7_follows_c99 pts brs a9.2.2.2.2.2.1 a9.2.1 a9.2.2.1 a9.2.2.2.1 bm a9.2.2.2.2.2.2.1 a9.2.2.2.2.2.2.2.1 a9.2.2.2.2.2.2.2.2.2.1 a9.2.2.2.2.2.2.2.2.2.2 a9.2.2.2.2.2.2.2.2.1 a9.1, X7_follows_c100 pts brs a9.2.2.2.2.2.1 a9.2.1 a9.2.2.1 a9.2.2.2.1 bm a9.2.2.2.2.2.2.1 a9.2.2.2.2.2.2.2.1 a9.2.2.2.2.2.2.2.2.2.1 a9.2.2.2.2.2.2.2.2.2.2 a9.2.2.2.2.2.2.2.2.1 a9.1)) else (X7_follows_c101 pts brs a9.2.2.2.2.2.1 a9.2.1 a9.2.2.1 a9.2.2.2.1 bm a9.2.2.2.2.2.2.1 a9.2.2.2.2.2.2.2.1 a9.2.2.2.2.2.2.2.2.2.1 a9.2.2.2.2.2.2.2.2.2.2 a9.2.2.2.2.2.2.2.2.1 a9.1, X7_follows_p76_13 pts brs a9.2.2.2.2.2.1 a9.2.1 a9.2.2.1 a9.2.2.2.1 bm a9.2.2.2.2.2.2.1 a9.2.2.2.2.2.2.2.1 a9.2.2.2.2.2.2.2.2.2.1 a9.2.2.2.2.2.2.2.2.2.2 a9.2.2.2.2.2.2.2.2.1 a9.1, X7_follows_p76_14 pts brs a9.2.2.2.2.2.1 a9.2.1 a9.2.2.1 a9.2.2.2.1 bm a9.2.2.2.2.2.2.1 a9.2.2.2.2.2.2.2.1 a9.2.2.2.2.2.2.2.2.2.1 a9.2.2.2.2.2.2.2.2.2.2 a9.2.2.2.2.2.2.2.2.1 a9.1, X7_follows_p76_15 pts brs a9.2.2.2.2.2.1 a9.2.1 a9.2.2.1 a9.2.2.2.1 bm a9.2.2.2.2.2.2.1 a9.2.2.2.2.2.2.2.1 a9.2.2.2.2.2.2.2.2.2.1 a9.2.2.2.2.2.2.2.2.2.2 a9.2.2.2.2.2.2.2.2.1 a9.1, nI 0, X7_follows_p76_12 pts brs a9.2.2.2.2.2.1 a9.2.1 a9.2.2.1 a9.2.2.2.1 bm a9.2.2.2.2.2.2.1 a9.2.2.2.2.2.2.2.1 a9.2.2.2.2.2.2.2.2.2.1 a9.2.2.2.2.2.2.2.2.2.2 a9.2.2.2.2.2.2.2.2.1 a9.1, X7_follows_c96 pts brs a9.2.2.2.2.2.1 a9.2.1 a9.2.2.1 a9.2.2.2.1 bm a9.2.2.2.2.2.2.1 a9.2.2.2.2.2.2.2.1 a9.2.2.2.2.2.2.2.2.2.1 a9.2.2.2.2.2.2.2.2.2.2 a9.2.2.2.2.2.2.2.2.1 a9.1, X7_follows_c97 pts brs a9.2.2.2.2.2.1 a9.2.1 a9.2.2.1 a9.2.2.2.1 bm a9.2.2.2.2.2.2.1 a9.2.2.2.2.2.2.2.1 a9.2.2.2.2.2.2.2.2.2.1 a9.2.2.2.2.2.2.2.2.2.2 a9.2.2.2.2.2.2.2.2.1 a9.1, X7_follows_c98 pts brs a9.2.2.2.2.2.1 a9.2.1 a9.2.2.1 a9.2.2.2.1 bm a9.2.2.2.2.2.2.1 a9.2.2.2.2.2.2.2.1 a9.2.2.2.2.2.2.2.2.2.1 a9.2.2.2.2.2.2.2.2.2.2 a9.2.2.2.2.2.2.2.2.1 a9.1, X7_follows_c99 pts brs a9.2.2.2.2.2.1 a9.2.1 a9.2.2.1 a9.2.2.2.1 bm a9.2.2.2.2.2.2.1 a9.2.2.2.2.2.2.2.1 a9.2.2.2.2.2.2.2.2.2.1 a9.2.2.2.2.2.2.2.2.2.2 a9.2.2.2.2.2.2.2.2.1 a9.1, X7_follows_c100 pts brs a9.2.2.2.2.2.1 a9.2.1 a9.2.2.1 a9.2.2.2.1 bm a9.2.2.2.2.2.2.1 a9.2.2.2.2.2.2.2.1 a9.2.2.2.2.2.2.2.2.2.1 a9.2.2.2.2.2.2.2.2.2.2 a9.2.2.2.2.2.2.2.2.1 a9.1))) else (a9.1, a9.2.1, a9.2.2.1, a9.2.2.2.1, a9.2.2.2.2.1, a9.2.2.2.2.2.1, a9.2.2.2.2.2.2.1, a9.2.2.2.2.2.2.2.1, a9.2.2.2.2.2.2.2.2.1, a9.2.2.2.2.2.2.2.2.2.1, a9.2.2.2.2.2.2.2.2.2.2)
def X7_deduce_L30_B (pts : Nat) (brs : Nat) (bm : Nat → Int32) (t : Nat) (a9 : (Nat → Int32) × (Int32) × (Nat) × (Int32) × (Int32) × (Nat) × (Nat → Int32) × (Nat → Int32) × (Nat → Int32) × (Nat → Int32) × (Nat → Int32)) : Option ((Int32) × (Nat) × (Int32) × (Nat) × (Int32) × (Nat) × (Int32) × (Nat → Int32) × (Nat → Int32) × (Nat → Int32) × (Nat → Int32) × (Nat → Int32) × (Nat → Int32)) := if a9.2.2.2.2.1 = (nI 3) then (if (X7_follows_v pts brs a9.2.2.2.2.2.1 a9.2.1 a9.2.2.1 a9.2.2.2.1 bm a9.2.2.2.2.2.2.1 a9.2.2.2.2.2.2.2.1 a9.2.2.2.2.2.2.2.2.2.1 a9.2.2.2.2.2.2.2.2.2.2 a9.2.2.2.2.2.2.2.2.1 a9.1) = 0 then none else (if ((X7_follows_c97 pts brs a9.2.2.2.2.2.1 a9.2.1 a9.2.2.1 a9.2.2.2.1 bm a9.2.2.2.2.2.2.1 a9.2.2.2.2.2.2.2.1 a9.2.2.2.2.2.2.2.2.2.1 a9.2.2.2.2.2.2.2.2.2.2 a9.2.2.2.2.2.2.2.2.1 a9.1) ((X7_follows_p76_12 pts brs a9.2.2.2.2.2.1 a9.2.1 a9.2.2.1 a9.2.2.2.1 bm a9.2.2.2.2.2.2.1 a9.2.2.2.2.2.2.2.1 a9.2.2.2.2.2.2.2.2.2.1 a9.2.2.2.2.2.2.2.2.2.2 a9.2.2.2.2.2.2.2.2.1 a9.1) - 1)) = 0 then (if (nI (X7_follows_p76_12 pts brs a9.2.2.2.2.2.1 a9.2.1 a9.2.2.1 a9.2.2.2.1 bm a9.2.2.2.2.2.2.1 a9.2.2.2.2.2.2.2.1 a9.2.2.2.2.2.2.2.2.2.1 a9.2.2.2.2.2.2.2.2.2.2 a9.2.2.2.2.2.2.2.2.1 a9.1)) = (nI 60) then none else none) else none)) else (some (a9.2.2.2.2.1, 0, a9.2.2.2.2.1, a9.2.2.2.2.2.1, a9.2.1, a9.2.2.1, a9.2.2.2.1, a9.2.2.2.2.2.2.1, a9.2.2.2.2.2.2.2.1, a9.2.2.2.2.2.2.2.2.1, a9.2.2.2.2.2.2.2.2.2.1, a9.2.2.2.2.2.2.2.2.2.2, a9.1))
def X7_deduce_v (pts lns brs ors : Nat) (cms : Int32) (cmT : Nat) (cmS : Int32) (lm bm om os sg rk rt rs rf sx : Nat → Int32) : Int32 := if (nI lns) = 0 then (-2) else (zpick (zfoldB (X7_deduce_L30_B pts brs bm) (X7_deduce_L30_F pts brs bm) 61 0 (sx, cms, cmT, cmS, nI 3, 0, X7_layTable_c96 pts lns ors lm om os sg rk rt rs 0, rk, rf, rt, rs)) (fun b => b.1) (fun am30 => nI 0))
def X7_deduce_p76_0 (pts lns brs ors : Nat) (cms : Int32) (cmT : Nat) (cmS : Int32) (lm bm om os sg rk rt rs rf sx : Nat → Int32) : Nat := if (nI lns) = 0 then 0 else (zpick (zfoldB (X7_deduce_L30_B pts brs bm) (X7_deduce_L30_F pts brs bm) 61 0 (sx, cms, cmT, cmS, nI 3, 0, X7_layTable_c96 pts lns ors lm om os sg rk rt rs 0, rk, rf, rt, rs)) (fun b => b.2.1) (fun am30 => 0))
def X7_deduce_p76_11 (pts lns brs ors : Nat) (told : Int32) (cms : Int32) (cmT : Nat) (cmS : Int32) (lm bm om os sg rk rt rs rf sx : Nat → Int32) : Int32 := if (nI lns) = 0 then told else (zpick (zfoldB (X7_deduce_L30_B pts brs bm) (X7_deduce_L30_F pts brs bm) 61 0 (sx, cms, cmT, cmS, nI 3, 0, X7_layTable_c96 pts lns ors lm om os sg rk rt rs 0, rk, rf, rt, rs)) (fun b => b.2.2.1) (fun am30 => am30.2.2.2.2.1))
def X7_deduce_p76_12 (pts lns brs ors : Nat) (rws : Nat) (cms : Int32) (cmT : Nat) (cmS : Int32) (lm bm om os sg rk rt rs rf sx : Nat → Int32) : Nat := if (nI lns) = 0 then rws else (zpick (zfoldB (X7_deduce_L30_B pts brs bm) (X7_deduce_L30_F pts brs bm) 61 0 (sx, cms, cmT, cmS, nI 3, 0, X7_layTable_c96 pts lns ors lm om os sg rk rt rs 0, rk, rf, rt, rs)) (fun b => b.2.2.2.1) (fun am30 => am30.2.2.2.2.2.1))
def X7_deduce_p76_13 (pts lns brs ors : Nat) (cms : Int32) (cmT : Nat) (cmS : Int32) (lm bm om os sg rk rt rs rf sx : Nat → Int32) : Int32 := if (nI lns) = 0 then cms else (zpick (zfoldB (X7_deduce_L30_B pts brs bm) (X7_deduce_L30_F pts brs bm) 61 0 (sx, cms, cmT, cmS, nI 3, 0, X7_layTable_c96 pts lns ors lm om os sg rk rt rs 0, rk, rf, rt, rs)) (fun b => b.2.2.2.2.1) (fun am30 => am30.2.1))
def X7_deduce_p76_14 (pts lns brs ors : Nat) (cms : Int32) (cmT : Nat) (cmS : Int32) (lm bm om os sg rk rt rs rf sx : Nat → Int32) : Nat := if (nI lns) = 0 then cmT else (zpick (zfoldB (X7_deduce_L30_B pts brs bm) (X7_deduce_L30_F pts brs bm) 61 0 (sx, cms, cmT, cmS, nI 3, 0, X7_layTable_c96 pts lns ors lm om os sg rk rt rs 0, rk, rf, rt, rs)) (fun b => b.2.2.2.2.2.1) (fun am30 => am30.2.2.1))
def X7_deduce_p76_15 (pts lns brs ors : Nat) (cms : Int32) (cmT : Nat) (cmS : Int32) (lm bm om os sg rk rt rs rf sx : Nat → Int32) : Int32 := if (nI lns) = 0 then cmS else (zpick (zfoldB (X7_deduce_L30_B pts brs bm) (X7_deduce_L30_F pts brs bm) 61 0 (sx, cms, cmT, cmS, nI 3, 0, X7_layTable_c96 pts lns ors lm om os sg rk rt rs 0, rk, rf, rt, rs)) (fun b => b.2.2.2.2.2.2.1) (fun am30 => am30.2.2.2.1))
def X7_deduce_c96 (pts lns brs ors : Nat) (cms : Int32) (cmT : Nat) (cmS : Int32) (lm bm om os sg rk rt rs rf sx : Nat → Int32) : Nat → Int32 := if (nI lns) = 0 then sg else (zpick (zfoldB (X7_deduce_L30_B pts brs bm) (X7_deduce_L30_F pts brs bm) 61 0 (sx, cms, cmT, cmS, nI 3, 0, X7_layTable_c96 pts lns ors lm om os sg rk rt rs 0, rk, rf, rt, rs)) (fun b => b.2.2.2.2.2.2.2.1) (fun am30 => am30.2.2.2.2.2.2.1))
def X7_deduce_c97 (pts lns brs ors : Nat) (cms : Int32) (cmT : Nat) (cmS : Int32) (lm bm om os sg rk rt rs rf sx : Nat → Int32) : Nat → Int32 := if (nI lns) = 0 then rk else (zpick (zfoldB (X7_deduce_L30_B pts brs bm) (X7_deduce_L30_F pts brs bm) 61 0 (sx, cms, cmT, cmS, nI 3, 0, X7_layTable_c96 pts lns ors lm om os sg rk rt rs 0, rk, rf, rt, rs)) (fun b => b.2.2.2.2.2.2.2.2.1) (fun am30 => am30.2.2.2.2.2.2.2.1))
def X7_deduce_c98 (pts lns brs ors : Nat) (cms : Int32) (cmT : Nat) (cmS : Int32) (lm bm om os sg rk rt rs rf sx : Nat → Int32) : Nat → Int32 := if (nI lns) = 0 then rf else (zpick (zfoldB (X7_deduce_L30_B pts brs bm) (X7_deduce_L30_F pts brs bm) 61 0 (sx, cms, cmT, cmS, nI 3, 0, X7_layTable_c96 pts lns ors lm om os sg rk rt rs 0, rk, rf, rt, rs)) (fun b => b.2.2.2.2.2.2.2.2.2.1) (fun am30 => am30.2.2.2.2.2.2.2.2.1))
def X7_deduce_c99 (pts lns brs ors : Nat) (cms : Int32) (cmT : Nat) (cmS : Int32) (lm bm om os sg rk rt rs rf sx : Nat → Int32) : Nat → Int32 := if (nI lns) = 0 then rt else (zpick (zfoldB (X7_deduce_L30_B pts brs bm) (X7_deduce_L30_F pts brs bm) 61 0 (sx, cms, cmT, cmS, nI 3, 0, X7_layTable_c96 pts lns ors lm om os sg rk rt rs 0, rk, rf, rt, rs)) (fun b => b.2.2.2.2.2.2.2.2.2.2.1) (fun am30 => am30.2.2.2.2.2.2.2.2.2.1))
def X7_deduce_c100 (pts lns brs ors : Nat) (cms : Int32) (cmT : Nat) (cmS : Int32) (lm bm om os sg rk rt rs rf sx : Nat → Int32) : Nat → Int32 := if (nI lns) = 0 then rs else (zpick (zfoldB (X7_deduce_L30_B pts brs bm) (X7_deduce_L30_F pts brs bm) 61 0 (sx, cms, cmT, cmS, nI 3, 0, X7_layTable_c96 pts lns ors lm om os sg rk rt rs 0, rk, rf, rt, rs)) (fun b => b.2.2.2.2.2.2.2.2.2.2.2.1) (fun am30 => am30.2.2.2.2.2.2.2.2.2.2))
def X7_deduce_c101 (pts lns brs ors : Nat) (cms : Int32) (cmT : Nat) (cmS : Int32) (lm bm om os sg rk rt rs rf sx : Nat → Int32) : Nat → Int32 := if (nI lns) = 0 then sx else (zpick (zfoldB (X7_deduce_L30_B pts brs bm) (X7_deduce_L30_F pts brs bm) 61 0 (sx, cms, cmT, cmS, nI 3, 0, X7_layTable_c96 pts lns ors lm om os sg rk rt rs 0, rk, rf, rt, rs)) (fun b => b.2.2.2.2.2.2.2.2.2.2.2.2) (fun am30 => am30.1))
set_option maxRecDepth 100000 in
set_option maxHeartbeats 4000000 in
theorem c_X7_deduce (G : zG) (ex : Bool) (g : Nat → va_E) (code : Int32) (tps pts lns wds brs ors : Nat) (stp hasP fld laid told : Int32) (rws : Nat) (cms : Int32) (cmT : Nat) (cmS isN : Int32) (trs : Nat) (lm bm om os sg rk rt rs rf sx : Nat → Int32) (hl : lns ≤ 12) (hb : brs ≤ 20) (ho : ors ≤ 20) (hp : pts ≤ 10) (hcm : cmT < 1000) (h76 : g 76 = (oMod G code (nI tps) (nI pts) (nI lns) (nI wds) (nI brs) (nI ors) stp hasP fld laid told (nI rws) cms (nI cmT) cmS isN (nI trs))) (h82 : g 82 = (zI G 12 lm)) (h86 : g 86 = (zI G 20 bm)) (h87 : g 87 = (zI G 20 om)) (h88 : g 88 = (zI G 20 os)) (h96 : g 96 = (zI G 1000 sg)) (h97 : g 97 = (zI G 60 rk)) (h99 : g 99 = (zI G 60 rt)) (h100 : g 100 = (zI G 60 rs)) (h98 : g 98 = (zI G 300 rf)) (h101 : g 101 = (zI G 6 sx)) : zC G yX7_deduce wsX7_deduce (zrm 5 130) ex [.ref (zB G + 76)] (zN, g) (fun r h => r = some (.int (X7_deduce_v pts lns brs ors cms cmT cmS lm bm om os sg rk rt rs rf sx)) ∧ h = (zN, zus g [(76, (oMod G (nI (X7_deduce_p76_0 pts lns brs ors cms cmT cmS lm bm om os sg rk rt rs rf sx)) (nI tps) (nI pts) (nI lns) (nI wds) (nI brs) (nI ors) stp hasP fld laid (X7_deduce_p76_11 pts lns brs ors told cms cmT cmS lm bm om os sg rk rt rs rf sx) (nI (X7_deduce_p76_12 pts lns brs ors rws cms cmT cmS lm bm om os sg rk rt rs rf sx)) (X7_deduce_p76_13 pts lns brs ors cms cmT cmS lm bm om os sg rk rt rs rf sx) (nI (X7_deduce_p76_14 pts lns brs ors cms cmT cmS lm bm om os sg rk rt rs rf sx)) (X7_deduce_p76_15 pts lns brs ors cms cmT cmS lm bm om os sg rk rt rs rf sx) isN (nI trs))), (96, zI G 1000 (X7_deduce_c96 pts lns brs ors cms cmT cmS lm bm om os sg rk rt rs rf sx)), (97, zI G 60 (X7_deduce_c97 pts lns brs ors cms cmT cmS lm bm om os sg rk rt rs rf sx)), (98, zI G 300 (X7_deduce_c98 pts lns brs ors cms cmT cmS lm bm om os sg rk rt rs rf sx)), (99, zI G 60 (X7_deduce_c99 pts lns brs ors cms cmT cmS lm bm om os sg rk rt rs rf sx)), (100, zI G 60 (X7_deduce_c100 pts lns brs ors cms cmT cmS lm bm om os sg rk rt rs rf sx)), (101, zI G 6 (X7_deduce_c101 pts lns brs ors cms cmT cmS lm bm om os sg rk rt rs rf sx))])) := by
  refine zC_of mX7_deduce (lv := [some (.ref (zB G + 76))]) rfl rfl (by decide) (by intro v hv; simp at hv; subst hv; rfl) (Nat.le_of_ble_eq_true rfl) rfl ?_
  refine z_0 ?_
  refine z_heap (g' := zu (zus g []) 76 (oMod G code (nI tps) (nI pts) (nI lns) (nI wds) (nI brs) (nI ors) stp hasP fld laid told (nI rws) cms (nI cmT) cmS isN (nI trs))) (zu_self (zus g []) 76 _ h76).symm ?_
  refine z_n (L' := [(76, (oMod G code (nI tps) (nI pts) (nI lns) (nI wds) (nI brs) (nI ors) stp hasP fld laid told (nI rws) cms (nI cmT) cmS isN (nI trs)))]) rfl ?_
  refine z_heap (g' := zu (zus g [(76, (oMod G code (nI tps) (nI pts) (nI lns) (nI wds) (nI brs) (nI ors) stp hasP fld laid told (nI rws) cms (nI cmT) cmS isN (nI trs)))]) 96 (zI G 1000 sg)) (zu_self (zus g [(76, (oMod G code (nI tps) (nI pts) (nI lns) (nI wds) (nI brs) (nI ors) stp hasP fld laid told (nI rws) cms (nI cmT) cmS isN (nI trs)))]) 96 _ h96).symm ?_
  refine z_n (L' := [(76, (oMod G code (nI tps) (nI pts) (nI lns) (nI wds) (nI brs) (nI ors) stp hasP fld laid told (nI rws) cms (nI cmT) cmS isN (nI trs))), (96, (zI G 1000 sg))]) rfl ?_
  refine z_heap (g' := zu (zus g [(76, (oMod G code (nI tps) (nI pts) (nI lns) (nI wds) (nI brs) (nI ors) stp hasP fld laid told (nI rws) cms (nI cmT) cmS isN (nI trs))), (96, (zI G 1000 sg))]) 97 (zI G 60 rk)) (zu_self (zus g [(76, (oMod G code (nI tps) (nI pts) (nI lns) (nI wds) (nI brs) (nI ors) stp hasP fld laid told (nI rws) cms (nI cmT) cmS isN (nI trs))), (96, (zI G 1000 sg))]) 97 _ h97).symm ?_
  refine z_n (L' := [(76, (oMod G code (nI tps) (nI pts) (nI lns) (nI wds) (nI brs) (nI ors) stp hasP fld laid told (nI rws) cms (nI cmT) cmS isN (nI trs))), (96, (zI G 1000 sg)), (97, (zI G 60 rk))]) rfl ?_
  refine z_heap (g' := zu (zus g [(76, (oMod G code (nI tps) (nI pts) (nI lns) (nI wds) (nI brs) (nI ors) stp hasP fld laid told (nI rws) cms (nI cmT) cmS isN (nI trs))), (96, (zI G 1000 sg)), (97, (zI G 60 rk))]) 98 (zI G 300 rf)) (zu_self (zus g [(76, (oMod G code (nI tps) (nI pts) (nI lns) (nI wds) (nI brs) (nI ors) stp hasP fld laid told (nI rws) cms (nI cmT) cmS isN (nI trs))), (96, (zI G 1000 sg)), (97, (zI G 60 rk))]) 98 _ h98).symm ?_
  refine z_n (L' := [(76, (oMod G code (nI tps) (nI pts) (nI lns) (nI wds) (nI brs) (nI ors) stp hasP fld laid told (nI rws) cms (nI cmT) cmS isN (nI trs))), (96, (zI G 1000 sg)), (97, (zI G 60 rk)), (98, (zI G 300 rf))]) rfl ?_
  refine z_heap (g' := zu (zus g [(76, (oMod G code (nI tps) (nI pts) (nI lns) (nI wds) (nI brs) (nI ors) stp hasP fld laid told (nI rws) cms (nI cmT) cmS isN (nI trs))), (96, (zI G 1000 sg)), (97, (zI G 60 rk)), (98, (zI G 300 rf))]) 99 (zI G 60 rt)) (zu_self (zus g [(76, (oMod G code (nI tps) (nI pts) (nI lns) (nI wds) (nI brs) (nI ors) stp hasP fld laid told (nI rws) cms (nI cmT) cmS isN (nI trs))), (96, (zI G 1000 sg)), (97, (zI G 60 rk)), (98, (zI G 300 rf))]) 99 _ h99).symm ?_
  refine z_n (L' := [(76, (oMod G code (nI tps) (nI pts) (nI lns) (nI wds) (nI brs) (nI ors) stp hasP fld laid told (nI rws) cms (nI cmT) cmS isN (nI trs))), (96, (zI G 1000 sg)), (97, (zI G 60 rk)), (98, (zI G 300 rf)), (99, (zI G 60 rt))]) rfl ?_
  refine z_heap (g' := zu (zus g [(76, (oMod G code (nI tps) (nI pts) (nI lns) (nI wds) (nI brs) (nI ors) stp hasP fld laid told (nI rws) cms (nI cmT) cmS isN (nI trs))), (96, (zI G 1000 sg)), (97, (zI G 60 rk)), (98, (zI G 300 rf)), (99, (zI G 60 rt))]) 100 (zI G 60 rs)) (zu_self (zus g [(76, (oMod G code (nI tps) (nI pts) (nI lns) (nI wds) (nI brs) (nI ors) stp hasP fld laid told (nI rws) cms (nI cmT) cmS isN (nI trs))), (96, (zI G 1000 sg)), (97, (zI G 60 rk)), (98, (zI G 300 rf)), (99, (zI G 60 rt))]) 100 _ h100).symm ?_
  refine z_n (L' := [(76, (oMod G code (nI tps) (nI pts) (nI lns) (nI wds) (nI brs) (nI ors) stp hasP fld laid told (nI rws) cms (nI cmT) cmS isN (nI trs))), (96, (zI G 1000 sg)), (97, (zI G 60 rk)), (98, (zI G 300 rf)), (99, (zI G 60 rt)), (100, (zI G 60 rs))]) rfl ?_
  refine z_heap (g' := zu (zus g [(76, (oMod G code (nI tps) (nI pts) (nI lns) (nI wds) (nI brs) (nI ors) stp hasP fld laid told (nI rws) cms (nI cmT) cmS isN (nI trs))), (96, (zI G 1000 sg)), (97, (zI G 60 rk)), (98, (zI G 300 rf)), (99, (zI G 60 rt)), (100, (zI G 60 rs))]) 101 (zI G 6 sx)) (zu_self (zus g [(76, (oMod G code (nI tps) (nI pts) (nI lns) (nI wds) (nI brs) (nI ors) stp hasP fld laid told (nI rws) cms (nI cmT) cmS isN (nI trs))), (96, (zI G 1000 sg)), (97, (zI G 60 rk)), (98, (zI G 300 rf)), (99, (zI G 60 rt)), (100, (zI G 60 rs))]) 101 _ h101).symm ?_
  refine z_n (L' := [(76, (oMod G code (nI tps) (nI pts) (nI lns) (nI wds) (nI brs) (nI ors) stp hasP fld laid told (nI rws) cms (nI cmT) cmS isN (nI trs))), (96, (zI G 1000 sg)), (97, (zI G 60 rk)), (98, (zI G 300 rf)), (99, (zI G 60 rt)), (100, (zI G 60 rs)), (101, (zI G 6 sx))]) rfl ?_
  refine z_aload_n dX7_deduce_0 rfl rfl ?_
  refine z_iconst (v := nI 0) dX7_deduce_1 rfl (by decide) ?_
  refine z_putN (e9 := (oMod G (nI 0) (nI tps) (nI pts) (nI lns) (nI wds) (nI brs) (nI ors) stp hasP fld laid told (nI rws) cms (nI cmT) cmS isN (nI trs))) tyX7 tyX7_ok nmX7 dX7_deduce_2 rfl hiX7_deduce_X7 0 lkX7_deduce_122 rfl (by decide +kernel) (Nat.le_of_ble_eq_true rfl) rfl rfl (by decide) (Nat.le_of_ble_eq_true rfl) rfl rfl rfl ?_
  refine z_n (L' := [(76, (oMod G (nI 0) (nI tps) (nI pts) (nI lns) (nI wds) (nI brs) (nI ors) stp hasP fld laid told (nI rws) cms (nI cmT) cmS isN (nI trs))), (96, (zI G 1000 sg)), (97, (zI G 60 rk)), (98, (zI G 300 rf)), (99, (zI G 60 rt)), (100, (zI G 60 rs)), (101, (zI G 6 sx))]) rfl ?_
  refine z_aload_n dX7_deduce_5 rfl rfl ?_
  refine z_get dX7_deduce_6 rfl hiX7_deduce_X7 4 lkX7_deduce_146 (Nat.le_of_ble_eq_true rfl) rfl rfl (by decide) rfl ?_
  refine z_if_ne (tgt := 15) dX7_deduce_9 rfl (by decide) (fun c9 => ?_) (fun c9 => ?_)
  · refine z_aload_n dX7_deduce_15 rfl rfl ?_
    refine z_iconst (v := nI 0) dX7_deduce_16 rfl (by decide) ?_
    refine z_putN (e9 := (oMod G (nI 0) (nI tps) (nI pts) (nI lns) (nI wds) (nI brs) (nI ors) stp hasP fld laid told (nI 0) cms (nI cmT) cmS isN (nI trs))) tyX7 tyX7_ok nmX7 dX7_deduce_17 rfl hiX7_deduce_X7 32 lkX7_deduce_155 rfl (by decide +kernel) (Nat.le_of_ble_eq_true rfl) rfl rfl (by decide) (Nat.le_of_ble_eq_true rfl) rfl rfl rfl ?_
    refine z_n (L' := [(76, (oMod G (nI 0) (nI tps) (nI pts) (nI lns) (nI wds) (nI brs) (nI ors) stp hasP fld laid told (nI 0) cms (nI cmT) cmS isN (nI trs))), (96, (zI G 1000 sg)), (97, (zI G 60 rk)), (98, (zI G 300 rf)), (99, (zI G 60 rt)), (100, (zI G 60 rs)), (101, (zI G 6 sx))]) rfl ?_
    refine z_aload_n dX7_deduce_20 rfl rfl ?_
    refine z_iconst (v := nI 0) dX7_deduce_21 rfl (by decide) ?_
    refine z_callVv (c_X7_layTable G ex _ (nI 0) tps pts lns wds brs ors stp hasP fld laid told 0 cms cmT cmS isN trs lm om os sg rk rt rs 0 (by omega) (by omega) (by omega) (by omega) (fun k hk => absurd hk (Nat.not_lt_zero k)) rfl h82 h87 h88 rfl rfl rfl rfl) gX7_deduce_X7_layTable rfl dX7_deduce_22 rfl rfl rfl okk_X7_layTable (Nat.le_of_ble_eq_true rfl) rfl rfl ⟨Nat.le_of_ble_eq_true rfl, Nat.le_of_ble_eq_true rfl⟩ ⟨Nat.le_of_ble_eq_true rfl, Nat.le_of_ble_eq_true rfl⟩ (Nat.le_of_ble_eq_true rfl) ?_
    refine z_nn (L' := [(76, (oMod G (nI 0) (nI tps) (nI pts) (nI lns) (nI wds) (nI brs) (nI ors) stp hasP fld laid told (nI 0) cms (nI cmT) cmS isN (nI trs))), (96, (zI G 1000 (X7_layTable_c96 pts lns ors lm om os sg rk rt rs 0))), (97, (zI G 60 rk)), (98, (zI G 300 rf)), (99, (zI G 60 rt)), (100, (zI G 60 rs)), (101, (zI G 6 sx))]) rfl ?_
    refine z_aload_n dX7_deduce_25 rfl rfl ?_
    refine z_iconst (v := nI 3) dX7_deduce_26 rfl (by decide) ?_
    refine z_putN (e9 := (oMod G (nI 0) (nI tps) (nI pts) (nI lns) (nI wds) (nI brs) (nI ors) stp hasP fld laid (nI 3) (nI 0) cms (nI cmT) cmS isN (nI trs))) tyX7 tyX7_ok nmX7 dX7_deduce_27 rfl hiX7_deduce_X7 31 lkX7_deduce_119 rfl (by decide +kernel) (Nat.le_of_ble_eq_true rfl) rfl rfl (by decide) (Nat.le_of_ble_eq_true rfl) rfl rfl rfl ?_
    refine z_n (L' := [(76, (oMod G (nI 0) (nI tps) (nI pts) (nI lns) (nI wds) (nI brs) (nI ors) stp hasP fld laid (nI 3) (nI 0) cms (nI cmT) cmS isN (nI trs))), (96, (zI G 1000 (X7_layTable_c96 pts lns ors lm om os sg rk rt rs 0))), (97, (zI G 60 rk)), (98, (zI G 300 rf)), (99, (zI G 60 rt)), (100, (zI G 60 rs)), (101, (zI G 6 sx))]) rfl ?_
    refine z_forB (head := fun t (st9 : (Nat → Int32) × (Int32) × (Nat) × (Int32) × (Int32) × (Nat) × (Nat → Int32) × (Nat → Int32) × (Nat → Int32) × (Nat → Int32) × (Nat → Int32)) => Z G mX7_deduce (zrm 5 130) ex _ 30 [some (.ref (zB G + 76))] [] (zN, zus g [(76, (oMod G (nI 0) (nI tps) (nI pts) (nI lns) (nI wds) (nI brs) (nI ors) stp hasP fld laid st9.2.2.2.2.1 (nI st9.2.2.2.2.2.1) st9.2.1 (nI st9.2.2.1) st9.2.2.2.1 isN (nI trs))), (96, (zI G 1000 st9.2.2.2.2.2.2.1)), (97, (zI G 60 st9.2.2.2.2.2.2.2.1)), (98, (zI G 300 st9.2.2.2.2.2.2.2.2.1)), (99, (zI G 60 st9.2.2.2.2.2.2.2.2.2.1)), (100, (zI G 60 st9.2.2.2.2.2.2.2.2.2.2)), (101, (zI G 6 st9.1))]) 0 0) (out := fun b _ => (some (Value.int b.1) = some (Value.int (X7_deduce_v pts lns brs ors cms cmT cmS lm bm om os sg rk rt rs rf sx))) ∧ ((zN, zus g [(76, (oMod G (nI b.2.1) (nI tps) (nI pts) (nI lns) (nI wds) (nI brs) (nI ors) stp hasP fld laid b.2.2.1 (nI b.2.2.2.1) b.2.2.2.2.1 (nI b.2.2.2.2.2.1) b.2.2.2.2.2.2.1 isN (nI trs))), (96, (zI G 1000 b.2.2.2.2.2.2.2.1)), (97, (zI G 60 b.2.2.2.2.2.2.2.2.1)), (98, (zI G 300 b.2.2.2.2.2.2.2.2.2.1)), (99, (zI G 60 b.2.2.2.2.2.2.2.2.2.2.1)), (100, (zI G 60 b.2.2.2.2.2.2.2.2.2.2.2.1)), (101, (zI G 6 b.2.2.2.2.2.2.2.2.2.2.2.2))]) : zAH) = (zN, zus g [(76, (oMod G (nI (X7_deduce_p76_0 pts lns brs ors cms cmT cmS lm bm om os sg rk rt rs rf sx)) (nI tps) (nI pts) (nI lns) (nI wds) (nI brs) (nI ors) stp hasP fld laid (X7_deduce_p76_11 pts lns brs ors told cms cmT cmS lm bm om os sg rk rt rs rf sx) (nI (X7_deduce_p76_12 pts lns brs ors rws cms cmT cmS lm bm om os sg rk rt rs rf sx)) (X7_deduce_p76_13 pts lns brs ors cms cmT cmS lm bm om os sg rk rt rs rf sx) (nI (X7_deduce_p76_14 pts lns brs ors cms cmT cmS lm bm om os sg rk rt rs rf sx)) (X7_deduce_p76_15 pts lns brs ors cms cmT cmS lm bm om os sg rk rt rs rf sx) isN (nI trs))), (96, zI G 1000 (X7_deduce_c96 pts lns brs ors cms cmT cmS lm bm om os sg rk rt rs rf sx)), (97, zI G 60 (X7_deduce_c97 pts lns brs ors cms cmT cmS lm bm om os sg rk rt rs rf sx)), (98, zI G 300 (X7_deduce_c98 pts lns brs ors cms cmT cmS lm bm om os sg rk rt rs rf sx)), (99, zI G 60 (X7_deduce_c99 pts lns brs ors cms cmT cmS lm bm om os sg rk rt rs rf sx)), (100, zI G 60 (X7_deduce_c100 pts lns brs ors cms cmT cmS lm bm om os sg rk rt rs rf sx)), (101, zI G 6 (X7_deduce_c101 pts lns brs ors cms cmT cmS lm bm om os sg rk rt rs rf sx))])) (B := (X7_deduce_L30_B pts brs bm)) (F := (X7_deduce_L30_F pts brs bm)) (n := 61) (fun t a => a.2.2.1 < 1000 ∧ ((a.2.2.2.2.1 = nI 3 ∧ a.2.2.2.2.2.1 = t ∧ t < 60) ∨ (¬ a.2.2.2.2.1 = nI 3 ∧ t ≤ 60))) (fun t a ht h hB => by
          unfold X7_deduce_L30_B at hB
          unfold X7_deduce_L30_F
          by_cases c1 : a.2.2.2.2.1 = nI 3
          · have h3 : a.2.2.2.2.2.1 = t ∧ t < 60 := by
              rcases h.2 with q | q
              · exact q.2
              · exact absurd c1 q.1
            simp only [if_pos c1]
            split
            · exact ⟨follows_lt hp h.1, Or.inr ⟨by first | exact (show ¬ nI 1 = nI 3 by decide) | exact (show ¬ nI 2 = nI 3 by decide) | exact (show ¬ nI 0 = nI 3 by decide), by omega⟩⟩
            · rename_i c2
              have e := follows_rw hp h.1 c2
              split
              · rename_i c3
                split
                · exact ⟨follows_lt hp h.1, Or.inr ⟨by first | exact (show ¬ nI 1 = nI 3 by decide) | exact (show ¬ nI 2 = nI 3 by decide) | exact (show ¬ nI 0 = nI 3 by decide), by omega⟩⟩
                · rename_i c4
                  refine ⟨follows_lt hp h.1, Or.inl ⟨c1, by show X7_follows_p76_12 _ _ _ _ _ _ _ _ _ _ _ _ _ = t + 1; rw [e, h3.1], ?_⟩⟩
                  have : ¬ t + 1 = 60 := fun q => c4 (by rw [e, h3.1, q])
                  omega
              · exact ⟨follows_lt hp h.1, Or.inr ⟨by first | exact (show ¬ nI 1 = nI 3 by decide) | exact (show ¬ nI 2 = nI 3 by decide) | exact (show ¬ nI 0 = nI 3 by decide), by omega⟩⟩
          · simp only [if_neg c1] at hB
            cases hB) ?_ 61 0 (sx, cms, cmT, cmS, nI 3, 0, X7_layTable_c96 pts lns ors lm om os sg rk rt rs 0, rk, rf, rt, rs) (by omega) ⟨hcm, Or.inl ⟨rfl, rfl, by decide⟩⟩ ?_ ?_
    · intro t a9 hi hI Ko K
      obtain ⟨sx1, cms1, cmT1, cmS1, told1, rws1, sg1, rk1, rf1, rt1, rs1⟩ := a9
      refine z_aload_n dX7_deduce_30 rfl rfl ?_
      refine z_get dX7_deduce_31 rfl hiX7_deduce_X7 31 lkX7_deduce_119 (Nat.le_of_ble_eq_true rfl) rfl rfl (by decide) rfl ?_
      refine z_iconst (v := nI 3) dX7_deduce_34 rfl (by decide) ?_
      refine z_icmp_ne (tgt := 92) dX7_deduce_35 rfl (by decide) (fun c35 => ?_) (fun c35 => ?_)
      · refine z_aload_n dX7_deduce_92 rfl rfl ?_
        refine z_get dX7_deduce_93 rfl hiX7_deduce_X7 31 lkX7_deduce_119 (Nat.le_of_ble_eq_true rfl) rfl rfl (by decide) rfl ?_
        exact z_ireturn dX7_deduce_96 rfl rfl (Nat.le_refl _) (Nat.le_refl _) (fun _ => rfl) (Ko (told1, 0, told1, rws1, cms1, cmT1, cmS1, sg1, rk1, rf1, rt1, rs1, sx1) (by simp only [X7_deduce_L30_B, if_neg c35]))
      · have h3 : rws1 = t ∧ t < 60 := by
          rcases hI.2 with q | q
          · exact q.2
          · exact absurd c35 q.1
        have hc1 : cmT1 < 1000 := hI.1
        have hw1 : rws1 < 60 := by omega
        refine z_aload_n dX7_deduce_38 rfl rfl ?_
        refine z_callVi (c_X7_follows G ex _ (nI 0) tps pts lns wds brs ors stp hasP fld laid told1 rws1 cms1 cmT1 cmS1 isN trs bm sg1 rk1 rt1 rs1 rf1 sx1 (by omega) (by omega) (by omega) (by omega) rfl h86 rfl rfl rfl rfl rfl rfl) gX7_deduce_X7_follows rfl dX7_deduce_39 rfl rfl rfl okk_X7_follows (Nat.le_of_ble_eq_true rfl) rfl rfl ⟨Nat.le_of_ble_eq_true rfl, Nat.le_of_ble_eq_true rfl⟩ ⟨Nat.le_of_ble_eq_true rfl, Nat.le_of_ble_eq_true rfl⟩ (Nat.le_of_ble_eq_true rfl) ?_
        refine z_nn (L' := [(76, (oMod G (nI 0) (nI tps) (nI pts) (nI lns) (nI wds) (nI brs) (nI ors) stp hasP fld laid told1 (nI (X7_follows_p76_12 pts brs rws1 cms1 cmT1 cmS1 bm sg1 rk1 rt1 rs1 rf1 sx1)) (X7_follows_p76_13 pts brs rws1 cms1 cmT1 cmS1 bm sg1 rk1 rt1 rs1 rf1 sx1) (nI (X7_follows_p76_14 pts brs rws1 cms1 cmT1 cmS1 bm sg1 rk1 rt1 rs1 rf1 sx1)) (X7_follows_p76_15 pts brs rws1 cms1 cmT1 cmS1 bm sg1 rk1 rt1 rs1 rf1 sx1) isN (nI trs))), (96, (zI G 1000 (X7_follows_c96 pts brs rws1 cms1 cmT1 cmS1 bm sg1 rk1 rt1 rs1 rf1 sx1))), (97, (zI G 60 (X7_follows_c97 pts brs rws1 cms1 cmT1 cmS1 bm sg1 rk1 rt1 rs1 rf1 sx1))), (98, (zI G 300 (X7_follows_c98 pts brs rws1 cms1 cmT1 cmS1 bm sg1 rk1 rt1 rs1 rf1 sx1))), (99, (zI G 60 (X7_follows_c99 pts brs rws1 cms1 cmT1 cmS1 bm sg1 rk1 rt1 rs1 rf1 sx1))), (100, (zI G 60 (X7_follows_c100 pts brs rws1 cms1 cmT1 cmS1 bm sg1 rk1 rt1 rs1 rf1 sx1))), (101, (zI G 6 (X7_follows_c101 pts brs rws1 cms1 cmT1 cmS1 bm sg1 rk1 rt1 rs1 rf1 sx1)))]) rfl ?_
        refine z_if_ne (tgt := 53) dX7_deduce_42 rfl (by decide) (fun c42 => ?_) (fun c42 => ?_)
        · have e9 := follows_rw hp hc1 c42
          have hfw : X7_follows_p76_12 pts brs rws1 cms1 cmT1 cmS1 bm sg1 rk1 rt1 rs1 rf1 sx1 = rws1 + 1 := e9
          refine z_aload_n dX7_deduce_53 rfl rfl ?_
          refine z_get dX7_deduce_54 rfl hiX7_deduce_X7 33 lkX7_deduce_74 (Nat.le_of_ble_eq_true rfl) rfl rfl (by decide) rfl ?_
          refine z_aload_n dX7_deduce_57 rfl rfl ?_
          refine z_get dX7_deduce_58 rfl hiX7_deduce_X7 32 lkX7_deduce_155 (Nat.le_of_ble_eq_true rfl) rfl rfl (by decide) rfl ?_
          refine z_iconst (v := nI 1) dX7_deduce_61 rfl (by decide) ?_
          refine z_isub dX7_deduce_62 rfl ?_
          refine z_ialdN (j := (X7_follows_p76_12 pts brs rws1 cms1 cmT1 cmS1 bm sg1 rk1 rt1 rs1 rf1 sx1) - 1) dX7_deduce_63 rfl (Nat.le_of_ble_eq_true rfl) rfl ((zq_sub rfl rfl (by omega))) (by omega) (by decide) ?_
          refine z_if_eq (tgt := 75) dX7_deduce_64 rfl (by decide) (fun c64 => ?_) (fun c64 => ?_)
          · refine z_aload_n dX7_deduce_75 rfl rfl ?_
            refine z_get dX7_deduce_76 rfl hiX7_deduce_X7 32 lkX7_deduce_155 (Nat.le_of_ble_eq_true rfl) rfl rfl (by decide) rfl ?_
            refine z_bipush (v := nI 60) dX7_deduce_79 rfl (by decide) ?_
            refine z_icmp_ne (tgt := 30) dX7_deduce_81 rfl (by decide) (fun c81 => ?_) (fun c81 => ?_)
            · have K9 := (K (by simp only [X7_deduce_L30_B, if_pos c35, if_neg c42, if_pos c64, if_neg c81]))
              try simp only [X7_deduce_L30_F, if_pos c35, if_neg c42, if_pos c64, if_neg c81] at K9
              exact K9
            · refine z_aload_n dX7_deduce_84 rfl rfl ?_
              refine z_iconst (v := nI 2) dX7_deduce_85 rfl (by decide) ?_
              refine z_putN (e9 := (oMod G (nI 0) (nI tps) (nI pts) (nI lns) (nI wds) (nI brs) (nI ors) stp hasP fld laid (nI 2) (nI (X7_follows_p76_12 pts brs rws1 cms1 cmT1 cmS1 bm sg1 rk1 rt1 rs1 rf1 sx1)) (X7_follows_p76_13 pts brs rws1 cms1 cmT1 cmS1 bm sg1 rk1 rt1 rs1 rf1 sx1) (nI (X7_follows_p76_14 pts brs rws1 cms1 cmT1 cmS1 bm sg1 rk1 rt1 rs1 rf1 sx1)) (X7_follows_p76_15 pts brs rws1 cms1 cmT1 cmS1 bm sg1 rk1 rt1 rs1 rf1 sx1) isN (nI trs))) tyX7 tyX7_ok nmX7 dX7_deduce_86 rfl hiX7_deduce_X7 31 lkX7_deduce_119 rfl (by decide +kernel) (Nat.le_of_ble_eq_true rfl) rfl rfl (by decide) (Nat.le_of_ble_eq_true rfl) rfl rfl rfl ?_
              refine z_n (L' := [(76, (oMod G (nI 0) (nI tps) (nI pts) (nI lns) (nI wds) (nI brs) (nI ors) stp hasP fld laid (nI 2) (nI (X7_follows_p76_12 pts brs rws1 cms1 cmT1 cmS1 bm sg1 rk1 rt1 rs1 rf1 sx1)) (X7_follows_p76_13 pts brs rws1 cms1 cmT1 cmS1 bm sg1 rk1 rt1 rs1 rf1 sx1) (nI (X7_follows_p76_14 pts brs rws1 cms1 cmT1 cmS1 bm sg1 rk1 rt1 rs1 rf1 sx1)) (X7_follows_p76_15 pts brs rws1 cms1 cmT1 cmS1 bm sg1 rk1 rt1 rs1 rf1 sx1) isN (nI trs))), (96, (zI G 1000 (X7_follows_c96 pts brs rws1 cms1 cmT1 cmS1 bm sg1 rk1 rt1 rs1 rf1 sx1))), (97, (zI G 60 (X7_follows_c97 pts brs rws1 cms1 cmT1 cmS1 bm sg1 rk1 rt1 rs1 rf1 sx1))), (98, (zI G 300 (X7_follows_c98 pts brs rws1 cms1 cmT1 cmS1 bm sg1 rk1 rt1 rs1 rf1 sx1))), (99, (zI G 60 (X7_follows_c99 pts brs rws1 cms1 cmT1 cmS1 bm sg1 rk1 rt1 rs1 rf1 sx1))), (100, (zI G 60 (X7_follows_c100 pts brs rws1 cms1 cmT1 cmS1 bm sg1 rk1 rt1 rs1 rf1 sx1))), (101, (zI G 6 (X7_follows_c101 pts brs rws1 cms1 cmT1 cmS1 bm sg1 rk1 rt1 rs1 rf1 sx1)))]) rfl ?_
              refine z_goto (tgt := 30) dX7_deduce_89 (by decide) ?_
              have K9 := (K (by simp only [X7_deduce_L30_B, if_pos c35, if_neg c42, if_pos c64, if_pos c81]))
              try simp only [X7_deduce_L30_F, if_pos c35, if_neg c42, if_pos c64, if_pos c81] at K9
              exact K9
          · refine z_aload_n dX7_deduce_67 rfl rfl ?_
            refine z_iconst (v := nI 0) dX7_deduce_68 rfl (by decide) ?_
            refine z_putN (e9 := (oMod G (nI 0) (nI tps) (nI pts) (nI lns) (nI wds) (nI brs) (nI ors) stp hasP fld laid (nI 0) (nI (X7_follows_p76_12 pts brs rws1 cms1 cmT1 cmS1 bm sg1 rk1 rt1 rs1 rf1 sx1)) (X7_follows_p76_13 pts brs rws1 cms1 cmT1 cmS1 bm sg1 rk1 rt1 rs1 rf1 sx1) (nI (X7_follows_p76_14 pts brs rws1 cms1 cmT1 cmS1 bm sg1 rk1 rt1 rs1 rf1 sx1)) (X7_follows_p76_15 pts brs rws1 cms1 cmT1 cmS1 bm sg1 rk1 rt1 rs1 rf1 sx1) isN (nI trs))) tyX7 tyX7_ok nmX7 dX7_deduce_69 rfl hiX7_deduce_X7 31 lkX7_deduce_119 rfl (by decide +kernel) (Nat.le_of_ble_eq_true rfl) rfl rfl (by decide) (Nat.le_of_ble_eq_true rfl) rfl rfl rfl ?_
            refine z_n (L' := [(76, (oMod G (nI 0) (nI tps) (nI pts) (nI lns) (nI wds) (nI brs) (nI ors) stp hasP fld laid (nI 0) (nI (X7_follows_p76_12 pts brs rws1 cms1 cmT1 cmS1 bm sg1 rk1 rt1 rs1 rf1 sx1)) (X7_follows_p76_13 pts brs rws1 cms1 cmT1 cmS1 bm sg1 rk1 rt1 rs1 rf1 sx1) (nI (X7_follows_p76_14 pts brs rws1 cms1 cmT1 cmS1 bm sg1 rk1 rt1 rs1 rf1 sx1)) (X7_follows_p76_15 pts brs rws1 cms1 cmT1 cmS1 bm sg1 rk1 rt1 rs1 rf1 sx1) isN (nI trs))), (96, (zI G 1000 (X7_follows_c96 pts brs rws1 cms1 cmT1 cmS1 bm sg1 rk1 rt1 rs1 rf1 sx1))), (97, (zI G 60 (X7_follows_c97 pts brs rws1 cms1 cmT1 cmS1 bm sg1 rk1 rt1 rs1 rf1 sx1))), (98, (zI G 300 (X7_follows_c98 pts brs rws1 cms1 cmT1 cmS1 bm sg1 rk1 rt1 rs1 rf1 sx1))), (99, (zI G 60 (X7_follows_c99 pts brs rws1 cms1 cmT1 cmS1 bm sg1 rk1 rt1 rs1 rf1 sx1))), (100, (zI G 60 (X7_follows_c100 pts brs rws1 cms1 cmT1 cmS1 bm sg1 rk1 rt1 rs1 rf1 sx1))), (101, (zI G 6 (X7_follows_c101 pts brs rws1 cms1 cmT1 cmS1 bm sg1 rk1 rt1 rs1 rf1 sx1)))]) rfl ?_
            refine z_goto (tgt := 30) dX7_deduce_72 (by decide) ?_
            have K9 := (K (by simp only [X7_deduce_L30_B, if_pos c35, if_neg c42, if_neg c64]))
            try simp only [X7_deduce_L30_F, if_pos c35, if_neg c42, if_neg c64] at K9
            exact K9
        · refine z_aload_n dX7_deduce_45 rfl rfl ?_
          refine z_iconst (v := nI 1) dX7_deduce_46 rfl (by decide) ?_
          refine z_putN (e9 := (oMod G (nI 0) (nI tps) (nI pts) (nI lns) (nI wds) (nI brs) (nI ors) stp hasP fld laid (nI 1) (nI (X7_follows_p76_12 pts brs rws1 cms1 cmT1 cmS1 bm sg1 rk1 rt1 rs1 rf1 sx1)) (X7_follows_p76_13 pts brs rws1 cms1 cmT1 cmS1 bm sg1 rk1 rt1 rs1 rf1 sx1) (nI (X7_follows_p76_14 pts brs rws1 cms1 cmT1 cmS1 bm sg1 rk1 rt1 rs1 rf1 sx1)) (X7_follows_p76_15 pts brs rws1 cms1 cmT1 cmS1 bm sg1 rk1 rt1 rs1 rf1 sx1) isN (nI trs))) tyX7 tyX7_ok nmX7 dX7_deduce_47 rfl hiX7_deduce_X7 31 lkX7_deduce_119 rfl (by decide +kernel) (Nat.le_of_ble_eq_true rfl) rfl rfl (by decide) (Nat.le_of_ble_eq_true rfl) rfl rfl rfl ?_
          refine z_n (L' := [(76, (oMod G (nI 0) (nI tps) (nI pts) (nI lns) (nI wds) (nI brs) (nI ors) stp hasP fld laid (nI 1) (nI (X7_follows_p76_12 pts brs rws1 cms1 cmT1 cmS1 bm sg1 rk1 rt1 rs1 rf1 sx1)) (X7_follows_p76_13 pts brs rws1 cms1 cmT1 cmS1 bm sg1 rk1 rt1 rs1 rf1 sx1) (nI (X7_follows_p76_14 pts brs rws1 cms1 cmT1 cmS1 bm sg1 rk1 rt1 rs1 rf1 sx1)) (X7_follows_p76_15 pts brs rws1 cms1 cmT1 cmS1 bm sg1 rk1 rt1 rs1 rf1 sx1) isN (nI trs))), (96, (zI G 1000 (X7_follows_c96 pts brs rws1 cms1 cmT1 cmS1 bm sg1 rk1 rt1 rs1 rf1 sx1))), (97, (zI G 60 (X7_follows_c97 pts brs rws1 cms1 cmT1 cmS1 bm sg1 rk1 rt1 rs1 rf1 sx1))), (98, (zI G 300 (X7_follows_c98 pts brs rws1 cms1 cmT1 cmS1 bm sg1 rk1 rt1 rs1 rf1 sx1))), (99, (zI G 60 (X7_follows_c99 pts brs rws1 cms1 cmT1 cmS1 bm sg1 rk1 rt1 rs1 rf1 sx1))), (100, (zI G 60 (X7_follows_c100 pts brs rws1 cms1 cmT1 cmS1 bm sg1 rk1 rt1 rs1 rf1 sx1))), (101, (zI G 6 (X7_follows_c101 pts brs rws1 cms1 cmT1 cmS1 bm sg1 rk1 rt1 rs1 rf1 sx1)))]) rfl ?_
          refine z_goto (tgt := 30) dX7_deduce_50 (by decide) ?_
          have K9 := (K (by simp only [X7_deduce_L30_B, if_pos c35, if_pos c42]))
          try simp only [X7_deduce_L30_F, if_pos c35, if_pos c42] at K9
          exact K9
    · intro b a9 hz30
      exact ⟨by simp only [X7_deduce_v, if_neg c9, hz30, zpick_s], by simp only [X7_deduce_p76_0, X7_deduce_p76_11, X7_deduce_p76_12, X7_deduce_p76_13, X7_deduce_p76_14, X7_deduce_p76_15, X7_deduce_c96, X7_deduce_c97, X7_deduce_c98, X7_deduce_c99, X7_deduce_c100, X7_deduce_c101, if_neg c9, hz30, zpick_s]⟩
    · intro a9 hz30 hI
      obtain ⟨sx1, cms1, cmT1, cmS1, told1, rws1, sg1, rk1, rf1, rt1, rs1⟩ := a9
      rcases hI.2 with q | q
      · exact absurd q.2.2 (by decide)
      · exact absurd q.2 (by decide)
  · refine z_bipush (v := (-2)) dX7_deduce_12 rfl (by decide) ?_
    exact z_ireturn dX7_deduce_14 rfl rfl (Nat.le_refl _) (Nat.le_refl _) (fun _ => rfl) ⟨by simp only [X7_deduce_v, if_pos c9], by simp only [X7_deduce_p76_0, X7_deduce_p76_11, X7_deduce_p76_12, X7_deduce_p76_13, X7_deduce_p76_14, X7_deduce_p76_15, X7_deduce_c96, X7_deduce_c97, X7_deduce_c98, X7_deduce_c99, X7_deduce_c100, X7_deduce_c101, if_pos c9]⟩
abbrev mX7_row : zM := (cX7_row, 4, (some .int), RX7, wsX7_row, "row")
theorem hiX7_row_X7 : ∀ w ∈ wsX70, w ∈ wsX7_row := fun w h => List.mem_cons_of_mem _ (List.mem_append_right _ h)
theorem lkX7_row_122 : Cond.fieldLink RX7 122 "ConfigSearchModel" "code" "I" ∈ wsX7_row := by decide +kernel
theorem lkX7_row_155 : Cond.fieldLink RX7 155 "ConfigSearchModel" "rows" "I" ∈ wsX7_row := by decide +kernel
theorem lkX7_row_80 : Cond.fieldLink RX7 80 "ConfigSearchModel" "rowTriple" "[I" ∈ wsX7_row := by decide +kernel
theorem lkX7_row_74 : Cond.fieldLink RX7 74 "ConfigSearchModel" "rowKind" "[I" ∈ wsX7_row := by decide +kernel
theorem lkX7_row_83 : Cond.fieldLink RX7 83 "ConfigSearchModel" "rowSign" "[I" ∈ wsX7_row := by decide +kernel
theorem lkX7_row_77 : Cond.fieldLink RX7 77 "ConfigSearchModel" "rowFive" "[I" ∈ wsX7_row := by decide +kernel
def X7_row_v (rws : Nat) (rk rt rs rf : Nat → Int32) (i w : Int32) : Int32 := if (X7_isIn_v w (nI 0) (nI 9)) = 0 then (-9) else (if (X7_isIn_v i (nI 0) ((nI rws) - (nI 1))) = 0 then (-4) else (if (nI w.toNatClampNeg) = 0 then (rk i.toNatClampNeg) else (if (nI 5) < (nI w.toNatClampNeg) then (if (nI w.toNatClampNeg) = (nI 9) then (rs i.toNatClampNeg) else (if (rk i.toNatClampNeg) = (nI 1) then (-4) else (if (nI w.toNatClampNeg) = (nI 6) then ((rt i.toNatClampNeg) / (nI 100)) else (if (nI w.toNatClampNeg) = (nI 7) then (((rt i.toNatClampNeg) / (nI 10)) - ((rt i.toNatClampNeg) / (nI 10)) / (nI 10) * (nI 10)) else ((rt i.toNatClampNeg) - (rt i.toNatClampNeg) / (nI 10) * (nI 10)))))) else (rf (((5 * i.toNatClampNeg) + w.toNatClampNeg) - 1)))))
def X7_row_p76_0 (rws : Nat) (rk : Nat → Int32) (i w : Int32) : Nat := if (X7_isIn_v w (nI 0) (nI 9)) = 0 then 0 else (if (X7_isIn_v i (nI 0) ((nI rws) - (nI 1))) = 0 then 0 else (if (nI w.toNatClampNeg) = 0 then 0 else (if (nI 5) < (nI w.toNatClampNeg) then (if (nI w.toNatClampNeg) = (nI 9) then 0 else (if (rk i.toNatClampNeg) = (nI 1) then 0 else (if (nI w.toNatClampNeg) = (nI 6) then 0 else (if (nI w.toNatClampNeg) = (nI 7) then 0 else 0)))) else 0)))
set_option maxRecDepth 100000 in
set_option maxHeartbeats 4000000 in
theorem c_X7_row (G : zG) (ex : Bool) (g : Nat → va_E) (code : Int32) (tps pts lns wds brs ors : Nat) (stp hasP fld laid told : Int32) (rws : Nat) (cms : Int32) (cmT : Nat) (cmS isN : Int32) (trs : Nat) (rk rt rs rf : Nat → Int32) (i w : Int32) (hrw : rws ≤ 60) (h76 : g 76 = (oMod G code (nI tps) (nI pts) (nI lns) (nI wds) (nI brs) (nI ors) stp hasP fld laid told (nI rws) cms (nI cmT) cmS isN (nI trs))) (h97 : g 97 = (zI G 60 rk)) (h99 : g 99 = (zI G 60 rt)) (h100 : g 100 = (zI G 60 rs)) (h98 : g 98 = (zI G 300 rf)) : zC G yX7_row wsX7_row (zrm 1 22) ex [.ref (zB G + 76), .int i, .int w] (zN, g) (fun r h => r = some (.int (X7_row_v rws rk rt rs rf i w)) ∧ h = (zN, zus g [(76, (oMod G (nI (X7_row_p76_0 rws rk i w)) (nI tps) (nI pts) (nI lns) (nI wds) (nI brs) (nI ors) stp hasP fld laid told (nI rws) cms (nI cmT) cmS isN (nI trs)))])) := by
  refine zC_of mX7_row (lv := [some (.ref (zB G + 76)), some (.int i), some (.int w), none]) rfl rfl (by decide) (by intro v hv; simp at hv; rcases hv with rfl | rfl | rfl <;> rfl) (Nat.le_of_ble_eq_true rfl) rfl ?_
  refine z_0 ?_
  refine z_heap (g' := zu (zus g []) 76 (oMod G code (nI tps) (nI pts) (nI lns) (nI wds) (nI brs) (nI ors) stp hasP fld laid told (nI rws) cms (nI cmT) cmS isN (nI trs))) (zu_self (zus g []) 76 _ h76).symm ?_
  refine z_n (L' := [(76, (oMod G code (nI tps) (nI pts) (nI lns) (nI wds) (nI brs) (nI ors) stp hasP fld laid told (nI rws) cms (nI cmT) cmS isN (nI trs)))]) rfl ?_
  refine z_aload_n dX7_row_0 rfl rfl ?_
  refine z_iconst (v := nI 0) dX7_row_1 rfl (by decide) ?_
  refine z_putN (e9 := (oMod G (nI 0) (nI tps) (nI pts) (nI lns) (nI wds) (nI brs) (nI ors) stp hasP fld laid told (nI rws) cms (nI cmT) cmS isN (nI trs))) tyX7 tyX7_ok nmX7 dX7_row_2 rfl hiX7_row_X7 0 lkX7_row_122 rfl (by decide +kernel) (Nat.le_of_ble_eq_true rfl) rfl rfl (by decide) (Nat.le_of_ble_eq_true rfl) rfl rfl rfl ?_
  refine z_n (L' := [(76, (oMod G (nI 0) (nI tps) (nI pts) (nI lns) (nI wds) (nI brs) (nI ors) stp hasP fld laid told (nI rws) cms (nI cmT) cmS isN (nI trs)))]) rfl ?_
  refine z_iload_n dX7_row_5 rfl rfl ?_
  refine z_iconst (v := nI 0) dX7_row_6 rfl (by decide) ?_
  refine z_bipush (v := nI 9) dX7_row_7 rfl (by decide) ?_
  refine z_callSi (c_X7_isIn G ex _ w (nI 0) (nI 9)) gX7_row_X7_isIn rfl dX7_row_9 rfl rfl okk_X7_isIn ⟨Nat.le_of_ble_eq_true rfl, Nat.le_of_ble_eq_true rfl⟩ ⟨Nat.le_of_ble_eq_true rfl, Nat.le_of_ble_eq_true rfl⟩ (Nat.le_of_ble_eq_true rfl) ?_
  refine z_if_ne (tgt := 18) dX7_row_12 rfl (by decide) (fun c12 => ?_) (fun c12 => ?_)
  · refine z_iload_n dX7_row_18 rfl rfl ?_
    refine z_iconst (v := nI 0) dX7_row_19 rfl (by decide) ?_
    refine z_aload_n dX7_row_20 rfl rfl ?_
    refine z_get dX7_row_21 rfl hiX7_row_X7 32 lkX7_row_155 (Nat.le_of_ble_eq_true rfl) rfl rfl (by decide) rfl ?_
    refine z_iconst (v := nI 1) dX7_row_24 rfl (by decide) ?_
    refine z_isub dX7_row_25 rfl ?_
    refine z_callSi (c_X7_isIn G ex _ i (nI 0) ((nI rws) - (nI 1))) gX7_row_X7_isIn rfl dX7_row_26 rfl rfl okk_X7_isIn ⟨Nat.le_of_ble_eq_true rfl, Nat.le_of_ble_eq_true rfl⟩ ⟨Nat.le_of_ble_eq_true rfl, Nat.le_of_ble_eq_true rfl⟩ (Nat.le_of_ble_eq_true rfl) ?_
    refine z_if_ne (tgt := 35) dX7_row_29 rfl (by decide) (fun c29 => ?_) (fun c29 => ?_)
    · have hvi : vp_in i rws := isIn_in c29 (by omega)
      have hli := zvlt hvi
      refine z_lv (congrArg (fun z9 : Int32 => ([some (.ref (zB G + 76)), some (.int z9), some (.int w), none] : List (Option Value))) (show i = (nI i.toNatClampNeg) from zvin hvi)) ?_
      have hvw : vp_in w 10 := isIn_k (n := 9) c12 (by decide)
      have hlw := zvlt hvw
      refine z_lv (congrArg (fun z9 : Int32 => ([some (.ref (zB G + 76)), some (.int (nI i.toNatClampNeg)), some (.int z9), none] : List (Option Value))) (show w = (nI w.toNatClampNeg) from zvin hvw)) ?_
      refine z_iload_n dX7_row_35 rfl rfl ?_
      refine z_if_ne (tgt := 46) dX7_row_36 rfl (by decide) (fun c36 => ?_) (fun c36 => ?_)
      · refine z_iload_n dX7_row_46 rfl rfl ?_
        refine z_iconst (v := nI 5) dX7_row_47 rfl (by decide) ?_
        refine z_icmp_gt (tgt := 64) dX7_row_48 rfl (by decide) (fun c48 => ?_) (fun c48 => ?_)
        · refine z_iload_n dX7_row_64 rfl rfl ?_
          refine z_bipush (v := nI 9) dX7_row_65 rfl (by decide) ?_
          refine z_icmp_ne (tgt := 77) dX7_row_67 rfl (by decide) (fun c67 => ?_) (fun c67 => ?_)
          · refine z_aload_n dX7_row_77 rfl rfl ?_
            refine z_get dX7_row_78 rfl hiX7_row_X7 35 lkX7_row_80 (Nat.le_of_ble_eq_true rfl) rfl rfl (by decide) rfl ?_
            refine z_iload_n dX7_row_81 rfl rfl ?_
            refine z_ialdN (j := i.toNatClampNeg) dX7_row_82 rfl (Nat.le_of_ble_eq_true rfl) h99 (rfl) (by omega) (by decide) ?_
            refine z_istore_3 dX7_row_83 rfl ?_
            refine z_aload_n dX7_row_84 rfl rfl ?_
            refine z_get dX7_row_85 rfl hiX7_row_X7 33 lkX7_row_74 (Nat.le_of_ble_eq_true rfl) rfl rfl (by decide) rfl ?_
            refine z_iload_n dX7_row_88 rfl rfl ?_
            refine z_ialdN (j := i.toNatClampNeg) dX7_row_89 rfl (Nat.le_of_ble_eq_true rfl) h97 (rfl) (by omega) (by decide) ?_
            refine z_iconst (v := nI 1) dX7_row_90 rfl (by decide) ?_
            refine z_icmp_ne (tgt := 99) dX7_row_91 rfl (by decide) (fun c91 => ?_) (fun c91 => ?_)
            · refine z_iload_n dX7_row_99 rfl rfl ?_
              refine z_bipush (v := nI 6) dX7_row_100 rfl (by decide) ?_
              refine z_icmp_ne (tgt := 112) dX7_row_102 rfl (by decide) (fun c102 => ?_) (fun c102 => ?_)
              · refine z_iload_n dX7_row_112 rfl rfl ?_
                refine z_bipush (v := nI 7) dX7_row_113 rfl (by decide) ?_
                refine z_icmp_ne (tgt := 128) dX7_row_115 rfl (by decide) (fun c115 => ?_) (fun c115 => ?_)
                · refine z_iload_n dX7_row_128 rfl rfl ?_
                  refine z_bipush (v := nI 10) dX7_row_129 rfl (by decide) ?_
                  refine z_irem dX7_row_131 rfl (by decide) ?_
                  exact z_ireturn dX7_row_132 rfl rfl (Nat.le_refl _) (Nat.le_refl _) (fun _ => rfl) ⟨by simp only [X7_row_v, if_neg c12, if_neg c29, if_neg c36, if_pos c48, if_neg c67, if_neg c91, if_neg c102, if_neg c115], by simp only [X7_row_p76_0, if_neg c12, if_neg c29, if_neg c36, if_pos c48, if_neg c67, if_neg c91, if_neg c102, if_neg c115]⟩
                · refine z_iload_n dX7_row_118 rfl rfl ?_
                  refine z_bipush (v := nI 10) dX7_row_119 rfl (by decide) ?_
                  refine z_idiv dX7_row_121 rfl (by decide) ?_
                  refine z_bipush (v := nI 10) dX7_row_122 rfl (by decide) ?_
                  refine z_irem dX7_row_124 rfl (by decide) ?_
                  refine z_goto (tgt := 132) dX7_row_125 (by decide) ?_
                  exact z_ireturn dX7_row_132 rfl rfl (Nat.le_refl _) (Nat.le_refl _) (fun _ => rfl) ⟨by simp only [X7_row_v, if_neg c12, if_neg c29, if_neg c36, if_pos c48, if_neg c67, if_neg c91, if_neg c102, if_pos c115], by simp only [X7_row_p76_0, if_neg c12, if_neg c29, if_neg c36, if_pos c48, if_neg c67, if_neg c91, if_neg c102, if_pos c115]⟩
              · refine z_iload_n dX7_row_105 rfl rfl ?_
                refine z_bipush (v := nI 100) dX7_row_106 rfl (by decide) ?_
                refine z_idiv dX7_row_108 rfl (by decide) ?_
                refine z_goto (tgt := 132) dX7_row_109 (by decide) ?_
                exact z_ireturn dX7_row_132 rfl rfl (Nat.le_refl _) (Nat.le_refl _) (fun _ => rfl) ⟨by simp only [X7_row_v, if_neg c12, if_neg c29, if_neg c36, if_pos c48, if_neg c67, if_neg c91, if_pos c102], by simp only [X7_row_p76_0, if_neg c12, if_neg c29, if_neg c36, if_pos c48, if_neg c67, if_neg c91, if_pos c102]⟩
            · refine z_bipush (v := (-4)) dX7_row_94 rfl (by decide) ?_
              refine z_goto (tgt := 132) dX7_row_96 (by decide) ?_
              exact z_ireturn dX7_row_132 rfl rfl (Nat.le_refl _) (Nat.le_refl _) (fun _ => rfl) ⟨by simp only [X7_row_v, if_neg c12, if_neg c29, if_neg c36, if_pos c48, if_neg c67, if_pos c91], by simp only [X7_row_p76_0, if_neg c12, if_neg c29, if_neg c36, if_pos c48, if_neg c67, if_pos c91]⟩
          · refine z_aload_n dX7_row_70 rfl rfl ?_
            refine z_get dX7_row_71 rfl hiX7_row_X7 36 lkX7_row_83 (Nat.le_of_ble_eq_true rfl) rfl rfl (by decide) rfl ?_
            refine z_iload_n dX7_row_74 rfl rfl ?_
            refine z_ialdN (j := i.toNatClampNeg) dX7_row_75 rfl (Nat.le_of_ble_eq_true rfl) h100 (rfl) (by omega) (by decide) ?_
            exact z_ireturn dX7_row_76 rfl rfl (Nat.le_refl _) (Nat.le_refl _) (fun _ => rfl) ⟨by simp only [X7_row_v, if_neg c12, if_neg c29, if_neg c36, if_pos c48, if_pos c67], by simp only [X7_row_p76_0, if_neg c12, if_neg c29, if_neg c36, if_pos c48, if_pos c67]⟩
        · have hw5 : w.toNatClampNeg ≤ 5 := Nat.not_lt.mp (fun q => c48 (nI_lt q (by omega)))
          have hw1 : 1 ≤ w.toNatClampNeg := Nat.pos_of_ne_zero (fun q => c36 (by rw [q]; rfl))
          refine z_aload_n dX7_row_51 rfl rfl ?_
          refine z_get dX7_row_52 rfl hiX7_row_X7 34 lkX7_row_77 (Nat.le_of_ble_eq_true rfl) rfl rfl (by decide) rfl ?_
          refine z_iconst (v := nI 5) dX7_row_55 rfl (by decide) ?_
          refine z_iload_n dX7_row_56 rfl rfl ?_
          refine z_imul dX7_row_57 rfl ?_
          refine z_iload_n dX7_row_58 rfl rfl ?_
          refine z_iadd dX7_row_59 rfl ?_
          refine z_iconst (v := nI 1) dX7_row_60 rfl (by decide) ?_
          refine z_isub dX7_row_61 rfl ?_
          refine z_ialdN (j := ((5 * i.toNatClampNeg) + w.toNatClampNeg) - 1) dX7_row_62 rfl (Nat.le_of_ble_eq_true rfl) h98 ((zq_sub (zq_add (zq_mul rfl rfl) rfl) rfl (by omega))) (by omega) (by decide) ?_
          exact z_ireturn dX7_row_63 rfl rfl (Nat.le_refl _) (Nat.le_refl _) (fun _ => rfl) ⟨by simp only [X7_row_v, if_neg c12, if_neg c29, if_neg c36, if_neg c48], by simp only [X7_row_p76_0, if_neg c12, if_neg c29, if_neg c36, if_neg c48]⟩
      · refine z_aload_n dX7_row_39 rfl rfl ?_
        refine z_get dX7_row_40 rfl hiX7_row_X7 33 lkX7_row_74 (Nat.le_of_ble_eq_true rfl) rfl rfl (by decide) rfl ?_
        refine z_iload_n dX7_row_43 rfl rfl ?_
        refine z_ialdN (j := i.toNatClampNeg) dX7_row_44 rfl (Nat.le_of_ble_eq_true rfl) h97 (rfl) (by omega) (by decide) ?_
        exact z_ireturn dX7_row_45 rfl rfl (Nat.le_refl _) (Nat.le_refl _) (fun _ => rfl) ⟨by simp only [X7_row_v, if_neg c12, if_neg c29, if_pos c36], by simp only [X7_row_p76_0, if_neg c12, if_neg c29, if_pos c36]⟩
    · refine z_bipush (v := (-4)) dX7_row_32 rfl (by decide) ?_
      exact z_ireturn dX7_row_34 rfl rfl (Nat.le_refl _) (Nat.le_refl _) (fun _ => rfl) ⟨by simp only [X7_row_v, if_neg c12, if_pos c29], by simp only [X7_row_p76_0, if_neg c12, if_pos c29]⟩
  · refine z_bipush (v := (-9)) dX7_row_15 rfl (by decide) ?_
    exact z_ireturn dX7_row_17 rfl rfl (Nat.le_refl _) (Nat.le_refl _) (fun _ => rfl) ⟨by simp only [X7_row_v, if_pos c12], by simp only [X7_row_p76_0, if_pos c12]⟩
abbrev mX7_plant : zM := (cX7_plant, 4, (some .int), RX7, wsX7_plant, "plant")
theorem hiX7_plant_X7 : ∀ w ∈ wsX70, w ∈ wsX7_plant := fun w h => List.mem_cons_of_mem _ (List.mem_append_right _ h)
theorem lkX7_plant_122 : Cond.fieldLink RX7 122 "ConfigSearchModel" "code" "I" ∈ wsX7_plant := by decide +kernel
theorem lkX7_plant_155 : Cond.fieldLink RX7 155 "ConfigSearchModel" "rows" "I" ∈ wsX7_plant := by decide +kernel
theorem lkX7_plant_74 : Cond.fieldLink RX7 74 "ConfigSearchModel" "rowKind" "[I" ∈ wsX7_plant := by decide +kernel
theorem lkX7_plant_83 : Cond.fieldLink RX7 83 "ConfigSearchModel" "rowSign" "[I" ∈ wsX7_plant := by decide +kernel
def X7_plant_v (rws : Nat) (rk rs : Nat → Int32) (i v : Int32) : Int32 := if (X7_isIn_v v (-1) (nI 1)) = 0 then (-9) else (if (X7_isIn_v i (nI 0) ((nI rws) - (nI 1))) = 0 then (-4) else (if (rk i.toNatClampNeg) = (nI 1) then (-4) else (rs i.toNatClampNeg)))
def X7_plant_p76_0 (rws : Nat) (rk : Nat → Int32) (i v : Int32) : Nat := if (X7_isIn_v v (-1) (nI 1)) = 0 then 0 else (if (X7_isIn_v i (nI 0) ((nI rws) - (nI 1))) = 0 then 0 else (if (rk i.toNatClampNeg) = (nI 1) then 0 else 0))
def X7_plant_c100 (rws : Nat) (rk rs : Nat → Int32) (i v : Int32) : Nat → Int32 := if (X7_isIn_v v (-1) (nI 1)) = 0 then rs else (if (X7_isIn_v i (nI 0) ((nI rws) - (nI 1))) = 0 then rs else (if (rk i.toNatClampNeg) = (nI 1) then rs else (upd rs i.toNatClampNeg v)))
set_option maxRecDepth 100000 in
set_option maxHeartbeats 4000000 in
theorem c_X7_plant (G : zG) (ex : Bool) (g : Nat → va_E) (code : Int32) (tps pts lns wds brs ors : Nat) (stp hasP fld laid told : Int32) (rws : Nat) (cms : Int32) (cmT : Nat) (cmS isN : Int32) (trs : Nat) (rk rt rs : Nat → Int32) (i v : Int32) (hrw : rws ≤ 60) (h76 : g 76 = (oMod G code (nI tps) (nI pts) (nI lns) (nI wds) (nI brs) (nI ors) stp hasP fld laid told (nI rws) cms (nI cmT) cmS isN (nI trs))) (h97 : g 97 = (zI G 60 rk)) (h99 : g 99 = (zI G 60 rt)) (h100 : g 100 = (zI G 60 rs)) : zC G yX7_plant wsX7_plant (zrm 1 22) ex [.ref (zB G + 76), .int i, .int v] (zN, g) (fun r h => r = some (.int (X7_plant_v rws rk rs i v)) ∧ h = (zN, zus g [(76, (oMod G (nI (X7_plant_p76_0 rws rk i v)) (nI tps) (nI pts) (nI lns) (nI wds) (nI brs) (nI ors) stp hasP fld laid told (nI rws) cms (nI cmT) cmS isN (nI trs))), (100, zI G 60 (X7_plant_c100 rws rk rs i v))])) := by
  refine zC_of mX7_plant (lv := [some (.ref (zB G + 76)), some (.int i), some (.int v), none]) rfl rfl (by decide) (by intro v hv; simp at hv; rcases hv with rfl | rfl | rfl <;> rfl) (Nat.le_of_ble_eq_true rfl) rfl ?_
  refine z_0 ?_
  refine z_heap (g' := zu (zus g []) 76 (oMod G code (nI tps) (nI pts) (nI lns) (nI wds) (nI brs) (nI ors) stp hasP fld laid told (nI rws) cms (nI cmT) cmS isN (nI trs))) (zu_self (zus g []) 76 _ h76).symm ?_
  refine z_n (L' := [(76, (oMod G code (nI tps) (nI pts) (nI lns) (nI wds) (nI brs) (nI ors) stp hasP fld laid told (nI rws) cms (nI cmT) cmS isN (nI trs)))]) rfl ?_
  refine z_heap (g' := zu (zus g [(76, (oMod G code (nI tps) (nI pts) (nI lns) (nI wds) (nI brs) (nI ors) stp hasP fld laid told (nI rws) cms (nI cmT) cmS isN (nI trs)))]) 100 (zI G 60 rs)) (zu_self (zus g [(76, (oMod G code (nI tps) (nI pts) (nI lns) (nI wds) (nI brs) (nI ors) stp hasP fld laid told (nI rws) cms (nI cmT) cmS isN (nI trs)))]) 100 _ h100).symm ?_
  refine z_n (L' := [(76, (oMod G code (nI tps) (nI pts) (nI lns) (nI wds) (nI brs) (nI ors) stp hasP fld laid told (nI rws) cms (nI cmT) cmS isN (nI trs))), (100, (zI G 60 rs))]) rfl ?_
  refine z_aload_n dX7_plant_0 rfl rfl ?_
  refine z_iconst (v := nI 0) dX7_plant_1 rfl (by decide) ?_
  refine z_putN (e9 := (oMod G (nI 0) (nI tps) (nI pts) (nI lns) (nI wds) (nI brs) (nI ors) stp hasP fld laid told (nI rws) cms (nI cmT) cmS isN (nI trs))) tyX7 tyX7_ok nmX7 dX7_plant_2 rfl hiX7_plant_X7 0 lkX7_plant_122 rfl (by decide +kernel) (Nat.le_of_ble_eq_true rfl) rfl rfl (by decide) (Nat.le_of_ble_eq_true rfl) rfl rfl rfl ?_
  refine z_n (L' := [(76, (oMod G (nI 0) (nI tps) (nI pts) (nI lns) (nI wds) (nI brs) (nI ors) stp hasP fld laid told (nI rws) cms (nI cmT) cmS isN (nI trs))), (100, (zI G 60 rs))]) rfl ?_
  refine z_iload_n dX7_plant_5 rfl rfl ?_
  refine z_iconst (v := (-1)) dX7_plant_6 rfl (by decide) ?_
  refine z_iconst (v := nI 1) dX7_plant_7 rfl (by decide) ?_
  refine z_callSi (c_X7_isIn G ex _ v (-1) (nI 1)) gX7_plant_X7_isIn rfl dX7_plant_8 rfl rfl okk_X7_isIn ⟨Nat.le_of_ble_eq_true rfl, Nat.le_of_ble_eq_true rfl⟩ ⟨Nat.le_of_ble_eq_true rfl, Nat.le_of_ble_eq_true rfl⟩ (Nat.le_of_ble_eq_true rfl) ?_
  refine z_if_ne (tgt := 17) dX7_plant_11 rfl (by decide) (fun c11 => ?_) (fun c11 => ?_)
  · refine z_iload_n dX7_plant_17 rfl rfl ?_
    refine z_iconst (v := nI 0) dX7_plant_18 rfl (by decide) ?_
    refine z_aload_n dX7_plant_19 rfl rfl ?_
    refine z_get dX7_plant_20 rfl hiX7_plant_X7 32 lkX7_plant_155 (Nat.le_of_ble_eq_true rfl) rfl rfl (by decide) rfl ?_
    refine z_iconst (v := nI 1) dX7_plant_23 rfl (by decide) ?_
    refine z_isub dX7_plant_24 rfl ?_
    refine z_callSi (c_X7_isIn G ex _ i (nI 0) ((nI rws) - (nI 1))) gX7_plant_X7_isIn rfl dX7_plant_25 rfl rfl okk_X7_isIn ⟨Nat.le_of_ble_eq_true rfl, Nat.le_of_ble_eq_true rfl⟩ ⟨Nat.le_of_ble_eq_true rfl, Nat.le_of_ble_eq_true rfl⟩ (Nat.le_of_ble_eq_true rfl) ?_
    refine z_if_eq (tgt := 41) dX7_plant_28 rfl (by decide) (fun c28 => ?_) (fun c28 => ?_)
    · refine z_bipush (v := (-4)) dX7_plant_41 rfl (by decide) ?_
      exact z_ireturn dX7_plant_43 rfl rfl (Nat.le_refl _) (Nat.le_refl _) (fun _ => rfl) ⟨by simp only [X7_plant_v, if_neg c11, if_pos c28], by simp only [X7_plant_p76_0, X7_plant_c100, if_neg c11, if_pos c28]⟩
    · have hvi : vp_in i rws := isIn_in c28 (by omega)
      have hli := zvlt hvi
      refine z_lv (congrArg (fun z9 : Int32 => ([some (.ref (zB G + 76)), some (.int z9), some (.int v), none] : List (Option Value))) (show i = (nI i.toNatClampNeg) from zvin hvi)) ?_
      refine z_aload_n dX7_plant_31 rfl rfl ?_
      refine z_get dX7_plant_32 rfl hiX7_plant_X7 33 lkX7_plant_74 (Nat.le_of_ble_eq_true rfl) rfl rfl (by decide) rfl ?_
      refine z_iload_n dX7_plant_35 rfl rfl ?_
      refine z_ialdN (j := i.toNatClampNeg) dX7_plant_36 rfl (Nat.le_of_ble_eq_true rfl) h97 (rfl) (by omega) (by decide) ?_
      refine z_iconst (v := nI 1) dX7_plant_37 rfl (by decide) ?_
      refine z_icmp_ne (tgt := 44) dX7_plant_38 rfl (by decide) (fun c38 => ?_) (fun c38 => ?_)
      · refine z_aload_n dX7_plant_44 rfl rfl ?_
        refine z_get dX7_plant_45 rfl hiX7_plant_X7 36 lkX7_plant_83 (Nat.le_of_ble_eq_true rfl) rfl rfl (by decide) rfl ?_
        refine z_iload_n dX7_plant_48 rfl rfl ?_
        refine z_ialdN (j := i.toNatClampNeg) dX7_plant_49 rfl (Nat.le_of_ble_eq_true rfl) rfl (rfl) (by omega) (by decide) ?_
        refine z_istore_3 dX7_plant_50 rfl ?_
        refine z_aload_n dX7_plant_51 rfl rfl ?_
        refine z_get dX7_plant_52 rfl hiX7_plant_X7 36 lkX7_plant_83 (Nat.le_of_ble_eq_true rfl) rfl rfl (by decide) rfl ?_
        refine z_iload_n dX7_plant_55 rfl rfl ?_
        refine z_iload_n dX7_plant_56 rfl rfl ?_
        refine z_iastN (j := i.toNatClampNeg) dX7_plant_57 rfl (Nat.le_of_ble_eq_true rfl) rfl (rfl) (by omega) (by decide) ?_
        refine z_n (L' := [(76, (oMod G (nI 0) (nI tps) (nI pts) (nI lns) (nI wds) (nI brs) (nI ors) stp hasP fld laid told (nI rws) cms (nI cmT) cmS isN (nI trs))), (100, (zI G 60 (upd rs i.toNatClampNeg v)))]) rfl ?_
        refine z_iload_n dX7_plant_58 rfl rfl ?_
        exact z_ireturn dX7_plant_59 rfl rfl (Nat.le_refl _) (Nat.le_refl _) (fun _ => rfl) ⟨by simp only [X7_plant_v, if_neg c11, if_neg c28, if_neg c38], by simp only [X7_plant_p76_0, X7_plant_c100, if_neg c11, if_neg c28, if_neg c38]⟩
      · refine z_bipush (v := (-4)) dX7_plant_41 rfl (by decide) ?_
        exact z_ireturn dX7_plant_43 rfl rfl (Nat.le_refl _) (Nat.le_refl _) (fun _ => rfl) ⟨by simp only [X7_plant_v, if_neg c11, if_neg c28, if_pos c38], by simp only [X7_plant_p76_0, X7_plant_c100, if_neg c11, if_neg c28, if_pos c38]⟩
  · refine z_bipush (v := (-9)) dX7_plant_14 rfl (by decide) ?_
    exact z_ireturn dX7_plant_16 rfl rfl (Nat.le_refl _) (Nat.le_refl _) (fun _ => rfl) ⟨by simp only [X7_plant_v, if_pos c11], by simp only [X7_plant_p76_0, X7_plant_c100, if_pos c11]⟩
abbrev mX7_proof : zM := (cX7_proof, 3, (some .int), RX7, wsX7_proof, "proof")
theorem hiX7_proof_X7 : ∀ w ∈ wsX70, w ∈ wsX7_proof := fun w h => List.mem_cons_of_mem _ (List.mem_append_right _ h)
theorem lkX7_proof_122 : Cond.fieldLink RX7 122 "ConfigSearchModel" "code" "I" ∈ wsX7_proof := by decide +kernel
theorem lkX7_proof_155 : Cond.fieldLink RX7 155 "ConfigSearchModel" "rows" "I" ∈ wsX7_proof := by decide +kernel
theorem lkX7_proof_77 : Cond.fieldLink RX7 77 "ConfigSearchModel" "rowFive" "[I" ∈ wsX7_proof := by decide +kernel
theorem lkX7_proof_238 : Cond.fieldLink RX7 238 "ConfigSearchModel" "comes" "I" ∈ wsX7_proof := by decide +kernel
theorem lkX7_proof_74 : Cond.fieldLink RX7 74 "ConfigSearchModel" "rowKind" "[I" ∈ wsX7_proof := by decide +kernel
theorem lkX7_proof_252 : Cond.fieldLink RX7 252 "ConfigSearchModel" "comesTriple" "I" ∈ wsX7_proof := by decide +kernel
theorem lkX7_proof_80 : Cond.fieldLink RX7 80 "ConfigSearchModel" "rowTriple" "[I" ∈ wsX7_proof := by decide +kernel
theorem lkX7_proof_255 : Cond.fieldLink RX7 255 "ConfigSearchModel" "comesSign" "I" ∈ wsX7_proof := by decide +kernel
theorem lkX7_proof_83 : Cond.fieldLink RX7 83 "ConfigSearchModel" "rowSign" "[I" ∈ wsX7_proof := by decide +kernel
def X7_proof_L14_F (brs : Nat) (bm : Nat → Int32) (rk : Nat → Int32) (rt : Nat → Int32) (rs : Nat → Int32) (rf : Nat → Int32) (k : Nat) (a9 : (Int32) × (Nat → Int32) × (Int32) × (Nat) × (Int32) × (Nat → Int32)) : (Int32) × (Nat → Int32) × (Int32) × (Nat) × (Int32) × (Nat → Int32) := if a9.1 = 0 then (a9.1, a9.2.1, a9.2.2.1, a9.2.2.2.1, a9.2.2.2.2.1, a9.2.2.2.2.2) else (if (nI (X7_work_p76_13 a9.2.2.2.2.2 a9.2.1 ((rf (5 * k)).toNatClampNeg) ((rf ((5 * k) + 1)).toNatClampNeg) ((rf ((5 * k) + 2)).toNatClampNeg) ((rf ((5 * k) + 3)).toNatClampNeg) ((rf ((5 * k) + 4)).toNatClampNeg))) = 0 then (nI 0, X7_work_c101 a9.2.2.2.2.2 a9.2.1 ((rf (5 * k)).toNatClampNeg) ((rf ((5 * k) + 1)).toNatClampNeg) ((rf ((5 * k) + 2)).toNatClampNeg) ((rf ((5 * k) + 3)).toNatClampNeg) ((rf ((5 * k) + 4)).toNatClampNeg), nI (X7_work_p76_13 a9.2.2.2.2.2 a9.2.1 ((rf (5 * k)).toNatClampNeg) ((rf ((5 * k) + 1)).toNatClampNeg) ((rf ((5 * k) + 2)).toNatClampNeg) ((rf ((5 * k) + 3)).toNatClampNeg) ((rf ((5 * k) + 4)).toNatClampNeg)), X7_work_p76_14 a9.2.2.2.1 a9.2.2.2.2.2 a9.2.1 ((rf (5 * k)).toNatClampNeg) ((rf ((5 * k) + 1)).toNatClampNeg) ((rf ((5 * k) + 2)).toNatClampNeg) ((rf ((5 * k) + 3)).toNatClampNeg) ((rf ((5 * k) + 4)).toNatClampNeg), X7_work_p76_15 a9.2.2.2.2.1 a9.2.2.2.2.2 a9.2.1 ((rf (5 * k)).toNatClampNeg) ((rf ((5 * k) + 1)).toNatClampNeg) ((rf ((5 * k) + 2)).toNatClampNeg) ((rf ((5 * k) + 3)).toNatClampNeg) ((rf ((5 * k) + 4)).toNatClampNeg), X7_layRow_c96 a9.2.2.2.2.2 rk rt rs k) else (if (nI (X7_kindThen_n brs (nI (X7_work_p76_13 a9.2.2.2.2.2 a9.2.1 ((rf (5 * k)).toNatClampNeg) ((rf ((5 * k) + 1)).toNatClampNeg) ((rf ((5 * k) + 2)).toNatClampNeg) ((rf ((5 * k) + 3)).toNatClampNeg) ((rf ((5 * k) + 4)).toNatClampNeg))) (X7_work_p76_14 a9.2.2.2.1 a9.2.2.2.2.2 a9.2.1 ((rf (5 * k)).toNatClampNeg) ((rf ((5 * k) + 1)).toNatClampNeg) ((rf ((5 * k) + 2)).toNatClampNeg) ((rf ((5 * k) + 3)).toNatClampNeg) ((rf ((5 * k) + 4)).toNatClampNeg)) (X7_work_p76_15 a9.2.2.2.2.1 a9.2.2.2.2.2 a9.2.1 ((rf (5 * k)).toNatClampNeg) ((rf ((5 * k) + 1)).toNatClampNeg) ((rf ((5 * k) + 2)).toNatClampNeg) ((rf ((5 * k) + 3)).toNatClampNeg) ((rf ((5 * k) + 4)).toNatClampNeg)) bm)) = (rk k) then (if (nI (X7_work_p76_13 a9.2.2.2.2.2 a9.2.1 ((rf (5 * k)).toNatClampNeg) ((rf ((5 * k) + 1)).toNatClampNeg) ((rf ((5 * k) + 2)).toNatClampNeg) ((rf ((5 * k) + 3)).toNatClampNeg) ((rf ((5 * k) + 4)).toNatClampNeg))) = (nI 1) then (nI 1, X7_work_c101 a9.2.2.2.2.2 a9.2.1 ((rf (5 * k)).toNatClampNeg) ((rf ((5 * k) + 1)).toNatClampNeg) ((rf ((5 * k) + 2)).toNatClampNeg) ((rf ((5 * k) + 3)).toNatClampNeg) ((rf ((5 * k) + 4)).toNatClampNeg), nI (X7_work_p76_13 a9.2.2.2.2.2 a9.2.1 ((rf (5 * k)).toNatClampNeg) ((rf ((5 * k) + 1)).toNatClampNeg) ((rf ((5 * k) + 2)).toNatClampNeg) ((rf ((5 * k) + 3)).toNatClampNeg) ((rf ((5 * k) + 4)).toNatClampNeg)), X7_work_p76_14 a9.2.2.2.1 a9.2.2.2.2.2 a9.2.1 ((rf (5 * k)).toNatClampNeg) ((rf ((5 * k) + 1)).toNatClampNeg) ((rf ((5 * k) + 2)).toNatClampNeg) ((rf ((5 * k) + 3)).toNatClampNeg) ((rf ((5 * k) + 4)).toNatClampNeg), X7_work_p76_15 a9.2.2.2.2.1 a9.2.2.2.2.2 a9.2.1 ((rf (5 * k)).toNatClampNeg) ((rf ((5 * k) + 1)).toNatClampNeg) ((rf ((5 * k) + 2)).toNatClampNeg) ((rf ((5 * k) + 3)).toNatClampNeg) ((rf ((5 * k) + 4)).toNatClampNeg), X7_layRow_c96 a9.2.2.2.2.2 rk rt rs k) else (if (nI (X7_work_p76_14 a9.2.2.2.1 a9.2.2.2.2.2 a9.2.1 ((rf (5 * k)).toNatClampNeg) ((rf ((5 * k) + 1)).toNatClampNeg) ((rf ((5 * k) + 2)).toNatClampNeg) ((rf ((5 * k) + 3)).toNatClampNeg) ((rf ((5 * k) + 4)).toNatClampNeg))) = (rt k) then (if (X7_work_p76_15 a9.2.2.2.2.1 a9.2.2.2.2.2 a9.2.1 ((rf (5 * k)).toNatClampNeg) ((rf ((5 * k) + 1)).toNatClampNeg) ((rf ((5 * k) + 2)).toNatClampNeg) ((rf ((5 * k) + 3)).toNatClampNeg) ((rf ((5 * k) + 4)).toNatClampNeg)) = (rs k) then (nI 1, X7_work_c101 a9.2.2.2.2.2 a9.2.1 ((rf (5 * k)).toNatClampNeg) ((rf ((5 * k) + 1)).toNatClampNeg) ((rf ((5 * k) + 2)).toNatClampNeg) ((rf ((5 * k) + 3)).toNatClampNeg) ((rf ((5 * k) + 4)).toNatClampNeg), nI (X7_work_p76_13 a9.2.2.2.2.2 a9.2.1 ((rf (5 * k)).toNatClampNeg) ((rf ((5 * k) + 1)).toNatClampNeg) ((rf ((5 * k) + 2)).toNatClampNeg) ((rf ((5 * k) + 3)).toNatClampNeg) ((rf ((5 * k) + 4)).toNatClampNeg)), X7_work_p76_14 a9.2.2.2.1 a9.2.2.2.2.2 a9.2.1 ((rf (5 * k)).toNatClampNeg) ((rf ((5 * k) + 1)).toNatClampNeg) ((rf ((5 * k) + 2)).toNatClampNeg) ((rf ((5 * k) + 3)).toNatClampNeg) ((rf ((5 * k) + 4)).toNatClampNeg), X7_work_p76_15 a9.2.2.2.2.1 a9.2.2.2.2.2 a9.2.1 ((rf (5 * k)).toNatClampNeg) ((rf ((5 * k) + 1)).toNatClampNeg) ((rf ((5 * k) + 2)).toNatClampNeg) ((rf ((5 * k) + 3)).toNatClampNeg) ((rf ((5 * k) + 4)).toNatClampNeg), X7_layRow_c96 a9.2.2.2.2.2 rk rt rs k) else (nI 0, X7_work_c101 a9.2.2.2.2.2 a9.2.1 ((rf (5 * k)).toNatClampNeg) ((rf ((5 * k) + 1)).toNatClampNeg) ((rf ((5 * k) + 2)).toNatClampNeg) ((rf ((5 * k) + 3)).toNatClampNeg) ((rf ((5 * k) + 4)).toNatClampNeg), nI (X7_work_p76_13 a9.2.2.2.2.2 a9.2.1 ((rf (5 * k)).toNatClampNeg) ((rf ((5 * k) + 1)).toNatClampNeg) ((rf ((5 * k) + 2)).toNatClampNeg) ((rf ((5 * k) + 3)).toNatClampNeg) ((rf ((5 * k) + 4)).toNatClampNeg)), X7_work_p76_14 a9.2.2.2.1 a9.2.2.2.2.2 a9.2.1 ((rf (5 * k)).toNatClampNeg) ((rf ((5 * k) + 1)).toNatClampNeg) ((rf ((5 * k) + 2)).toNatClampNeg) ((rf ((5 * k) + 3)).toNatClampNeg) ((rf ((5 * k) + 4)).toNatClampNeg), X7_work_p76_15 a9.2.2.2.2.1 a9.2.2.2.2.2 a9.2.1 ((rf (5 * k)).toNatClampNeg) ((rf ((5 * k) + 1)).toNatClampNeg) ((rf ((5 * k) + 2)).toNatClampNeg) ((rf ((5 * k) + 3)).toNatClampNeg) ((rf ((5 * k) + 4)).toNatClampNeg), X7_layRow_c96 a9.2.2.2.2.2 rk rt rs k)) else (nI 0, X7_work_c101 a9.2.2.2.2.2 a9.2.1 ((rf (5 * k)).toNatClampNeg) ((rf ((5 * k) + 1)).toNatClampNeg) ((rf ((5 * k) + 2)).toNatClampNeg) ((rf ((5 * k) + 3)).toNatClampNeg) ((rf ((5 * k) + 4)).toNatClampNeg), nI (X7_work_p76_13 a9.2.2.2.2.2 a9.2.1 ((rf (5 * k)).toNatClampNeg) ((rf ((5 * k) + 1)).toNatClampNeg) ((rf ((5 * k) + 2)).toNatClampNeg) ((rf ((5 * k) + 3)).toNatClampNeg) ((rf ((5 * k) + 4)).toNatClampNeg)), X7_work_p76_14 a9.2.2.2.1 a9.2.2.2.2.2 a9.2.1 ((rf (5 * k)).toNatClampNeg) ((rf ((5 * k) + 1)).toNatClampNeg) ((rf ((5 * k) + 2)).toNatClampNeg) ((rf ((5 * k) + 3)).toNatClampNeg) ((rf ((5 * k) + 4)).toNatClampNeg), X7_work_p76_15 a9.2.2.2.2.1 a9.2.2.2.2.2 a9.2.1 ((rf (5 * k)).toNatClampNeg) ((rf ((5 * k) + 1)).toNatClampNeg) ((rf ((5 * k) + 2)).toNatClampNeg) ((rf ((5 * k) + 3)).toNatClampNeg) ((rf ((5 * k) + 4)).toNatClampNeg), X7_layRow_c96 a9.2.2.2.2.2 rk rt rs k))) else (nI 0, X7_work_c101 a9.2.2.2.2.2 a9.2.1 ((rf (5 * k)).toNatClampNeg) ((rf ((5 * k) + 1)).toNatClampNeg) ((rf ((5 * k) + 2)).toNatClampNeg) ((rf ((5 * k) + 3)).toNatClampNeg) ((rf ((5 * k) + 4)).toNatClampNeg), nI (X7_work_p76_13 a9.2.2.2.2.2 a9.2.1 ((rf (5 * k)).toNatClampNeg) ((rf ((5 * k) + 1)).toNatClampNeg) ((rf ((5 * k) + 2)).toNatClampNeg) ((rf ((5 * k) + 3)).toNatClampNeg) ((rf ((5 * k) + 4)).toNatClampNeg)), X7_work_p76_14 a9.2.2.2.1 a9.2.2.2.2.2 a9.2.1 ((rf (5 * k)).toNatClampNeg) ((rf ((5 * k) + 1)).toNatClampNeg) ((rf ((5 * k) + 2)).toNatClampNeg) ((rf ((5 * k) + 3)).toNatClampNeg) ((rf ((5 * k) + 4)).toNatClampNeg), X7_work_p76_15 a9.2.2.2.2.1 a9.2.2.2.2.2 a9.2.1 ((rf (5 * k)).toNatClampNeg) ((rf ((5 * k) + 1)).toNatClampNeg) ((rf ((5 * k) + 2)).toNatClampNeg) ((rf ((5 * k) + 3)).toNatClampNeg) ((rf ((5 * k) + 4)).toNatClampNeg), X7_layRow_c96 a9.2.2.2.2.2 rk rt rs k)))
def X7_proof_L14_B (brs : Nat) (bm : Nat → Int32) (rk : Nat → Int32) (rt : Nat → Int32) (rs : Nat → Int32) (rf : Nat → Int32) (k : Nat) (a9 : (Int32) × (Nat → Int32) × (Int32) × (Nat) × (Int32) × (Nat → Int32)) : Option ((Int32) × (Nat → Int32) × (Int32) × (Nat) × (Int32) × (Nat → Int32)) := if a9.1 = 0 then (some (a9.1, a9.2.1, a9.2.2.1, a9.2.2.2.1, a9.2.2.2.2.1, a9.2.2.2.2.2)) else (if (nI (X7_work_p76_13 a9.2.2.2.2.2 a9.2.1 ((rf (5 * k)).toNatClampNeg) ((rf ((5 * k) + 1)).toNatClampNeg) ((rf ((5 * k) + 2)).toNatClampNeg) ((rf ((5 * k) + 3)).toNatClampNeg) ((rf ((5 * k) + 4)).toNatClampNeg))) = 0 then none else (if (nI (X7_kindThen_n brs (nI (X7_work_p76_13 a9.2.2.2.2.2 a9.2.1 ((rf (5 * k)).toNatClampNeg) ((rf ((5 * k) + 1)).toNatClampNeg) ((rf ((5 * k) + 2)).toNatClampNeg) ((rf ((5 * k) + 3)).toNatClampNeg) ((rf ((5 * k) + 4)).toNatClampNeg))) (X7_work_p76_14 a9.2.2.2.1 a9.2.2.2.2.2 a9.2.1 ((rf (5 * k)).toNatClampNeg) ((rf ((5 * k) + 1)).toNatClampNeg) ((rf ((5 * k) + 2)).toNatClampNeg) ((rf ((5 * k) + 3)).toNatClampNeg) ((rf ((5 * k) + 4)).toNatClampNeg)) (X7_work_p76_15 a9.2.2.2.2.1 a9.2.2.2.2.2 a9.2.1 ((rf (5 * k)).toNatClampNeg) ((rf ((5 * k) + 1)).toNatClampNeg) ((rf ((5 * k) + 2)).toNatClampNeg) ((rf ((5 * k) + 3)).toNatClampNeg) ((rf ((5 * k) + 4)).toNatClampNeg)) bm)) = (rk k) then (if (nI (X7_work_p76_13 a9.2.2.2.2.2 a9.2.1 ((rf (5 * k)).toNatClampNeg) ((rf ((5 * k) + 1)).toNatClampNeg) ((rf ((5 * k) + 2)).toNatClampNeg) ((rf ((5 * k) + 3)).toNatClampNeg) ((rf ((5 * k) + 4)).toNatClampNeg))) = (nI 1) then none else (if (nI (X7_work_p76_14 a9.2.2.2.1 a9.2.2.2.2.2 a9.2.1 ((rf (5 * k)).toNatClampNeg) ((rf ((5 * k) + 1)).toNatClampNeg) ((rf ((5 * k) + 2)).toNatClampNeg) ((rf ((5 * k) + 3)).toNatClampNeg) ((rf ((5 * k) + 4)).toNatClampNeg))) = (rt k) then (if (X7_work_p76_15 a9.2.2.2.2.1 a9.2.2.2.2.2 a9.2.1 ((rf (5 * k)).toNatClampNeg) ((rf ((5 * k) + 1)).toNatClampNeg) ((rf ((5 * k) + 2)).toNatClampNeg) ((rf ((5 * k) + 3)).toNatClampNeg) ((rf ((5 * k) + 4)).toNatClampNeg)) = (rs k) then none else none) else none)) else none))
def X7_proof_n (pts lns brs ors : Nat) (rws : Nat) (cms : Int32) (cmT : Nat) (cmS : Int32) (lm bm om os sg rk rt rs rf sx : Nat → Int32) : Nat := if (((zfoldX (X7_proof_L14_B brs bm rk rt rs rf) (X7_proof_L14_F brs bm rk rt rs rf) rws 0 (nI 1, sx, cms, cmT, cmS, X7_layTable_c96 pts lns ors lm om os sg rk rt rs 0)).2).1) = 0 then 0 else 1
def X7_proof_p76_0 (pts lns brs ors : Nat) (rws : Nat) (cms : Int32) (cmT : Nat) (cmS : Int32) (lm bm om os sg rk rt rs rf sx : Nat → Int32) : Nat := if (((zfoldX (X7_proof_L14_B brs bm rk rt rs rf) (X7_proof_L14_F brs bm rk rt rs rf) rws 0 (nI 1, sx, cms, cmT, cmS, X7_layTable_c96 pts lns ors lm om os sg rk rt rs 0)).2).1) = 0 then 0 else 0
def X7_proof_p76_13 (pts lns brs ors : Nat) (rws : Nat) (cms : Int32) (cmT : Nat) (cmS : Int32) (lm bm om os sg rk rt rs rf sx : Nat → Int32) : Int32 := if (((zfoldX (X7_proof_L14_B brs bm rk rt rs rf) (X7_proof_L14_F brs bm rk rt rs rf) rws 0 (nI 1, sx, cms, cmT, cmS, X7_layTable_c96 pts lns ors lm om os sg rk rt rs 0)).2).1) = 0 then (((zfoldX (X7_proof_L14_B brs bm rk rt rs rf) (X7_proof_L14_F brs bm rk rt rs rf) rws 0 (nI 1, sx, cms, cmT, cmS, X7_layTable_c96 pts lns ors lm om os sg rk rt rs 0)).2).2.2.1) else (((zfoldX (X7_proof_L14_B brs bm rk rt rs rf) (X7_proof_L14_F brs bm rk rt rs rf) rws 0 (nI 1, sx, cms, cmT, cmS, X7_layTable_c96 pts lns ors lm om os sg rk rt rs 0)).2).2.2.1)
def X7_proof_p76_14 (pts lns brs ors : Nat) (rws : Nat) (cms : Int32) (cmT : Nat) (cmS : Int32) (lm bm om os sg rk rt rs rf sx : Nat → Int32) : Nat := if (((zfoldX (X7_proof_L14_B brs bm rk rt rs rf) (X7_proof_L14_F brs bm rk rt rs rf) rws 0 (nI 1, sx, cms, cmT, cmS, X7_layTable_c96 pts lns ors lm om os sg rk rt rs 0)).2).1) = 0 then (((zfoldX (X7_proof_L14_B brs bm rk rt rs rf) (X7_proof_L14_F brs bm rk rt rs rf) rws 0 (nI 1, sx, cms, cmT, cmS, X7_layTable_c96 pts lns ors lm om os sg rk rt rs 0)).2).2.2.2.1) else (((zfoldX (X7_proof_L14_B brs bm rk rt rs rf) (X7_proof_L14_F brs bm rk rt rs rf) rws 0 (nI 1, sx, cms, cmT, cmS, X7_layTable_c96 pts lns ors lm om os sg rk rt rs 0)).2).2.2.2.1)
def X7_proof_p76_15 (pts lns brs ors : Nat) (rws : Nat) (cms : Int32) (cmT : Nat) (cmS : Int32) (lm bm om os sg rk rt rs rf sx : Nat → Int32) : Int32 := if (((zfoldX (X7_proof_L14_B brs bm rk rt rs rf) (X7_proof_L14_F brs bm rk rt rs rf) rws 0 (nI 1, sx, cms, cmT, cmS, X7_layTable_c96 pts lns ors lm om os sg rk rt rs 0)).2).1) = 0 then (((zfoldX (X7_proof_L14_B brs bm rk rt rs rf) (X7_proof_L14_F brs bm rk rt rs rf) rws 0 (nI 1, sx, cms, cmT, cmS, X7_layTable_c96 pts lns ors lm om os sg rk rt rs 0)).2).2.2.2.2.1) else (((zfoldX (X7_proof_L14_B brs bm rk rt rs rf) (X7_proof_L14_F brs bm rk rt rs rf) rws 0 (nI 1, sx, cms, cmT, cmS, X7_layTable_c96 pts lns ors lm om os sg rk rt rs 0)).2).2.2.2.2.1)
def X7_proof_c96 (pts lns brs ors : Nat) (rws : Nat) (cms : Int32) (cmT : Nat) (cmS : Int32) (lm bm om os sg rk rt rs rf sx : Nat → Int32) : Nat → Int32 := if (((zfoldX (X7_proof_L14_B brs bm rk rt rs rf) (X7_proof_L14_F brs bm rk rt rs rf) rws 0 (nI 1, sx, cms, cmT, cmS, X7_layTable_c96 pts lns ors lm om os sg rk rt rs 0)).2).1) = 0 then (((zfoldX (X7_proof_L14_B brs bm rk rt rs rf) (X7_proof_L14_F brs bm rk rt rs rf) rws 0 (nI 1, sx, cms, cmT, cmS, X7_layTable_c96 pts lns ors lm om os sg rk rt rs 0)).2).2.2.2.2.2) else (((zfoldX (X7_proof_L14_B brs bm rk rt rs rf) (X7_proof_L14_F brs bm rk rt rs rf) rws 0 (nI 1, sx, cms, cmT, cmS, X7_layTable_c96 pts lns ors lm om os sg rk rt rs 0)).2).2.2.2.2.2)
def X7_proof_c101 (pts lns brs ors : Nat) (rws : Nat) (cms : Int32) (cmT : Nat) (cmS : Int32) (lm bm om os sg rk rt rs rf sx : Nat → Int32) : Nat → Int32 := if (((zfoldX (X7_proof_L14_B brs bm rk rt rs rf) (X7_proof_L14_F brs bm rk rt rs rf) rws 0 (nI 1, sx, cms, cmT, cmS, X7_layTable_c96 pts lns ors lm om os sg rk rt rs 0)).2).1) = 0 then (((zfoldX (X7_proof_L14_B brs bm rk rt rs rf) (X7_proof_L14_F brs bm rk rt rs rf) rws 0 (nI 1, sx, cms, cmT, cmS, X7_layTable_c96 pts lns ors lm om os sg rk rt rs 0)).2).2.1) else (((zfoldX (X7_proof_L14_B brs bm rk rt rs rf) (X7_proof_L14_F brs bm rk rt rs rf) rws 0 (nI 1, sx, cms, cmT, cmS, X7_layTable_c96 pts lns ors lm om os sg rk rt rs 0)).2).2.1)
set_option maxRecDepth 100000 in
set_option maxHeartbeats 4000000 in
theorem c_X7_proof (G : zG) (ex : Bool) (g : Nat → va_E) (code : Int32) (tps pts lns wds brs ors : Nat) (stp hasP fld laid told : Int32) (rws : Nat) (cms : Int32) (cmT : Nat) (cmS isN : Int32) (trs : Nat) (lm bm om os sg rk rt rs rf sx : Nat → Int32) (hl : lns ≤ 12) (hb : brs ≤ 20) (ho : ors ≤ 20) (hp : pts ≤ 10) (hcm : cmT < 1000) (hrw : rws ≤ 60) (h4 : ∀ k, k < rws → ¬ rk k = nI 1 → vp_in (rt k) 1000) (h5 : ∀ k, k < 5 * rws → vp_in (rf k) 10) (h76 : g 76 = (oMod G code (nI tps) (nI pts) (nI lns) (nI wds) (nI brs) (nI ors) stp hasP fld laid told (nI rws) cms (nI cmT) cmS isN (nI trs))) (h82 : g 82 = (zI G 12 lm)) (h86 : g 86 = (zI G 20 bm)) (h87 : g 87 = (zI G 20 om)) (h88 : g 88 = (zI G 20 os)) (h96 : g 96 = (zI G 1000 sg)) (h97 : g 97 = (zI G 60 rk)) (h99 : g 99 = (zI G 60 rt)) (h100 : g 100 = (zI G 60 rs)) (h98 : g 98 = (zI G 300 rf)) (h101 : g 101 = (zI G 6 sx)) : zC G yX7_proof wsX7_proof (zrm 4 105) ex [.ref (zB G + 76)] (zN, g) (fun r h => r = some (.int (nI (X7_proof_n pts lns brs ors rws cms cmT cmS lm bm om os sg rk rt rs rf sx))) ∧ h = (zN, zus g [(76, (oMod G (nI (X7_proof_p76_0 pts lns brs ors rws cms cmT cmS lm bm om os sg rk rt rs rf sx)) (nI tps) (nI pts) (nI lns) (nI wds) (nI brs) (nI ors) stp hasP fld laid told (nI rws) (X7_proof_p76_13 pts lns brs ors rws cms cmT cmS lm bm om os sg rk rt rs rf sx) (nI (X7_proof_p76_14 pts lns brs ors rws cms cmT cmS lm bm om os sg rk rt rs rf sx)) (X7_proof_p76_15 pts lns brs ors rws cms cmT cmS lm bm om os sg rk rt rs rf sx) isN (nI trs))), (96, zI G 1000 (X7_proof_c96 pts lns brs ors rws cms cmT cmS lm bm om os sg rk rt rs rf sx)), (101, zI G 6 (X7_proof_c101 pts lns brs ors rws cms cmT cmS lm bm om os sg rk rt rs rf sx))])) := by
  refine zC_of mX7_proof (lv := [some (.ref (zB G + 76)), none, none]) rfl rfl (by decide) (by intro v hv; simp at hv; subst hv; rfl) (Nat.le_of_ble_eq_true rfl) rfl ?_
  refine z_0 ?_
  refine z_heap (g' := zu (zus g []) 76 (oMod G code (nI tps) (nI pts) (nI lns) (nI wds) (nI brs) (nI ors) stp hasP fld laid told (nI rws) cms (nI cmT) cmS isN (nI trs))) (zu_self (zus g []) 76 _ h76).symm ?_
  refine z_n (L' := [(76, (oMod G code (nI tps) (nI pts) (nI lns) (nI wds) (nI brs) (nI ors) stp hasP fld laid told (nI rws) cms (nI cmT) cmS isN (nI trs)))]) rfl ?_
  refine z_heap (g' := zu (zus g [(76, (oMod G code (nI tps) (nI pts) (nI lns) (nI wds) (nI brs) (nI ors) stp hasP fld laid told (nI rws) cms (nI cmT) cmS isN (nI trs)))]) 96 (zI G 1000 sg)) (zu_self (zus g [(76, (oMod G code (nI tps) (nI pts) (nI lns) (nI wds) (nI brs) (nI ors) stp hasP fld laid told (nI rws) cms (nI cmT) cmS isN (nI trs)))]) 96 _ h96).symm ?_
  refine z_n (L' := [(76, (oMod G code (nI tps) (nI pts) (nI lns) (nI wds) (nI brs) (nI ors) stp hasP fld laid told (nI rws) cms (nI cmT) cmS isN (nI trs))), (96, (zI G 1000 sg))]) rfl ?_
  refine z_heap (g' := zu (zus g [(76, (oMod G code (nI tps) (nI pts) (nI lns) (nI wds) (nI brs) (nI ors) stp hasP fld laid told (nI rws) cms (nI cmT) cmS isN (nI trs))), (96, (zI G 1000 sg))]) 101 (zI G 6 sx)) (zu_self (zus g [(76, (oMod G code (nI tps) (nI pts) (nI lns) (nI wds) (nI brs) (nI ors) stp hasP fld laid told (nI rws) cms (nI cmT) cmS isN (nI trs))), (96, (zI G 1000 sg))]) 101 _ h101).symm ?_
  refine z_n (L' := [(76, (oMod G code (nI tps) (nI pts) (nI lns) (nI wds) (nI brs) (nI ors) stp hasP fld laid told (nI rws) cms (nI cmT) cmS isN (nI trs))), (96, (zI G 1000 sg)), (101, (zI G 6 sx))]) rfl ?_
  refine z_aload_n dX7_proof_0 rfl rfl ?_
  refine z_iconst (v := nI 0) dX7_proof_1 rfl (by decide) ?_
  refine z_putN (e9 := (oMod G (nI 0) (nI tps) (nI pts) (nI lns) (nI wds) (nI brs) (nI ors) stp hasP fld laid told (nI rws) cms (nI cmT) cmS isN (nI trs))) tyX7 tyX7_ok nmX7 dX7_proof_2 rfl hiX7_proof_X7 0 lkX7_proof_122 rfl (by decide +kernel) (Nat.le_of_ble_eq_true rfl) rfl rfl (by decide) (Nat.le_of_ble_eq_true rfl) rfl rfl rfl ?_
  refine z_n (L' := [(76, (oMod G (nI 0) (nI tps) (nI pts) (nI lns) (nI wds) (nI brs) (nI ors) stp hasP fld laid told (nI rws) cms (nI cmT) cmS isN (nI trs))), (96, (zI G 1000 sg)), (101, (zI G 6 sx))]) rfl ?_
  refine z_aload_n dX7_proof_5 rfl rfl ?_
  refine z_iconst (v := nI 0) dX7_proof_6 rfl (by decide) ?_
  refine z_callVv (c_X7_layTable G ex _ (nI 0) tps pts lns wds brs ors stp hasP fld laid told rws cms cmT cmS isN trs lm om os sg rk rt rs 0 (by omega) (by omega) (by omega) (by omega) (fun k hk => absurd hk (Nat.not_lt_zero k)) rfl h82 h87 h88 rfl h97 h99 h100) gX7_proof_X7_layTable rfl dX7_proof_7 rfl rfl rfl okk_X7_layTable (Nat.le_of_ble_eq_true rfl) rfl rfl ⟨Nat.le_of_ble_eq_true rfl, Nat.le_of_ble_eq_true rfl⟩ ⟨Nat.le_of_ble_eq_true rfl, Nat.le_of_ble_eq_true rfl⟩ (Nat.le_of_ble_eq_true rfl) ?_
  refine z_nn (L' := [(76, (oMod G (nI 0) (nI tps) (nI pts) (nI lns) (nI wds) (nI brs) (nI ors) stp hasP fld laid told (nI rws) cms (nI cmT) cmS isN (nI trs))), (96, (zI G 1000 (X7_layTable_c96 pts lns ors lm om os sg rk rt rs 0))), (101, (zI G 6 sx))]) rfl ?_
  refine z_iconst (v := nI 1) dX7_proof_10 rfl (by decide) ?_
  refine z_istore_1 dX7_proof_11 rfl ?_
  refine z_iconst (v := nI 0) dX7_proof_12 rfl (by decide) ?_
  refine z_istore_2 dX7_proof_13 rfl ?_
  refine z_forX (head := fun k (st9 : (Int32) × (Nat → Int32) × (Int32) × (Nat) × (Int32) × (Nat → Int32)) => Z G mX7_proof (zrm 4 105) ex _ 14 [some (.ref (zB G + 76)), some (.int st9.1), some (.int (nI k))] [] (zN, zus g [(76, (oMod G (nI 0) (nI tps) (nI pts) (nI lns) (nI wds) (nI brs) (nI ors) stp hasP fld laid told (nI rws) st9.2.2.1 (nI st9.2.2.2.1) st9.2.2.2.2.1 isN (nI trs))), (96, (zI G 1000 st9.2.2.2.2.2)), (101, (zI G 6 st9.2.1))]) 0 0) (out := fun k (st9 : (Int32) × (Nat → Int32) × (Int32) × (Nat) × (Int32) × (Nat → Int32)) => Z G mX7_proof (zrm 4 105) ex (fun r h => r = some (.int (nI (X7_proof_n pts lns brs ors rws cms cmT cmS lm bm om os sg rk rt rs rf sx))) ∧ h = (zN, zus g [(76, (oMod G (nI (X7_proof_p76_0 pts lns brs ors rws cms cmT cmS lm bm om os sg rk rt rs rf sx)) (nI tps) (nI pts) (nI lns) (nI wds) (nI brs) (nI ors) stp hasP fld laid told (nI rws) (X7_proof_p76_13 pts lns brs ors rws cms cmT cmS lm bm om os sg rk rt rs rf sx) (nI (X7_proof_p76_14 pts lns brs ors rws cms cmT cmS lm bm om os sg rk rt rs rf sx)) (X7_proof_p76_15 pts lns brs ors rws cms cmT cmS lm bm om os sg rk rt rs rf sx) isN (nI trs))), (96, zI G 1000 (X7_proof_c96 pts lns brs ors rws cms cmT cmS lm bm om os sg rk rt rs rf sx)), (101, zI G 6 (X7_proof_c101 pts lns brs ors rws cms cmT cmS lm bm om os sg rk rt rs rf sx))])) 149 [some (.ref (zB G + 76)), some (.int st9.1), some (.int (nI k))] [] (zN, zus g [(76, (oMod G (nI 0) (nI tps) (nI pts) (nI lns) (nI wds) (nI brs) (nI ors) stp hasP fld laid told (nI rws) st9.2.2.1 (nI st9.2.2.2.1) st9.2.2.2.2.1 isN (nI trs))), (96, (zI G 1000 st9.2.2.2.2.2)), (101, (zI G 6 st9.2.1))]) 0 0) (B := (X7_proof_L14_B brs bm rk rt rs rf)) (F := (X7_proof_L14_F brs bm rk rt rs rf)) (n := rws) (fun _ _ => True) (fun _ _ => True) (fun _ _ _ _ _ => trivial) (fun _ _ _ _ _ _ => trivial) (fun _ _ => trivial) ?_ ?_ rws 0 (nI 1, sx, cms, cmT, cmS, X7_layTable_c96 pts lns ors lm om os sg rk rt rs 0) (by omega) trivial ?_
  · intro k a9 hi _ Ko K
    obtain ⟨g1, sx1, cms1, cmT1, cmS1, sg1⟩ := a9
    refine z_iload_n dX7_proof_14 rfl rfl ?_
    refine z_aload_n dX7_proof_15 rfl rfl ?_
    refine z_get dX7_proof_16 rfl hiX7_proof_X7 32 lkX7_proof_155 (Nat.le_of_ble_eq_true rfl) rfl rfl (by decide) rfl ?_
    refine z_icmp_ge (tgt := 149) dX7_proof_19 rfl (by decide) (fun c19 => ?_) (fun c19 => ?_)
    · exact absurd c19 (nI_ge hi (by omega))
    · refine z_iload_n dX7_proof_22 rfl rfl ?_
      refine z_if_eq (tgt := 149) dX7_proof_23 rfl (by decide) (fun c23 => ?_) (fun c23 => ?_)
      · exact Ko (g1, sx1, cms1, cmT1, cmS1, sg1) (by simp only [X7_proof_L14_B, if_pos c23])
      · refine z_aload_n dX7_proof_26 rfl rfl ?_
        refine z_aload_n dX7_proof_27 rfl rfl ?_
        refine z_get dX7_proof_28 rfl hiX7_proof_X7 34 lkX7_proof_77 (Nat.le_of_ble_eq_true rfl) rfl rfl (by decide) rfl ?_
        refine z_iconst (v := nI 5) dX7_proof_31 rfl (by decide) ?_
        refine z_iload_n dX7_proof_32 rfl rfl ?_
        refine z_imul dX7_proof_33 rfl ?_
        refine z_ialdN (j := 5 * k) dX7_proof_34 rfl (Nat.le_of_ble_eq_true rfl) h98 ((zq_mul rfl rfl)) (by omega) (by decide) ?_
        refine z_top (show rf (5 * k) = nI ((rf (5 * k)).toNatClampNeg) from zvin (h5 _ (by omega))) ?_
        refine z_aload_n dX7_proof_35 rfl rfl ?_
        refine z_get dX7_proof_36 rfl hiX7_proof_X7 34 lkX7_proof_77 (Nat.le_of_ble_eq_true rfl) rfl rfl (by decide) rfl ?_
        refine z_iconst (v := nI 5) dX7_proof_39 rfl (by decide) ?_
        refine z_iload_n dX7_proof_40 rfl rfl ?_
        refine z_imul dX7_proof_41 rfl ?_
        refine z_iconst (v := nI 1) dX7_proof_42 rfl (by decide) ?_
        refine z_iadd dX7_proof_43 rfl ?_
        refine z_ialdN (j := (5 * k) + 1) dX7_proof_44 rfl (Nat.le_of_ble_eq_true rfl) h98 ((zq_add (zq_mul rfl rfl) rfl)) (by omega) (by decide) ?_
        refine z_top (show rf ((5 * k) + 1) = nI ((rf ((5 * k) + 1)).toNatClampNeg) from zvin (h5 _ (by omega))) ?_
        refine z_aload_n dX7_proof_45 rfl rfl ?_
        refine z_get dX7_proof_46 rfl hiX7_proof_X7 34 lkX7_proof_77 (Nat.le_of_ble_eq_true rfl) rfl rfl (by decide) rfl ?_
        refine z_iconst (v := nI 5) dX7_proof_49 rfl (by decide) ?_
        refine z_iload_n dX7_proof_50 rfl rfl ?_
        refine z_imul dX7_proof_51 rfl ?_
        refine z_iconst (v := nI 2) dX7_proof_52 rfl (by decide) ?_
        refine z_iadd dX7_proof_53 rfl ?_
        refine z_ialdN (j := (5 * k) + 2) dX7_proof_54 rfl (Nat.le_of_ble_eq_true rfl) h98 ((zq_add (zq_mul rfl rfl) rfl)) (by omega) (by decide) ?_
        refine z_top (show rf ((5 * k) + 2) = nI ((rf ((5 * k) + 2)).toNatClampNeg) from zvin (h5 _ (by omega))) ?_
        refine z_aload_n dX7_proof_55 rfl rfl ?_
        refine z_get dX7_proof_56 rfl hiX7_proof_X7 34 lkX7_proof_77 (Nat.le_of_ble_eq_true rfl) rfl rfl (by decide) rfl ?_
        refine z_iconst (v := nI 5) dX7_proof_59 rfl (by decide) ?_
        refine z_iload_n dX7_proof_60 rfl rfl ?_
        refine z_imul dX7_proof_61 rfl ?_
        refine z_iconst (v := nI 3) dX7_proof_62 rfl (by decide) ?_
        refine z_iadd dX7_proof_63 rfl ?_
        refine z_ialdN (j := (5 * k) + 3) dX7_proof_64 rfl (Nat.le_of_ble_eq_true rfl) h98 ((zq_add (zq_mul rfl rfl) rfl)) (by omega) (by decide) ?_
        refine z_top (show rf ((5 * k) + 3) = nI ((rf ((5 * k) + 3)).toNatClampNeg) from zvin (h5 _ (by omega))) ?_
        refine z_aload_n dX7_proof_65 rfl rfl ?_
        refine z_get dX7_proof_66 rfl hiX7_proof_X7 34 lkX7_proof_77 (Nat.le_of_ble_eq_true rfl) rfl rfl (by decide) rfl ?_
        refine z_iconst (v := nI 5) dX7_proof_69 rfl (by decide) ?_
        refine z_iload_n dX7_proof_70 rfl rfl ?_
        refine z_imul dX7_proof_71 rfl ?_
        refine z_iconst (v := nI 4) dX7_proof_72 rfl (by decide) ?_
        refine z_iadd dX7_proof_73 rfl ?_
        refine z_ialdN (j := (5 * k) + 4) dX7_proof_74 rfl (Nat.le_of_ble_eq_true rfl) h98 ((zq_add (zq_mul rfl rfl) rfl)) (by omega) (by decide) ?_
        refine z_top (show rf ((5 * k) + 4) = nI ((rf ((5 * k) + 4)).toNatClampNeg) from zvin (h5 _ (by omega))) ?_
        refine z_callVv (c_X7_work G ex _ (nI 0) tps pts lns wds brs ors stp hasP fld laid told rws cms1 cmT1 cmS1 isN trs sg1 sx1 ((rf (5 * k)).toNatClampNeg) ((rf ((5 * k) + 1)).toNatClampNeg) ((rf ((5 * k) + 2)).toNatClampNeg) ((rf ((5 * k) + 3)).toNatClampNeg) ((rf ((5 * k) + 4)).toNatClampNeg) (zvlt (h5 _ (by omega))) (zvlt (h5 _ (by omega))) (zvlt (h5 _ (by omega))) (zvlt (h5 _ (by omega))) (zvlt (h5 _ (by omega))) rfl rfl rfl) gX7_proof_X7_work rfl dX7_proof_75 rfl rfl rfl okk_X7_work (Nat.le_of_ble_eq_true rfl) rfl rfl ⟨Nat.le_of_ble_eq_true rfl, Nat.le_of_ble_eq_true rfl⟩ ⟨Nat.le_of_ble_eq_true rfl, Nat.le_of_ble_eq_true rfl⟩ (Nat.le_of_ble_eq_true rfl) ?_
        refine z_nn (L' := [(76, (oMod G (nI 0) (nI tps) (nI pts) (nI lns) (nI wds) (nI brs) (nI ors) stp hasP fld laid told (nI rws) (nI (X7_work_p76_13 sg1 sx1 ((rf (5 * k)).toNatClampNeg) ((rf ((5 * k) + 1)).toNatClampNeg) ((rf ((5 * k) + 2)).toNatClampNeg) ((rf ((5 * k) + 3)).toNatClampNeg) ((rf ((5 * k) + 4)).toNatClampNeg))) (nI (X7_work_p76_14 cmT1 sg1 sx1 ((rf (5 * k)).toNatClampNeg) ((rf ((5 * k) + 1)).toNatClampNeg) ((rf ((5 * k) + 2)).toNatClampNeg) ((rf ((5 * k) + 3)).toNatClampNeg) ((rf ((5 * k) + 4)).toNatClampNeg))) (X7_work_p76_15 cmS1 sg1 sx1 ((rf (5 * k)).toNatClampNeg) ((rf ((5 * k) + 1)).toNatClampNeg) ((rf ((5 * k) + 2)).toNatClampNeg) ((rf ((5 * k) + 3)).toNatClampNeg) ((rf ((5 * k) + 4)).toNatClampNeg)) isN (nI trs))), (96, (zI G 1000 sg1)), (101, (zI G 6 (X7_work_c101 sg1 sx1 ((rf (5 * k)).toNatClampNeg) ((rf ((5 * k) + 1)).toNatClampNeg) ((rf ((5 * k) + 2)).toNatClampNeg) ((rf ((5 * k) + 3)).toNatClampNeg) ((rf ((5 * k) + 4)).toNatClampNeg))))]) rfl ?_
        refine z_aload_n dX7_proof_78 rfl rfl ?_
        refine z_get dX7_proof_79 rfl hiX7_proof_X7 38 lkX7_proof_238 (Nat.le_of_ble_eq_true rfl) rfl rfl (by decide) rfl ?_
        refine z_if_eq (tgt := 136) dX7_proof_82 rfl (by decide) (fun c82 => ?_) (fun c82 => ?_)
        · refine z_iconst (v := nI 0) dX7_proof_136 rfl (by decide) ?_
          refine z_istore_1 dX7_proof_137 rfl ?_
          refine z_aload_n dX7_proof_138 rfl rfl ?_
          refine z_iload_n dX7_proof_139 rfl rfl ?_
          refine z_callVv (c_X7_layRow G ex _ (nI 0) tps pts lns wds brs ors stp hasP fld laid told rws (nI (X7_work_p76_13 sg1 sx1 ((rf (5 * k)).toNatClampNeg) ((rf ((5 * k) + 1)).toNatClampNeg) ((rf ((5 * k) + 2)).toNatClampNeg) ((rf ((5 * k) + 3)).toNatClampNeg) ((rf ((5 * k) + 4)).toNatClampNeg))) (X7_work_p76_14 cmT1 sg1 sx1 ((rf (5 * k)).toNatClampNeg) ((rf ((5 * k) + 1)).toNatClampNeg) ((rf ((5 * k) + 2)).toNatClampNeg) ((rf ((5 * k) + 3)).toNatClampNeg) ((rf ((5 * k) + 4)).toNatClampNeg)) (X7_work_p76_15 cmS1 sg1 sx1 ((rf (5 * k)).toNatClampNeg) ((rf ((5 * k) + 1)).toNatClampNeg) ((rf ((5 * k) + 2)).toNatClampNeg) ((rf ((5 * k) + 3)).toNatClampNeg) ((rf ((5 * k) + 4)).toNatClampNeg)) isN trs sg1 rk rt rs k (by omega) (h4 k (by omega)) rfl rfl h97 h99 h100) gX7_proof_X7_layRow rfl dX7_proof_140 rfl rfl rfl okk_X7_layRow (Nat.le_of_ble_eq_true rfl) rfl rfl ⟨Nat.le_of_ble_eq_true rfl, Nat.le_of_ble_eq_true rfl⟩ ⟨Nat.le_of_ble_eq_true rfl, Nat.le_of_ble_eq_true rfl⟩ (Nat.le_of_ble_eq_true rfl) ?_
          refine z_nn (L' := [(76, (oMod G (nI 0) (nI tps) (nI pts) (nI lns) (nI wds) (nI brs) (nI ors) stp hasP fld laid told (nI rws) (nI (X7_work_p76_13 sg1 sx1 ((rf (5 * k)).toNatClampNeg) ((rf ((5 * k) + 1)).toNatClampNeg) ((rf ((5 * k) + 2)).toNatClampNeg) ((rf ((5 * k) + 3)).toNatClampNeg) ((rf ((5 * k) + 4)).toNatClampNeg))) (nI (X7_work_p76_14 cmT1 sg1 sx1 ((rf (5 * k)).toNatClampNeg) ((rf ((5 * k) + 1)).toNatClampNeg) ((rf ((5 * k) + 2)).toNatClampNeg) ((rf ((5 * k) + 3)).toNatClampNeg) ((rf ((5 * k) + 4)).toNatClampNeg))) (X7_work_p76_15 cmS1 sg1 sx1 ((rf (5 * k)).toNatClampNeg) ((rf ((5 * k) + 1)).toNatClampNeg) ((rf ((5 * k) + 2)).toNatClampNeg) ((rf ((5 * k) + 3)).toNatClampNeg) ((rf ((5 * k) + 4)).toNatClampNeg)) isN (nI trs))), (96, (zI G 1000 (X7_layRow_c96 sg1 rk rt rs k))), (101, (zI G 6 (X7_work_c101 sg1 sx1 ((rf (5 * k)).toNatClampNeg) ((rf ((5 * k) + 1)).toNatClampNeg) ((rf ((5 * k) + 2)).toNatClampNeg) ((rf ((5 * k) + 3)).toNatClampNeg) ((rf ((5 * k) + 4)).toNatClampNeg))))]) rfl ?_
          refine z_iinc_2 (v := nI (k + 1)) dX7_proof_143 rfl (zinc _) ?_
          refine z_goto (tgt := 14) dX7_proof_146 (by decide) ?_
          have K9 := (K (by simp only [X7_proof_L14_B, if_neg c23, if_pos c82]))
          try simp only [X7_proof_L14_F, if_neg c23, if_pos c82] at K9
          exact K9
        · refine z_aload_n dX7_proof_85 rfl rfl ?_
          refine z_callVi (c_X7_kindThen G ex _ (nI 0) tps pts lns wds brs ors stp hasP fld laid told rws (nI (X7_work_p76_13 sg1 sx1 ((rf (5 * k)).toNatClampNeg) ((rf ((5 * k) + 1)).toNatClampNeg) ((rf ((5 * k) + 2)).toNatClampNeg) ((rf ((5 * k) + 3)).toNatClampNeg) ((rf ((5 * k) + 4)).toNatClampNeg))) (X7_work_p76_14 cmT1 sg1 sx1 ((rf (5 * k)).toNatClampNeg) ((rf ((5 * k) + 1)).toNatClampNeg) ((rf ((5 * k) + 2)).toNatClampNeg) ((rf ((5 * k) + 3)).toNatClampNeg) ((rf ((5 * k) + 4)).toNatClampNeg)) (X7_work_p76_15 cmS1 sg1 sx1 ((rf (5 * k)).toNatClampNeg) ((rf ((5 * k) + 1)).toNatClampNeg) ((rf ((5 * k) + 2)).toNatClampNeg) ((rf ((5 * k) + 3)).toNatClampNeg) ((rf ((5 * k) + 4)).toNatClampNeg)) isN trs bm (by omega) rfl h86) gX7_proof_X7_kindThen rfl dX7_proof_86 rfl rfl rfl okk_X7_kindThen (Nat.le_of_ble_eq_true rfl) rfl rfl ⟨Nat.le_of_ble_eq_true rfl, Nat.le_of_ble_eq_true rfl⟩ ⟨Nat.le_of_ble_eq_true rfl, Nat.le_of_ble_eq_true rfl⟩ (Nat.le_of_ble_eq_true rfl) ?_
          refine z_aload_n dX7_proof_89 rfl rfl ?_
          refine z_get dX7_proof_90 rfl hiX7_proof_X7 33 lkX7_proof_74 (Nat.le_of_ble_eq_true rfl) rfl rfl (by decide) rfl ?_
          refine z_iload_n dX7_proof_93 rfl rfl ?_
          refine z_ialdN (j := k) dX7_proof_94 rfl (Nat.le_of_ble_eq_true rfl) h97 (rfl) (by omega) (by decide) ?_
          refine z_icmp_ne (tgt := 136) dX7_proof_95 rfl (by decide) (fun c95 => ?_) (fun c95 => ?_)
          · refine z_iconst (v := nI 0) dX7_proof_136 rfl (by decide) ?_
            refine z_istore_1 dX7_proof_137 rfl ?_
            refine z_aload_n dX7_proof_138 rfl rfl ?_
            refine z_iload_n dX7_proof_139 rfl rfl ?_
            refine z_callVv (c_X7_layRow G ex _ (nI 0) tps pts lns wds brs ors stp hasP fld laid told rws (nI (X7_work_p76_13 sg1 sx1 ((rf (5 * k)).toNatClampNeg) ((rf ((5 * k) + 1)).toNatClampNeg) ((rf ((5 * k) + 2)).toNatClampNeg) ((rf ((5 * k) + 3)).toNatClampNeg) ((rf ((5 * k) + 4)).toNatClampNeg))) (X7_work_p76_14 cmT1 sg1 sx1 ((rf (5 * k)).toNatClampNeg) ((rf ((5 * k) + 1)).toNatClampNeg) ((rf ((5 * k) + 2)).toNatClampNeg) ((rf ((5 * k) + 3)).toNatClampNeg) ((rf ((5 * k) + 4)).toNatClampNeg)) (X7_work_p76_15 cmS1 sg1 sx1 ((rf (5 * k)).toNatClampNeg) ((rf ((5 * k) + 1)).toNatClampNeg) ((rf ((5 * k) + 2)).toNatClampNeg) ((rf ((5 * k) + 3)).toNatClampNeg) ((rf ((5 * k) + 4)).toNatClampNeg)) isN trs sg1 rk rt rs k (by omega) (h4 k (by omega)) rfl rfl h97 h99 h100) gX7_proof_X7_layRow rfl dX7_proof_140 rfl rfl rfl okk_X7_layRow (Nat.le_of_ble_eq_true rfl) rfl rfl ⟨Nat.le_of_ble_eq_true rfl, Nat.le_of_ble_eq_true rfl⟩ ⟨Nat.le_of_ble_eq_true rfl, Nat.le_of_ble_eq_true rfl⟩ (Nat.le_of_ble_eq_true rfl) ?_
            refine z_nn (L' := [(76, (oMod G (nI 0) (nI tps) (nI pts) (nI lns) (nI wds) (nI brs) (nI ors) stp hasP fld laid told (nI rws) (nI (X7_work_p76_13 sg1 sx1 ((rf (5 * k)).toNatClampNeg) ((rf ((5 * k) + 1)).toNatClampNeg) ((rf ((5 * k) + 2)).toNatClampNeg) ((rf ((5 * k) + 3)).toNatClampNeg) ((rf ((5 * k) + 4)).toNatClampNeg))) (nI (X7_work_p76_14 cmT1 sg1 sx1 ((rf (5 * k)).toNatClampNeg) ((rf ((5 * k) + 1)).toNatClampNeg) ((rf ((5 * k) + 2)).toNatClampNeg) ((rf ((5 * k) + 3)).toNatClampNeg) ((rf ((5 * k) + 4)).toNatClampNeg))) (X7_work_p76_15 cmS1 sg1 sx1 ((rf (5 * k)).toNatClampNeg) ((rf ((5 * k) + 1)).toNatClampNeg) ((rf ((5 * k) + 2)).toNatClampNeg) ((rf ((5 * k) + 3)).toNatClampNeg) ((rf ((5 * k) + 4)).toNatClampNeg)) isN (nI trs))), (96, (zI G 1000 (X7_layRow_c96 sg1 rk rt rs k))), (101, (zI G 6 (X7_work_c101 sg1 sx1 ((rf (5 * k)).toNatClampNeg) ((rf ((5 * k) + 1)).toNatClampNeg) ((rf ((5 * k) + 2)).toNatClampNeg) ((rf ((5 * k) + 3)).toNatClampNeg) ((rf ((5 * k) + 4)).toNatClampNeg))))]) rfl ?_
            refine z_iinc_2 (v := nI (k + 1)) dX7_proof_143 rfl (zinc _) ?_
            refine z_goto (tgt := 14) dX7_proof_146 (by decide) ?_
            have K9 := (K (by simp only [X7_proof_L14_B, if_neg c23, if_neg c82, if_neg c95]))
            try simp only [X7_proof_L14_F, if_neg c23, if_neg c82, if_neg c95] at K9
            exact K9
          · refine z_aload_n dX7_proof_98 rfl rfl ?_
            refine z_get dX7_proof_99 rfl hiX7_proof_X7 38 lkX7_proof_238 (Nat.le_of_ble_eq_true rfl) rfl rfl (by decide) rfl ?_
            refine z_iconst (v := nI 1) dX7_proof_102 rfl (by decide) ?_
            refine z_icmp_eq (tgt := 132) dX7_proof_103 rfl (by decide) (fun c103 => ?_) (fun c103 => ?_)
            · refine z_iconst (v := nI 1) dX7_proof_132 rfl (by decide) ?_
              refine z_goto (tgt := 137) dX7_proof_133 (by decide) ?_
              refine z_istore_1 dX7_proof_137 rfl ?_
              refine z_aload_n dX7_proof_138 rfl rfl ?_
              refine z_iload_n dX7_proof_139 rfl rfl ?_
              refine z_callVv (c_X7_layRow G ex _ (nI 0) tps pts lns wds brs ors stp hasP fld laid told rws (nI (X7_work_p76_13 sg1 sx1 ((rf (5 * k)).toNatClampNeg) ((rf ((5 * k) + 1)).toNatClampNeg) ((rf ((5 * k) + 2)).toNatClampNeg) ((rf ((5 * k) + 3)).toNatClampNeg) ((rf ((5 * k) + 4)).toNatClampNeg))) (X7_work_p76_14 cmT1 sg1 sx1 ((rf (5 * k)).toNatClampNeg) ((rf ((5 * k) + 1)).toNatClampNeg) ((rf ((5 * k) + 2)).toNatClampNeg) ((rf ((5 * k) + 3)).toNatClampNeg) ((rf ((5 * k) + 4)).toNatClampNeg)) (X7_work_p76_15 cmS1 sg1 sx1 ((rf (5 * k)).toNatClampNeg) ((rf ((5 * k) + 1)).toNatClampNeg) ((rf ((5 * k) + 2)).toNatClampNeg) ((rf ((5 * k) + 3)).toNatClampNeg) ((rf ((5 * k) + 4)).toNatClampNeg)) isN trs sg1 rk rt rs k (by omega) (h4 k (by omega)) rfl rfl h97 h99 h100) gX7_proof_X7_layRow rfl dX7_proof_140 rfl rfl rfl okk_X7_layRow (Nat.le_of_ble_eq_true rfl) rfl rfl ⟨Nat.le_of_ble_eq_true rfl, Nat.le_of_ble_eq_true rfl⟩ ⟨Nat.le_of_ble_eq_true rfl, Nat.le_of_ble_eq_true rfl⟩ (Nat.le_of_ble_eq_true rfl) ?_
              refine z_nn (L' := [(76, (oMod G (nI 0) (nI tps) (nI pts) (nI lns) (nI wds) (nI brs) (nI ors) stp hasP fld laid told (nI rws) (nI (X7_work_p76_13 sg1 sx1 ((rf (5 * k)).toNatClampNeg) ((rf ((5 * k) + 1)).toNatClampNeg) ((rf ((5 * k) + 2)).toNatClampNeg) ((rf ((5 * k) + 3)).toNatClampNeg) ((rf ((5 * k) + 4)).toNatClampNeg))) (nI (X7_work_p76_14 cmT1 sg1 sx1 ((rf (5 * k)).toNatClampNeg) ((rf ((5 * k) + 1)).toNatClampNeg) ((rf ((5 * k) + 2)).toNatClampNeg) ((rf ((5 * k) + 3)).toNatClampNeg) ((rf ((5 * k) + 4)).toNatClampNeg))) (X7_work_p76_15 cmS1 sg1 sx1 ((rf (5 * k)).toNatClampNeg) ((rf ((5 * k) + 1)).toNatClampNeg) ((rf ((5 * k) + 2)).toNatClampNeg) ((rf ((5 * k) + 3)).toNatClampNeg) ((rf ((5 * k) + 4)).toNatClampNeg)) isN (nI trs))), (96, (zI G 1000 (X7_layRow_c96 sg1 rk rt rs k))), (101, (zI G 6 (X7_work_c101 sg1 sx1 ((rf (5 * k)).toNatClampNeg) ((rf ((5 * k) + 1)).toNatClampNeg) ((rf ((5 * k) + 2)).toNatClampNeg) ((rf ((5 * k) + 3)).toNatClampNeg) ((rf ((5 * k) + 4)).toNatClampNeg))))]) rfl ?_
              refine z_iinc_2 (v := nI (k + 1)) dX7_proof_143 rfl (zinc _) ?_
              refine z_goto (tgt := 14) dX7_proof_146 (by decide) ?_
              have K9 := (K (by simp only [X7_proof_L14_B, if_neg c23, if_neg c82, if_pos c95, if_pos c103]))
              try simp only [X7_proof_L14_F, if_neg c23, if_neg c82, if_pos c95, if_pos c103] at K9
              exact K9
            · refine z_aload_n dX7_proof_106 rfl rfl ?_
              refine z_get dX7_proof_107 rfl hiX7_proof_X7 39 lkX7_proof_252 (Nat.le_of_ble_eq_true rfl) rfl rfl (by decide) rfl ?_
              refine z_aload_n dX7_proof_110 rfl rfl ?_
              refine z_get dX7_proof_111 rfl hiX7_proof_X7 35 lkX7_proof_80 (Nat.le_of_ble_eq_true rfl) rfl rfl (by decide) rfl ?_
              refine z_iload_n dX7_proof_114 rfl rfl ?_
              refine z_ialdN (j := k) dX7_proof_115 rfl (Nat.le_of_ble_eq_true rfl) h99 (rfl) (by omega) (by decide) ?_
              refine z_icmp_ne (tgt := 136) dX7_proof_116 rfl (by decide) (fun c116 => ?_) (fun c116 => ?_)
              · refine z_iconst (v := nI 0) dX7_proof_136 rfl (by decide) ?_
                refine z_istore_1 dX7_proof_137 rfl ?_
                refine z_aload_n dX7_proof_138 rfl rfl ?_
                refine z_iload_n dX7_proof_139 rfl rfl ?_
                refine z_callVv (c_X7_layRow G ex _ (nI 0) tps pts lns wds brs ors stp hasP fld laid told rws (nI (X7_work_p76_13 sg1 sx1 ((rf (5 * k)).toNatClampNeg) ((rf ((5 * k) + 1)).toNatClampNeg) ((rf ((5 * k) + 2)).toNatClampNeg) ((rf ((5 * k) + 3)).toNatClampNeg) ((rf ((5 * k) + 4)).toNatClampNeg))) (X7_work_p76_14 cmT1 sg1 sx1 ((rf (5 * k)).toNatClampNeg) ((rf ((5 * k) + 1)).toNatClampNeg) ((rf ((5 * k) + 2)).toNatClampNeg) ((rf ((5 * k) + 3)).toNatClampNeg) ((rf ((5 * k) + 4)).toNatClampNeg)) (X7_work_p76_15 cmS1 sg1 sx1 ((rf (5 * k)).toNatClampNeg) ((rf ((5 * k) + 1)).toNatClampNeg) ((rf ((5 * k) + 2)).toNatClampNeg) ((rf ((5 * k) + 3)).toNatClampNeg) ((rf ((5 * k) + 4)).toNatClampNeg)) isN trs sg1 rk rt rs k (by omega) (h4 k (by omega)) rfl rfl h97 h99 h100) gX7_proof_X7_layRow rfl dX7_proof_140 rfl rfl rfl okk_X7_layRow (Nat.le_of_ble_eq_true rfl) rfl rfl ⟨Nat.le_of_ble_eq_true rfl, Nat.le_of_ble_eq_true rfl⟩ ⟨Nat.le_of_ble_eq_true rfl, Nat.le_of_ble_eq_true rfl⟩ (Nat.le_of_ble_eq_true rfl) ?_
                refine z_nn (L' := [(76, (oMod G (nI 0) (nI tps) (nI pts) (nI lns) (nI wds) (nI brs) (nI ors) stp hasP fld laid told (nI rws) (nI (X7_work_p76_13 sg1 sx1 ((rf (5 * k)).toNatClampNeg) ((rf ((5 * k) + 1)).toNatClampNeg) ((rf ((5 * k) + 2)).toNatClampNeg) ((rf ((5 * k) + 3)).toNatClampNeg) ((rf ((5 * k) + 4)).toNatClampNeg))) (nI (X7_work_p76_14 cmT1 sg1 sx1 ((rf (5 * k)).toNatClampNeg) ((rf ((5 * k) + 1)).toNatClampNeg) ((rf ((5 * k) + 2)).toNatClampNeg) ((rf ((5 * k) + 3)).toNatClampNeg) ((rf ((5 * k) + 4)).toNatClampNeg))) (X7_work_p76_15 cmS1 sg1 sx1 ((rf (5 * k)).toNatClampNeg) ((rf ((5 * k) + 1)).toNatClampNeg) ((rf ((5 * k) + 2)).toNatClampNeg) ((rf ((5 * k) + 3)).toNatClampNeg) ((rf ((5 * k) + 4)).toNatClampNeg)) isN (nI trs))), (96, (zI G 1000 (X7_layRow_c96 sg1 rk rt rs k))), (101, (zI G 6 (X7_work_c101 sg1 sx1 ((rf (5 * k)).toNatClampNeg) ((rf ((5 * k) + 1)).toNatClampNeg) ((rf ((5 * k) + 2)).toNatClampNeg) ((rf ((5 * k) + 3)).toNatClampNeg) ((rf ((5 * k) + 4)).toNatClampNeg))))]) rfl ?_
                refine z_iinc_2 (v := nI (k + 1)) dX7_proof_143 rfl (zinc _) ?_
                refine z_goto (tgt := 14) dX7_proof_146 (by decide) ?_
                have K9 := (K (by simp only [X7_proof_L14_B, if_neg c23, if_neg c82, if_pos c95, if_neg c103, if_neg c116]))
                try simp only [X7_proof_L14_F, if_neg c23, if_neg c82, if_pos c95, if_neg c103, if_neg c116] at K9
                exact K9
              · refine z_aload_n dX7_proof_119 rfl rfl ?_
                refine z_get dX7_proof_120 rfl hiX7_proof_X7 40 lkX7_proof_255 (Nat.le_of_ble_eq_true rfl) rfl rfl (by decide) rfl ?_
                refine z_aload_n dX7_proof_123 rfl rfl ?_
                refine z_get dX7_proof_124 rfl hiX7_proof_X7 36 lkX7_proof_83 (Nat.le_of_ble_eq_true rfl) rfl rfl (by decide) rfl ?_
                refine z_iload_n dX7_proof_127 rfl rfl ?_
                refine z_ialdN (j := k) dX7_proof_128 rfl (Nat.le_of_ble_eq_true rfl) h100 (rfl) (by omega) (by decide) ?_
                refine z_icmp_ne (tgt := 136) dX7_proof_129 rfl (by decide) (fun c129 => ?_) (fun c129 => ?_)
                · refine z_iconst (v := nI 0) dX7_proof_136 rfl (by decide) ?_
                  refine z_istore_1 dX7_proof_137 rfl ?_
                  refine z_aload_n dX7_proof_138 rfl rfl ?_
                  refine z_iload_n dX7_proof_139 rfl rfl ?_
                  refine z_callVv (c_X7_layRow G ex _ (nI 0) tps pts lns wds brs ors stp hasP fld laid told rws (nI (X7_work_p76_13 sg1 sx1 ((rf (5 * k)).toNatClampNeg) ((rf ((5 * k) + 1)).toNatClampNeg) ((rf ((5 * k) + 2)).toNatClampNeg) ((rf ((5 * k) + 3)).toNatClampNeg) ((rf ((5 * k) + 4)).toNatClampNeg))) (X7_work_p76_14 cmT1 sg1 sx1 ((rf (5 * k)).toNatClampNeg) ((rf ((5 * k) + 1)).toNatClampNeg) ((rf ((5 * k) + 2)).toNatClampNeg) ((rf ((5 * k) + 3)).toNatClampNeg) ((rf ((5 * k) + 4)).toNatClampNeg)) (X7_work_p76_15 cmS1 sg1 sx1 ((rf (5 * k)).toNatClampNeg) ((rf ((5 * k) + 1)).toNatClampNeg) ((rf ((5 * k) + 2)).toNatClampNeg) ((rf ((5 * k) + 3)).toNatClampNeg) ((rf ((5 * k) + 4)).toNatClampNeg)) isN trs sg1 rk rt rs k (by omega) (h4 k (by omega)) rfl rfl h97 h99 h100) gX7_proof_X7_layRow rfl dX7_proof_140 rfl rfl rfl okk_X7_layRow (Nat.le_of_ble_eq_true rfl) rfl rfl ⟨Nat.le_of_ble_eq_true rfl, Nat.le_of_ble_eq_true rfl⟩ ⟨Nat.le_of_ble_eq_true rfl, Nat.le_of_ble_eq_true rfl⟩ (Nat.le_of_ble_eq_true rfl) ?_
                  refine z_nn (L' := [(76, (oMod G (nI 0) (nI tps) (nI pts) (nI lns) (nI wds) (nI brs) (nI ors) stp hasP fld laid told (nI rws) (nI (X7_work_p76_13 sg1 sx1 ((rf (5 * k)).toNatClampNeg) ((rf ((5 * k) + 1)).toNatClampNeg) ((rf ((5 * k) + 2)).toNatClampNeg) ((rf ((5 * k) + 3)).toNatClampNeg) ((rf ((5 * k) + 4)).toNatClampNeg))) (nI (X7_work_p76_14 cmT1 sg1 sx1 ((rf (5 * k)).toNatClampNeg) ((rf ((5 * k) + 1)).toNatClampNeg) ((rf ((5 * k) + 2)).toNatClampNeg) ((rf ((5 * k) + 3)).toNatClampNeg) ((rf ((5 * k) + 4)).toNatClampNeg))) (X7_work_p76_15 cmS1 sg1 sx1 ((rf (5 * k)).toNatClampNeg) ((rf ((5 * k) + 1)).toNatClampNeg) ((rf ((5 * k) + 2)).toNatClampNeg) ((rf ((5 * k) + 3)).toNatClampNeg) ((rf ((5 * k) + 4)).toNatClampNeg)) isN (nI trs))), (96, (zI G 1000 (X7_layRow_c96 sg1 rk rt rs k))), (101, (zI G 6 (X7_work_c101 sg1 sx1 ((rf (5 * k)).toNatClampNeg) ((rf ((5 * k) + 1)).toNatClampNeg) ((rf ((5 * k) + 2)).toNatClampNeg) ((rf ((5 * k) + 3)).toNatClampNeg) ((rf ((5 * k) + 4)).toNatClampNeg))))]) rfl ?_
                  refine z_iinc_2 (v := nI (k + 1)) dX7_proof_143 rfl (zinc _) ?_
                  refine z_goto (tgt := 14) dX7_proof_146 (by decide) ?_
                  have K9 := (K (by simp only [X7_proof_L14_B, if_neg c23, if_neg c82, if_pos c95, if_neg c103, if_pos c116, if_neg c129]))
                  try simp only [X7_proof_L14_F, if_neg c23, if_neg c82, if_pos c95, if_neg c103, if_pos c116, if_neg c129] at K9
                  exact K9
                · refine z_iconst (v := nI 1) dX7_proof_132 rfl (by decide) ?_
                  refine z_goto (tgt := 137) dX7_proof_133 (by decide) ?_
                  refine z_istore_1 dX7_proof_137 rfl ?_
                  refine z_aload_n dX7_proof_138 rfl rfl ?_
                  refine z_iload_n dX7_proof_139 rfl rfl ?_
                  refine z_callVv (c_X7_layRow G ex _ (nI 0) tps pts lns wds brs ors stp hasP fld laid told rws (nI (X7_work_p76_13 sg1 sx1 ((rf (5 * k)).toNatClampNeg) ((rf ((5 * k) + 1)).toNatClampNeg) ((rf ((5 * k) + 2)).toNatClampNeg) ((rf ((5 * k) + 3)).toNatClampNeg) ((rf ((5 * k) + 4)).toNatClampNeg))) (X7_work_p76_14 cmT1 sg1 sx1 ((rf (5 * k)).toNatClampNeg) ((rf ((5 * k) + 1)).toNatClampNeg) ((rf ((5 * k) + 2)).toNatClampNeg) ((rf ((5 * k) + 3)).toNatClampNeg) ((rf ((5 * k) + 4)).toNatClampNeg)) (X7_work_p76_15 cmS1 sg1 sx1 ((rf (5 * k)).toNatClampNeg) ((rf ((5 * k) + 1)).toNatClampNeg) ((rf ((5 * k) + 2)).toNatClampNeg) ((rf ((5 * k) + 3)).toNatClampNeg) ((rf ((5 * k) + 4)).toNatClampNeg)) isN trs sg1 rk rt rs k (by omega) (h4 k (by omega)) rfl rfl h97 h99 h100) gX7_proof_X7_layRow rfl dX7_proof_140 rfl rfl rfl okk_X7_layRow (Nat.le_of_ble_eq_true rfl) rfl rfl ⟨Nat.le_of_ble_eq_true rfl, Nat.le_of_ble_eq_true rfl⟩ ⟨Nat.le_of_ble_eq_true rfl, Nat.le_of_ble_eq_true rfl⟩ (Nat.le_of_ble_eq_true rfl) ?_
                  refine z_nn (L' := [(76, (oMod G (nI 0) (nI tps) (nI pts) (nI lns) (nI wds) (nI brs) (nI ors) stp hasP fld laid told (nI rws) (nI (X7_work_p76_13 sg1 sx1 ((rf (5 * k)).toNatClampNeg) ((rf ((5 * k) + 1)).toNatClampNeg) ((rf ((5 * k) + 2)).toNatClampNeg) ((rf ((5 * k) + 3)).toNatClampNeg) ((rf ((5 * k) + 4)).toNatClampNeg))) (nI (X7_work_p76_14 cmT1 sg1 sx1 ((rf (5 * k)).toNatClampNeg) ((rf ((5 * k) + 1)).toNatClampNeg) ((rf ((5 * k) + 2)).toNatClampNeg) ((rf ((5 * k) + 3)).toNatClampNeg) ((rf ((5 * k) + 4)).toNatClampNeg))) (X7_work_p76_15 cmS1 sg1 sx1 ((rf (5 * k)).toNatClampNeg) ((rf ((5 * k) + 1)).toNatClampNeg) ((rf ((5 * k) + 2)).toNatClampNeg) ((rf ((5 * k) + 3)).toNatClampNeg) ((rf ((5 * k) + 4)).toNatClampNeg)) isN (nI trs))), (96, (zI G 1000 (X7_layRow_c96 sg1 rk rt rs k))), (101, (zI G 6 (X7_work_c101 sg1 sx1 ((rf (5 * k)).toNatClampNeg) ((rf ((5 * k) + 1)).toNatClampNeg) ((rf ((5 * k) + 2)).toNatClampNeg) ((rf ((5 * k) + 3)).toNatClampNeg) ((rf ((5 * k) + 4)).toNatClampNeg))))]) rfl ?_
                  refine z_iinc_2 (v := nI (k + 1)) dX7_proof_143 rfl (zinc _) ?_
                  refine z_goto (tgt := 14) dX7_proof_146 (by decide) ?_
                  have K9 := (K (by simp only [X7_proof_L14_B, if_neg c23, if_neg c82, if_pos c95, if_neg c103, if_pos c116, if_pos c129]))
                  try simp only [X7_proof_L14_F, if_neg c23, if_neg c82, if_pos c95, if_neg c103, if_pos c116, if_pos c129] at K9
                  exact K9
  · intro a9 _ K
    obtain ⟨g1, sx1, cms1, cmT1, cmS1, sg1⟩ := a9
    refine z_iload_n dX7_proof_14 rfl rfl ?_
    refine z_aload_n dX7_proof_15 rfl rfl ?_
    refine z_get dX7_proof_16 rfl hiX7_proof_X7 32 lkX7_proof_155 (Nat.le_of_ble_eq_true rfl) rfl rfl (by decide) rfl ?_
    refine z_icmp_ge (tgt := 149) dX7_proof_19 rfl (by decide) (fun c19 => ?_) (fun c19 => ?_)
    · exact K
    · exact absurd (nI_le (Nat.le_refl _) (by omega)) c19
  · intro hJ14 hle14
    refine z_iload_n dX7_proof_149 rfl rfl ?_
    refine z_if_eq (tgt := 157) dX7_proof_150 rfl (by decide) (fun c150 => ?_) (fun c150 => ?_)
    · refine z_iconst (v := nI 0) dX7_proof_157 rfl (by decide) ?_
      exact z_ireturn dX7_proof_158 rfl rfl (Nat.le_refl _) (Nat.le_refl _) (fun _ => rfl) ⟨by simp only [X7_proof_n, if_pos c150], by simp only [X7_proof_p76_0, X7_proof_p76_13, X7_proof_p76_14, X7_proof_p76_15, X7_proof_c96, X7_proof_c101, if_pos c150]⟩
    · refine z_iconst (v := nI 1) dX7_proof_153 rfl (by decide) ?_
      refine z_goto (tgt := 158) dX7_proof_154 (by decide) ?_
      exact z_ireturn dX7_proof_158 rfl rfl (Nat.le_refl _) (Nat.le_refl _) (fun _ => rfl) ⟨by simp only [X7_proof_n, if_neg c150], by simp only [X7_proof_p76_0, X7_proof_p76_13, X7_proof_p76_14, X7_proof_p76_15, X7_proof_c96, X7_proof_c101, if_neg c150]⟩
abbrev mX7_known : zM := (cX7_known, 5, (some .int), RX7, wsX7_known, "known")
theorem hiX7_known_X7 : ∀ w ∈ wsX70, w ∈ wsX7_known := fun w h => List.mem_cons_of_mem _ (List.mem_append_right _ h)
theorem lkX7_known_122 : Cond.fieldLink RX7 122 "ConfigSearchModel" "code" "I" ∈ wsX7_known := by decide +kernel
theorem lkX7_known_155 : Cond.fieldLink RX7 155 "ConfigSearchModel" "rows" "I" ∈ wsX7_known := by decide +kernel
def X7_known_v (pts lns ors : Nat) (rws : Nat) (lm om os sg rk rt rs : Nat → Int32) (a b c : Int32) : Int32 := if (X7_isTriple_v pts a b c) = 0 then (-9) else (if (X7_signOf_v (X7_layTable_c96 pts lns ors lm om os sg rk rt rs rws) a.toNatClampNeg b.toNatClampNeg c.toNatClampNeg) = (nI 9) then (-4) else (X7_signOf_v (X7_layTable_c96 pts lns ors lm om os sg rk rt rs rws) a.toNatClampNeg b.toNatClampNeg c.toNatClampNeg))
def X7_known_p76_0 (pts lns ors : Nat) (rws : Nat) (lm om os sg rk rt rs : Nat → Int32) (a b c : Int32) : Nat := if (X7_isTriple_v pts a b c) = 0 then 0 else (if (X7_signOf_v (X7_layTable_c96 pts lns ors lm om os sg rk rt rs rws) a.toNatClampNeg b.toNatClampNeg c.toNatClampNeg) = (nI 9) then 0 else 0)
def X7_known_c96 (pts lns ors : Nat) (rws : Nat) (lm om os sg rk rt rs : Nat → Int32) (a b c : Int32) : Nat → Int32 := if (X7_isTriple_v pts a b c) = 0 then sg else (if (X7_signOf_v (X7_layTable_c96 pts lns ors lm om os sg rk rt rs rws) a.toNatClampNeg b.toNatClampNeg c.toNatClampNeg) = (nI 9) then (X7_layTable_c96 pts lns ors lm om os sg rk rt rs rws) else (X7_layTable_c96 pts lns ors lm om os sg rk rt rs rws))
set_option maxRecDepth 100000 in
set_option maxHeartbeats 4000000 in
theorem c_X7_known (G : zG) (ex : Bool) (g : Nat → va_E) (code : Int32) (tps pts lns wds brs ors : Nat) (stp hasP fld laid told : Int32) (rws : Nat) (cms : Int32) (cmT : Nat) (cmS isN : Int32) (trs : Nat) (lm om os sg rk rt rs : Nat → Int32) (a b c : Int32) (hl : lns ≤ 12) (ho : ors ≤ 20) (hp : pts ≤ 10) (hrw : rws ≤ 60) (h4 : ∀ k, k < rws → ¬ rk k = nI 1 → vp_in (rt k) 1000) (h76 : g 76 = (oMod G code (nI tps) (nI pts) (nI lns) (nI wds) (nI brs) (nI ors) stp hasP fld laid told (nI rws) cms (nI cmT) cmS isN (nI trs))) (h82 : g 82 = (zI G 12 lm)) (h87 : g 87 = (zI G 20 om)) (h88 : g 88 = (zI G 20 os)) (h96 : g 96 = (zI G 1000 sg)) (h97 : g 97 = (zI G 60 rk)) (h99 : g 99 = (zI G 60 rt)) (h100 : g 100 = (zI G 60 rs)) : zC G yX7_known wsX7_known (zrm 2 49) ex [.ref (zB G + 76), .int a, .int b, .int c] (zN, g) (fun r h => r = some (.int (X7_known_v pts lns ors rws lm om os sg rk rt rs a b c)) ∧ h = (zN, zus g [(76, (oMod G (nI (X7_known_p76_0 pts lns ors rws lm om os sg rk rt rs a b c)) (nI tps) (nI pts) (nI lns) (nI wds) (nI brs) (nI ors) stp hasP fld laid told (nI rws) cms (nI cmT) cmS isN (nI trs))), (96, zI G 1000 (X7_known_c96 pts lns ors rws lm om os sg rk rt rs a b c))])) := by
  refine zC_of mX7_known (lv := [some (.ref (zB G + 76)), some (.int a), some (.int b), some (.int c), none]) rfl rfl (by decide) (by intro v hv; simp at hv; rcases hv with rfl | rfl | rfl | rfl <;> rfl) (Nat.le_of_ble_eq_true rfl) rfl ?_
  refine z_0 ?_
  refine z_heap (g' := zu (zus g []) 76 (oMod G code (nI tps) (nI pts) (nI lns) (nI wds) (nI brs) (nI ors) stp hasP fld laid told (nI rws) cms (nI cmT) cmS isN (nI trs))) (zu_self (zus g []) 76 _ h76).symm ?_
  refine z_n (L' := [(76, (oMod G code (nI tps) (nI pts) (nI lns) (nI wds) (nI brs) (nI ors) stp hasP fld laid told (nI rws) cms (nI cmT) cmS isN (nI trs)))]) rfl ?_
  refine z_heap (g' := zu (zus g [(76, (oMod G code (nI tps) (nI pts) (nI lns) (nI wds) (nI brs) (nI ors) stp hasP fld laid told (nI rws) cms (nI cmT) cmS isN (nI trs)))]) 96 (zI G 1000 sg)) (zu_self (zus g [(76, (oMod G code (nI tps) (nI pts) (nI lns) (nI wds) (nI brs) (nI ors) stp hasP fld laid told (nI rws) cms (nI cmT) cmS isN (nI trs)))]) 96 _ h96).symm ?_
  refine z_n (L' := [(76, (oMod G code (nI tps) (nI pts) (nI lns) (nI wds) (nI brs) (nI ors) stp hasP fld laid told (nI rws) cms (nI cmT) cmS isN (nI trs))), (96, (zI G 1000 sg))]) rfl ?_
  refine z_aload_n dX7_known_0 rfl rfl ?_
  refine z_iconst (v := nI 0) dX7_known_1 rfl (by decide) ?_
  refine z_putN (e9 := (oMod G (nI 0) (nI tps) (nI pts) (nI lns) (nI wds) (nI brs) (nI ors) stp hasP fld laid told (nI rws) cms (nI cmT) cmS isN (nI trs))) tyX7 tyX7_ok nmX7 dX7_known_2 rfl hiX7_known_X7 0 lkX7_known_122 rfl (by decide +kernel) (Nat.le_of_ble_eq_true rfl) rfl rfl (by decide) (Nat.le_of_ble_eq_true rfl) rfl rfl rfl ?_
  refine z_n (L' := [(76, (oMod G (nI 0) (nI tps) (nI pts) (nI lns) (nI wds) (nI brs) (nI ors) stp hasP fld laid told (nI rws) cms (nI cmT) cmS isN (nI trs))), (96, (zI G 1000 sg))]) rfl ?_
  refine z_aload_n dX7_known_5 rfl rfl ?_
  refine z_iload_n dX7_known_6 rfl rfl ?_
  refine z_iload_n dX7_known_7 rfl rfl ?_
  refine z_iload_n dX7_known_8 rfl rfl ?_
  refine z_callVi (c_X7_isTriple G ex _ (nI 0) tps pts lns wds brs ors stp hasP fld laid told rws cms cmT cmS isN trs a b c rfl) gX7_known_X7_isTriple rfl dX7_known_9 rfl rfl rfl okk_X7_isTriple (Nat.le_of_ble_eq_true rfl) rfl rfl ⟨Nat.le_of_ble_eq_true rfl, Nat.le_of_ble_eq_true rfl⟩ ⟨Nat.le_of_ble_eq_true rfl, Nat.le_of_ble_eq_true rfl⟩ (Nat.le_of_ble_eq_true rfl) ?_
  refine z_if_ne (tgt := 18) dX7_known_12 rfl (by decide) (fun c12 => ?_) (fun c12 => ?_)
  · obtain ⟨hva, hvb, hvc⟩ := rtri_in c12 hp
    have hla := zvlt hva
    have hlb := zvlt hvb
    have hlc := zvlt hvc
    refine z_lv (congrArg (fun z9 : Int32 => ([some (.ref (zB G + 76)), some (.int z9), some (.int b), some (.int c), none] : List (Option Value))) (show a = (nI a.toNatClampNeg) from zvin hva)) ?_
    refine z_lv (congrArg (fun z9 : Int32 => ([some (.ref (zB G + 76)), some (.int (nI a.toNatClampNeg)), some (.int z9), some (.int c), none] : List (Option Value))) (show b = (nI b.toNatClampNeg) from zvin hvb)) ?_
    refine z_lv (congrArg (fun z9 : Int32 => ([some (.ref (zB G + 76)), some (.int (nI a.toNatClampNeg)), some (.int (nI b.toNatClampNeg)), some (.int z9), none] : List (Option Value))) (show c = (nI c.toNatClampNeg) from zvin hvc)) ?_
    refine z_aload_n dX7_known_18 rfl rfl ?_
    refine z_aload_n dX7_known_19 rfl rfl ?_
    refine z_get dX7_known_20 rfl hiX7_known_X7 32 lkX7_known_155 (Nat.le_of_ble_eq_true rfl) rfl rfl (by decide) rfl ?_
    refine z_callVv (c_X7_layTable G ex _ (nI 0) tps pts lns wds brs ors stp hasP fld laid told rws cms cmT cmS isN trs lm om os sg rk rt rs rws (by omega) (by omega) (by omega) (by omega) (by assumption) rfl h82 h87 h88 rfl h97 h99 h100) gX7_known_X7_layTable rfl dX7_known_23 rfl rfl rfl okk_X7_layTable (Nat.le_of_ble_eq_true rfl) rfl rfl ⟨Nat.le_of_ble_eq_true rfl, Nat.le_of_ble_eq_true rfl⟩ ⟨Nat.le_of_ble_eq_true rfl, Nat.le_of_ble_eq_true rfl⟩ (Nat.le_of_ble_eq_true rfl) ?_
    refine z_nn (L' := [(76, (oMod G (nI 0) (nI tps) (nI pts) (nI lns) (nI wds) (nI brs) (nI ors) stp hasP fld laid told (nI rws) cms (nI cmT) cmS isN (nI trs))), (96, (zI G 1000 (X7_layTable_c96 pts lns ors lm om os sg rk rt rs rws)))]) rfl ?_
    refine z_aload_n dX7_known_26 rfl rfl ?_
    refine z_iload_n dX7_known_27 rfl rfl ?_
    refine z_iload_n dX7_known_28 rfl rfl ?_
    refine z_iload_n dX7_known_29 rfl rfl ?_
    refine z_callVi (c_X7_signOf G ex _ (nI 0) tps pts lns wds brs ors stp hasP fld laid told rws cms cmT cmS isN trs (X7_layTable_c96 pts lns ors lm om os sg rk rt rs rws) a.toNatClampNeg b.toNatClampNeg c.toNatClampNeg (by omega) (by omega) (by omega) rfl rfl) gX7_known_X7_signOf rfl dX7_known_30 rfl rfl rfl okk_X7_signOf (Nat.le_of_ble_eq_true rfl) rfl rfl ⟨Nat.le_of_ble_eq_true rfl, Nat.le_of_ble_eq_true rfl⟩ ⟨Nat.le_of_ble_eq_true rfl, Nat.le_of_ble_eq_true rfl⟩ (Nat.le_of_ble_eq_true rfl) ?_
    refine z_istore_4 dX7_known_33 rfl ?_
    refine z_iload dX7_known_35 rfl rfl ?_
    refine z_bipush (v := nI 9) dX7_known_37 rfl (by decide) ?_
    refine z_icmp_ne (tgt := 47) dX7_known_39 rfl (by decide) (fun c39 => ?_) (fun c39 => ?_)
    · refine z_iload dX7_known_47 rfl rfl ?_
      exact z_ireturn dX7_known_49 rfl rfl (Nat.le_refl _) (Nat.le_refl _) (fun _ => rfl) ⟨by simp only [X7_known_v, if_neg c12, if_neg c39], by simp only [X7_known_p76_0, X7_known_c96, if_neg c12, if_neg c39]⟩
    · refine z_bipush (v := (-4)) dX7_known_42 rfl (by decide) ?_
      refine z_goto (tgt := 49) dX7_known_44 (by decide) ?_
      exact z_ireturn dX7_known_49 rfl rfl (Nat.le_refl _) (Nat.le_refl _) (fun _ => rfl) ⟨by simp only [X7_known_v, if_neg c12, if_pos c39], by simp only [X7_known_p76_0, X7_known_c96, if_neg c12, if_pos c39]⟩
  · refine z_bipush (v := (-9)) dX7_known_15 rfl (by decide) ?_
    exact z_ireturn dX7_known_17 rfl rfl (Nat.le_refl _) (Nat.le_refl _) (fun _ => rfl) ⟨by simp only [X7_known_v, if_pos c12], by simp only [X7_known_p76_0, X7_known_c96, if_pos c12]⟩
abbrev mX7_certificate : zM := (cX7_certificate, 4, (some .int), RX7, wsX7_certificate, "certificate")
theorem hiX7_certificate_X7 : ∀ w ∈ wsX70, w ∈ wsX7_certificate := fun w h => List.mem_cons_of_mem _ (List.mem_append_right _ h)
theorem lkX7_certificate_122 : Cond.fieldLink RX7 122 "ConfigSearchModel" "code" "I" ∈ wsX7_certificate := by decide +kernel
theorem lkX7_certificate_155 : Cond.fieldLink RX7 155 "ConfigSearchModel" "rows" "I" ∈ wsX7_certificate := by decide +kernel
theorem lkX7_certificate_77 : Cond.fieldLink RX7 77 "ConfigSearchModel" "rowFive" "[I" ∈ wsX7_certificate := by decide +kernel
theorem lkX7_certificate_86 : Cond.fieldLink RX7 86 "ConfigSearchModel" "six" "[I" ∈ wsX7_certificate := by decide +kernel
def X7_certificate_v (pts lns ors : Nat) (rws : Nat) (lm om os sg rk rt rs rf sx : Nat → Int32) (i w : Int32) : Int32 := if (X7_isIn_v i (nI 0) (nI 2)) = 0 then (-9) else (if (X7_isIn_v w (nI 0) (nI 2)) = 0 then (-9) else (if (nI rws) = 0 then (-2) else (if (nI 2) ≤ (nI w.toNatClampNeg) then (if ((X7_laySix_c101 (X7_layTable_c96 pts lns ors lm om os sg rk rt rs rws) sx ((rf (5 * (rws - 1))).toNatClampNeg) ((rf ((5 * (rws - 1)) + 1)).toNatClampNeg) ((rf ((5 * (rws - 1)) + 2)).toNatClampNeg) ((rf ((5 * (rws - 1)) + 3)).toNatClampNeg) ((rf ((5 * (rws - 1)) + 4)).toNatClampNeg)) (2 * i.toNatClampNeg)) = (nI 9) then (-4) else (if ((X7_laySix_c101 (X7_layTable_c96 pts lns ors lm om os sg rk rt rs rws) sx ((rf (5 * (rws - 1))).toNatClampNeg) ((rf ((5 * (rws - 1)) + 1)).toNatClampNeg) ((rf ((5 * (rws - 1)) + 2)).toNatClampNeg) ((rf ((5 * (rws - 1)) + 3)).toNatClampNeg) ((rf ((5 * (rws - 1)) + 4)).toNatClampNeg)) ((2 * i.toNatClampNeg) + 1)) = (nI 9) then (-4) else (X7_term_v (X7_laySix_c101 (X7_layTable_c96 pts lns ors lm om os sg rk rt rs rws) sx ((rf (5 * (rws - 1))).toNatClampNeg) ((rf ((5 * (rws - 1)) + 1)).toNatClampNeg) ((rf ((5 * (rws - 1)) + 2)).toNatClampNeg) ((rf ((5 * (rws - 1)) + 3)).toNatClampNeg) ((rf ((5 * (rws - 1)) + 4)).toNatClampNeg)) i.toNatClampNeg))) else (if ((X7_laySix_c101 (X7_layTable_c96 pts lns ors lm om os sg rk rt rs rws) sx ((rf (5 * (rws - 1))).toNatClampNeg) ((rf ((5 * (rws - 1)) + 1)).toNatClampNeg) ((rf ((5 * (rws - 1)) + 2)).toNatClampNeg) ((rf ((5 * (rws - 1)) + 3)).toNatClampNeg) ((rf ((5 * (rws - 1)) + 4)).toNatClampNeg)) ((2 * i.toNatClampNeg) + w.toNatClampNeg)) = (nI 9) then (-4) else ((X7_laySix_c101 (X7_layTable_c96 pts lns ors lm om os sg rk rt rs rws) sx ((rf (5 * (rws - 1))).toNatClampNeg) ((rf ((5 * (rws - 1)) + 1)).toNatClampNeg) ((rf ((5 * (rws - 1)) + 2)).toNatClampNeg) ((rf ((5 * (rws - 1)) + 3)).toNatClampNeg) ((rf ((5 * (rws - 1)) + 4)).toNatClampNeg)) ((2 * i.toNatClampNeg) + w.toNatClampNeg))))))
def X7_certificate_p76_0 (pts lns ors : Nat) (rws : Nat) (lm om os sg rk rt rs rf sx : Nat → Int32) (i w : Int32) : Nat := if (X7_isIn_v i (nI 0) (nI 2)) = 0 then 0 else (if (X7_isIn_v w (nI 0) (nI 2)) = 0 then 0 else (if (nI rws) = 0 then 0 else (if (nI 2) ≤ (nI w.toNatClampNeg) then (if ((X7_laySix_c101 (X7_layTable_c96 pts lns ors lm om os sg rk rt rs rws) sx ((rf (5 * (rws - 1))).toNatClampNeg) ((rf ((5 * (rws - 1)) + 1)).toNatClampNeg) ((rf ((5 * (rws - 1)) + 2)).toNatClampNeg) ((rf ((5 * (rws - 1)) + 3)).toNatClampNeg) ((rf ((5 * (rws - 1)) + 4)).toNatClampNeg)) (2 * i.toNatClampNeg)) = (nI 9) then 0 else (if ((X7_laySix_c101 (X7_layTable_c96 pts lns ors lm om os sg rk rt rs rws) sx ((rf (5 * (rws - 1))).toNatClampNeg) ((rf ((5 * (rws - 1)) + 1)).toNatClampNeg) ((rf ((5 * (rws - 1)) + 2)).toNatClampNeg) ((rf ((5 * (rws - 1)) + 3)).toNatClampNeg) ((rf ((5 * (rws - 1)) + 4)).toNatClampNeg)) ((2 * i.toNatClampNeg) + 1)) = (nI 9) then 0 else 0)) else (if ((X7_laySix_c101 (X7_layTable_c96 pts lns ors lm om os sg rk rt rs rws) sx ((rf (5 * (rws - 1))).toNatClampNeg) ((rf ((5 * (rws - 1)) + 1)).toNatClampNeg) ((rf ((5 * (rws - 1)) + 2)).toNatClampNeg) ((rf ((5 * (rws - 1)) + 3)).toNatClampNeg) ((rf ((5 * (rws - 1)) + 4)).toNatClampNeg)) ((2 * i.toNatClampNeg) + w.toNatClampNeg)) = (nI 9) then 0 else 0))))
def X7_certificate_c96 (pts lns ors : Nat) (rws : Nat) (lm om os sg rk rt rs rf sx : Nat → Int32) (i w : Int32) : Nat → Int32 := if (X7_isIn_v i (nI 0) (nI 2)) = 0 then sg else (if (X7_isIn_v w (nI 0) (nI 2)) = 0 then sg else (if (nI rws) = 0 then sg else (if (nI 2) ≤ (nI w.toNatClampNeg) then (if ((X7_laySix_c101 (X7_layTable_c96 pts lns ors lm om os sg rk rt rs rws) sx ((rf (5 * (rws - 1))).toNatClampNeg) ((rf ((5 * (rws - 1)) + 1)).toNatClampNeg) ((rf ((5 * (rws - 1)) + 2)).toNatClampNeg) ((rf ((5 * (rws - 1)) + 3)).toNatClampNeg) ((rf ((5 * (rws - 1)) + 4)).toNatClampNeg)) (2 * i.toNatClampNeg)) = (nI 9) then (X7_layTable_c96 pts lns ors lm om os sg rk rt rs rws) else (if ((X7_laySix_c101 (X7_layTable_c96 pts lns ors lm om os sg rk rt rs rws) sx ((rf (5 * (rws - 1))).toNatClampNeg) ((rf ((5 * (rws - 1)) + 1)).toNatClampNeg) ((rf ((5 * (rws - 1)) + 2)).toNatClampNeg) ((rf ((5 * (rws - 1)) + 3)).toNatClampNeg) ((rf ((5 * (rws - 1)) + 4)).toNatClampNeg)) ((2 * i.toNatClampNeg) + 1)) = (nI 9) then (X7_layTable_c96 pts lns ors lm om os sg rk rt rs rws) else (X7_layTable_c96 pts lns ors lm om os sg rk rt rs rws))) else (if ((X7_laySix_c101 (X7_layTable_c96 pts lns ors lm om os sg rk rt rs rws) sx ((rf (5 * (rws - 1))).toNatClampNeg) ((rf ((5 * (rws - 1)) + 1)).toNatClampNeg) ((rf ((5 * (rws - 1)) + 2)).toNatClampNeg) ((rf ((5 * (rws - 1)) + 3)).toNatClampNeg) ((rf ((5 * (rws - 1)) + 4)).toNatClampNeg)) ((2 * i.toNatClampNeg) + w.toNatClampNeg)) = (nI 9) then (X7_layTable_c96 pts lns ors lm om os sg rk rt rs rws) else (X7_layTable_c96 pts lns ors lm om os sg rk rt rs rws)))))
def X7_certificate_c101 (pts lns ors : Nat) (rws : Nat) (lm om os sg rk rt rs rf sx : Nat → Int32) (i w : Int32) : Nat → Int32 := if (X7_isIn_v i (nI 0) (nI 2)) = 0 then sx else (if (X7_isIn_v w (nI 0) (nI 2)) = 0 then sx else (if (nI rws) = 0 then sx else (if (nI 2) ≤ (nI w.toNatClampNeg) then (if ((X7_laySix_c101 (X7_layTable_c96 pts lns ors lm om os sg rk rt rs rws) sx ((rf (5 * (rws - 1))).toNatClampNeg) ((rf ((5 * (rws - 1)) + 1)).toNatClampNeg) ((rf ((5 * (rws - 1)) + 2)).toNatClampNeg) ((rf ((5 * (rws - 1)) + 3)).toNatClampNeg) ((rf ((5 * (rws - 1)) + 4)).toNatClampNeg)) (2 * i.toNatClampNeg)) = (nI 9) then (X7_laySix_c101 (X7_layTable_c96 pts lns ors lm om os sg rk rt rs rws) sx ((rf (5 * (rws - 1))).toNatClampNeg) ((rf ((5 * (rws - 1)) + 1)).toNatClampNeg) ((rf ((5 * (rws - 1)) + 2)).toNatClampNeg) ((rf ((5 * (rws - 1)) + 3)).toNatClampNeg) ((rf ((5 * (rws - 1)) + 4)).toNatClampNeg)) else (if ((X7_laySix_c101 (X7_layTable_c96 pts lns ors lm om os sg rk rt rs rws) sx ((rf (5 * (rws - 1))).toNatClampNeg) ((rf ((5 * (rws - 1)) + 1)).toNatClampNeg) ((rf ((5 * (rws - 1)) + 2)).toNatClampNeg) ((rf ((5 * (rws - 1)) + 3)).toNatClampNeg) ((rf ((5 * (rws - 1)) + 4)).toNatClampNeg)) ((2 * i.toNatClampNeg) + 1)) = (nI 9) then (X7_laySix_c101 (X7_layTable_c96 pts lns ors lm om os sg rk rt rs rws) sx ((rf (5 * (rws - 1))).toNatClampNeg) ((rf ((5 * (rws - 1)) + 1)).toNatClampNeg) ((rf ((5 * (rws - 1)) + 2)).toNatClampNeg) ((rf ((5 * (rws - 1)) + 3)).toNatClampNeg) ((rf ((5 * (rws - 1)) + 4)).toNatClampNeg)) else (X7_laySix_c101 (X7_layTable_c96 pts lns ors lm om os sg rk rt rs rws) sx ((rf (5 * (rws - 1))).toNatClampNeg) ((rf ((5 * (rws - 1)) + 1)).toNatClampNeg) ((rf ((5 * (rws - 1)) + 2)).toNatClampNeg) ((rf ((5 * (rws - 1)) + 3)).toNatClampNeg) ((rf ((5 * (rws - 1)) + 4)).toNatClampNeg)))) else (if ((X7_laySix_c101 (X7_layTable_c96 pts lns ors lm om os sg rk rt rs rws) sx ((rf (5 * (rws - 1))).toNatClampNeg) ((rf ((5 * (rws - 1)) + 1)).toNatClampNeg) ((rf ((5 * (rws - 1)) + 2)).toNatClampNeg) ((rf ((5 * (rws - 1)) + 3)).toNatClampNeg) ((rf ((5 * (rws - 1)) + 4)).toNatClampNeg)) ((2 * i.toNatClampNeg) + w.toNatClampNeg)) = (nI 9) then (X7_laySix_c101 (X7_layTable_c96 pts lns ors lm om os sg rk rt rs rws) sx ((rf (5 * (rws - 1))).toNatClampNeg) ((rf ((5 * (rws - 1)) + 1)).toNatClampNeg) ((rf ((5 * (rws - 1)) + 2)).toNatClampNeg) ((rf ((5 * (rws - 1)) + 3)).toNatClampNeg) ((rf ((5 * (rws - 1)) + 4)).toNatClampNeg)) else (X7_laySix_c101 (X7_layTable_c96 pts lns ors lm om os sg rk rt rs rws) sx ((rf (5 * (rws - 1))).toNatClampNeg) ((rf ((5 * (rws - 1)) + 1)).toNatClampNeg) ((rf ((5 * (rws - 1)) + 2)).toNatClampNeg) ((rf ((5 * (rws - 1)) + 3)).toNatClampNeg) ((rf ((5 * (rws - 1)) + 4)).toNatClampNeg))))))
set_option maxRecDepth 100000 in
set_option maxHeartbeats 4000000 in
theorem c_X7_certificate (G : zG) (ex : Bool) (g : Nat → va_E) (code : Int32) (tps pts lns wds brs ors : Nat) (stp hasP fld laid told : Int32) (rws : Nat) (cms : Int32) (cmT : Nat) (cmS isN : Int32) (trs : Nat) (lm om os sg rk rt rs rf sx : Nat → Int32) (i w : Int32) (hl : lns ≤ 12) (ho : ors ≤ 20) (hp : pts ≤ 10) (hrw : rws ≤ 60) (h4 : ∀ k, k < rws → ¬ rk k = nI 1 → vp_in (rt k) 1000) (h5 : ∀ k, k < 5 * rws → vp_in (rf k) 10) (h76 : g 76 = (oMod G code (nI tps) (nI pts) (nI lns) (nI wds) (nI brs) (nI ors) stp hasP fld laid told (nI rws) cms (nI cmT) cmS isN (nI trs))) (h82 : g 82 = (zI G 12 lm)) (h87 : g 87 = (zI G 20 om)) (h88 : g 88 = (zI G 20 os)) (h96 : g 96 = (zI G 1000 sg)) (h97 : g 97 = (zI G 60 rk)) (h99 : g 99 = (zI G 60 rt)) (h100 : g 100 = (zI G 60 rs)) (h98 : g 98 = (zI G 300 rf)) (h101 : g 101 = (zI G 6 sx)) : zC G yX7_certificate wsX7_certificate (zrm 3 73) ex [.ref (zB G + 76), .int i, .int w] (zN, g) (fun r h => r = some (.int (X7_certificate_v pts lns ors rws lm om os sg rk rt rs rf sx i w)) ∧ h = (zN, zus g [(76, (oMod G (nI (X7_certificate_p76_0 pts lns ors rws lm om os sg rk rt rs rf sx i w)) (nI tps) (nI pts) (nI lns) (nI wds) (nI brs) (nI ors) stp hasP fld laid told (nI rws) cms (nI cmT) cmS isN (nI trs))), (96, zI G 1000 (X7_certificate_c96 pts lns ors rws lm om os sg rk rt rs rf sx i w)), (101, zI G 6 (X7_certificate_c101 pts lns ors rws lm om os sg rk rt rs rf sx i w))])) := by
  refine zC_of mX7_certificate (lv := [some (.ref (zB G + 76)), some (.int i), some (.int w), none]) rfl rfl (by decide) (by intro v hv; simp at hv; rcases hv with rfl | rfl | rfl <;> rfl) (Nat.le_of_ble_eq_true rfl) rfl ?_
  refine z_0 ?_
  refine z_heap (g' := zu (zus g []) 76 (oMod G code (nI tps) (nI pts) (nI lns) (nI wds) (nI brs) (nI ors) stp hasP fld laid told (nI rws) cms (nI cmT) cmS isN (nI trs))) (zu_self (zus g []) 76 _ h76).symm ?_
  refine z_n (L' := [(76, (oMod G code (nI tps) (nI pts) (nI lns) (nI wds) (nI brs) (nI ors) stp hasP fld laid told (nI rws) cms (nI cmT) cmS isN (nI trs)))]) rfl ?_
  refine z_heap (g' := zu (zus g [(76, (oMod G code (nI tps) (nI pts) (nI lns) (nI wds) (nI brs) (nI ors) stp hasP fld laid told (nI rws) cms (nI cmT) cmS isN (nI trs)))]) 96 (zI G 1000 sg)) (zu_self (zus g [(76, (oMod G code (nI tps) (nI pts) (nI lns) (nI wds) (nI brs) (nI ors) stp hasP fld laid told (nI rws) cms (nI cmT) cmS isN (nI trs)))]) 96 _ h96).symm ?_
  refine z_n (L' := [(76, (oMod G code (nI tps) (nI pts) (nI lns) (nI wds) (nI brs) (nI ors) stp hasP fld laid told (nI rws) cms (nI cmT) cmS isN (nI trs))), (96, (zI G 1000 sg))]) rfl ?_
  refine z_heap (g' := zu (zus g [(76, (oMod G code (nI tps) (nI pts) (nI lns) (nI wds) (nI brs) (nI ors) stp hasP fld laid told (nI rws) cms (nI cmT) cmS isN (nI trs))), (96, (zI G 1000 sg))]) 101 (zI G 6 sx)) (zu_self (zus g [(76, (oMod G code (nI tps) (nI pts) (nI lns) (nI wds) (nI brs) (nI ors) stp hasP fld laid told (nI rws) cms (nI cmT) cmS isN (nI trs))), (96, (zI G 1000 sg))]) 101 _ h101).symm ?_
  refine z_n (L' := [(76, (oMod G code (nI tps) (nI pts) (nI lns) (nI wds) (nI brs) (nI ors) stp hasP fld laid told (nI rws) cms (nI cmT) cmS isN (nI trs))), (96, (zI G 1000 sg)), (101, (zI G 6 sx))]) rfl ?_
  refine z_aload_n dX7_certificate_0 rfl rfl ?_
  refine z_iconst (v := nI 0) dX7_certificate_1 rfl (by decide) ?_
  refine z_putN (e9 := (oMod G (nI 0) (nI tps) (nI pts) (nI lns) (nI wds) (nI brs) (nI ors) stp hasP fld laid told (nI rws) cms (nI cmT) cmS isN (nI trs))) tyX7 tyX7_ok nmX7 dX7_certificate_2 rfl hiX7_certificate_X7 0 lkX7_certificate_122 rfl (by decide +kernel) (Nat.le_of_ble_eq_true rfl) rfl rfl (by decide) (Nat.le_of_ble_eq_true rfl) rfl rfl rfl ?_
  refine z_n (L' := [(76, (oMod G (nI 0) (nI tps) (nI pts) (nI lns) (nI wds) (nI brs) (nI ors) stp hasP fld laid told (nI rws) cms (nI cmT) cmS isN (nI trs))), (96, (zI G 1000 sg)), (101, (zI G 6 sx))]) rfl ?_
  refine z_iload_n dX7_certificate_5 rfl rfl ?_
  refine z_iconst (v := nI 0) dX7_certificate_6 rfl (by decide) ?_
  refine z_iconst (v := nI 2) dX7_certificate_7 rfl (by decide) ?_
  refine z_callSi (c_X7_isIn G ex _ i (nI 0) (nI 2)) gX7_certificate_X7_isIn rfl dX7_certificate_8 rfl rfl okk_X7_isIn ⟨Nat.le_of_ble_eq_true rfl, Nat.le_of_ble_eq_true rfl⟩ ⟨Nat.le_of_ble_eq_true rfl, Nat.le_of_ble_eq_true rfl⟩ (Nat.le_of_ble_eq_true rfl) ?_
  refine z_if_eq (tgt := 23) dX7_certificate_11 rfl (by decide) (fun c11 => ?_) (fun c11 => ?_)
  · refine z_bipush (v := (-9)) dX7_certificate_23 rfl (by decide) ?_
    exact z_ireturn dX7_certificate_25 rfl rfl (Nat.le_refl _) (Nat.le_refl _) (fun _ => rfl) ⟨by simp only [X7_certificate_v, if_pos c11], by simp only [X7_certificate_p76_0, X7_certificate_c96, X7_certificate_c101, if_pos c11]⟩
  · refine z_iload_n dX7_certificate_14 rfl rfl ?_
    refine z_iconst (v := nI 0) dX7_certificate_15 rfl (by decide) ?_
    refine z_iconst (v := nI 2) dX7_certificate_16 rfl (by decide) ?_
    refine z_callSi (c_X7_isIn G ex _ w (nI 0) (nI 2)) gX7_certificate_X7_isIn rfl dX7_certificate_17 rfl rfl okk_X7_isIn ⟨Nat.le_of_ble_eq_true rfl, Nat.le_of_ble_eq_true rfl⟩ ⟨Nat.le_of_ble_eq_true rfl, Nat.le_of_ble_eq_true rfl⟩ (Nat.le_of_ble_eq_true rfl) ?_
    refine z_if_ne (tgt := 26) dX7_certificate_20 rfl (by decide) (fun c20 => ?_) (fun c20 => ?_)
    · refine z_aload_n dX7_certificate_26 rfl rfl ?_
      refine z_get dX7_certificate_27 rfl hiX7_certificate_X7 32 lkX7_certificate_155 (Nat.le_of_ble_eq_true rfl) rfl rfl (by decide) rfl ?_
      refine z_if_ne (tgt := 36) dX7_certificate_30 rfl (by decide) (fun c30 => ?_) (fun c30 => ?_)
      · have hvi : vp_in i 3 := isIn_k (n := 2) c11 (by decide)
        have hvw : vp_in w 3 := isIn_k (n := 2) c20 (by decide)
        have hli := zvlt hvi
        have hlw := zvlt hvw
        have hrw1 : 1 ≤ rws := Nat.pos_of_ne_zero (fun q => c30 (by rw [q]; rfl))
        refine z_lv (congrArg (fun z9 : Int32 => ([some (.ref (zB G + 76)), some (.int z9), some (.int w), none] : List (Option Value))) (show i = (nI i.toNatClampNeg) from zvin hvi)) ?_
        refine z_lv (congrArg (fun z9 : Int32 => ([some (.ref (zB G + 76)), some (.int (nI i.toNatClampNeg)), some (.int z9), none] : List (Option Value))) (show w = (nI w.toNatClampNeg) from zvin hvw)) ?_
        refine z_aload_n dX7_certificate_36 rfl rfl ?_
        refine z_aload_n dX7_certificate_37 rfl rfl ?_
        refine z_get dX7_certificate_38 rfl hiX7_certificate_X7 32 lkX7_certificate_155 (Nat.le_of_ble_eq_true rfl) rfl rfl (by decide) rfl ?_
        refine z_callVv (c_X7_layTable G ex _ (nI 0) tps pts lns wds brs ors stp hasP fld laid told rws cms cmT cmS isN trs lm om os sg rk rt rs rws (by omega) (by omega) (by omega) (by omega) (by assumption) rfl h82 h87 h88 rfl h97 h99 h100) gX7_certificate_X7_layTable rfl dX7_certificate_41 rfl rfl rfl okk_X7_layTable (Nat.le_of_ble_eq_true rfl) rfl rfl ⟨Nat.le_of_ble_eq_true rfl, Nat.le_of_ble_eq_true rfl⟩ ⟨Nat.le_of_ble_eq_true rfl, Nat.le_of_ble_eq_true rfl⟩ (Nat.le_of_ble_eq_true rfl) ?_
        refine z_nn (L' := [(76, (oMod G (nI 0) (nI tps) (nI pts) (nI lns) (nI wds) (nI brs) (nI ors) stp hasP fld laid told (nI rws) cms (nI cmT) cmS isN (nI trs))), (96, (zI G 1000 (X7_layTable_c96 pts lns ors lm om os sg rk rt rs rws))), (101, (zI G 6 sx))]) rfl ?_
        refine z_iconst (v := nI 5) dX7_certificate_44 rfl (by decide) ?_
        refine z_aload_n dX7_certificate_45 rfl rfl ?_
        refine z_get dX7_certificate_46 rfl hiX7_certificate_X7 32 lkX7_certificate_155 (Nat.le_of_ble_eq_true rfl) rfl rfl (by decide) rfl ?_
        refine z_iconst (v := nI 1) dX7_certificate_49 rfl (by decide) ?_
        refine z_isub dX7_certificate_50 rfl ?_
        refine z_imul dX7_certificate_51 rfl ?_
        refine z_top (show (nI 5) * ((nI rws) - (nI 1)) = nI (5 * (rws - 1)) from (zq_mul rfl (zq_sub rfl rfl (by omega)))) ?_
        refine z_istore_3 dX7_certificate_52 rfl ?_
        refine z_aload_n dX7_certificate_53 rfl rfl ?_
        refine z_aload_n dX7_certificate_54 rfl rfl ?_
        refine z_get dX7_certificate_55 rfl hiX7_certificate_X7 34 lkX7_certificate_77 (Nat.le_of_ble_eq_true rfl) rfl rfl (by decide) rfl ?_
        refine z_iload_n dX7_certificate_58 rfl rfl ?_
        refine z_ialdN (j := 5 * (rws - 1)) dX7_certificate_59 rfl (Nat.le_of_ble_eq_true rfl) h98 (rfl) (by omega) (by decide) ?_
        refine z_top (show rf (5 * (rws - 1)) = nI ((rf (5 * (rws - 1))).toNatClampNeg) from zvin (h5 _ (by omega))) ?_
        refine z_aload_n dX7_certificate_60 rfl rfl ?_
        refine z_get dX7_certificate_61 rfl hiX7_certificate_X7 34 lkX7_certificate_77 (Nat.le_of_ble_eq_true rfl) rfl rfl (by decide) rfl ?_
        refine z_iload_n dX7_certificate_64 rfl rfl ?_
        refine z_iconst (v := nI 1) dX7_certificate_65 rfl (by decide) ?_
        refine z_iadd dX7_certificate_66 rfl ?_
        refine z_ialdN (j := (5 * (rws - 1)) + 1) dX7_certificate_67 rfl (Nat.le_of_ble_eq_true rfl) h98 ((zq_add rfl rfl)) (by omega) (by decide) ?_
        refine z_top (show rf ((5 * (rws - 1)) + 1) = nI ((rf ((5 * (rws - 1)) + 1)).toNatClampNeg) from zvin (h5 _ (by omega))) ?_
        refine z_aload_n dX7_certificate_68 rfl rfl ?_
        refine z_get dX7_certificate_69 rfl hiX7_certificate_X7 34 lkX7_certificate_77 (Nat.le_of_ble_eq_true rfl) rfl rfl (by decide) rfl ?_
        refine z_iload_n dX7_certificate_72 rfl rfl ?_
        refine z_iconst (v := nI 2) dX7_certificate_73 rfl (by decide) ?_
        refine z_iadd dX7_certificate_74 rfl ?_
        refine z_ialdN (j := (5 * (rws - 1)) + 2) dX7_certificate_75 rfl (Nat.le_of_ble_eq_true rfl) h98 ((zq_add rfl rfl)) (by omega) (by decide) ?_
        refine z_top (show rf ((5 * (rws - 1)) + 2) = nI ((rf ((5 * (rws - 1)) + 2)).toNatClampNeg) from zvin (h5 _ (by omega))) ?_
        refine z_aload_n dX7_certificate_76 rfl rfl ?_
        refine z_get dX7_certificate_77 rfl hiX7_certificate_X7 34 lkX7_certificate_77 (Nat.le_of_ble_eq_true rfl) rfl rfl (by decide) rfl ?_
        refine z_iload_n dX7_certificate_80 rfl rfl ?_
        refine z_iconst (v := nI 3) dX7_certificate_81 rfl (by decide) ?_
        refine z_iadd dX7_certificate_82 rfl ?_
        refine z_ialdN (j := (5 * (rws - 1)) + 3) dX7_certificate_83 rfl (Nat.le_of_ble_eq_true rfl) h98 ((zq_add rfl rfl)) (by omega) (by decide) ?_
        refine z_top (show rf ((5 * (rws - 1)) + 3) = nI ((rf ((5 * (rws - 1)) + 3)).toNatClampNeg) from zvin (h5 _ (by omega))) ?_
        refine z_aload_n dX7_certificate_84 rfl rfl ?_
        refine z_get dX7_certificate_85 rfl hiX7_certificate_X7 34 lkX7_certificate_77 (Nat.le_of_ble_eq_true rfl) rfl rfl (by decide) rfl ?_
        refine z_iload_n dX7_certificate_88 rfl rfl ?_
        refine z_iconst (v := nI 4) dX7_certificate_89 rfl (by decide) ?_
        refine z_iadd dX7_certificate_90 rfl ?_
        refine z_ialdN (j := (5 * (rws - 1)) + 4) dX7_certificate_91 rfl (Nat.le_of_ble_eq_true rfl) h98 ((zq_add rfl rfl)) (by omega) (by decide) ?_
        refine z_top (show rf ((5 * (rws - 1)) + 4) = nI ((rf ((5 * (rws - 1)) + 4)).toNatClampNeg) from zvin (h5 _ (by omega))) ?_
        refine z_callVv (c_X7_laySix G ex _ (nI 0) tps pts lns wds brs ors stp hasP fld laid told rws cms cmT cmS isN trs (X7_layTable_c96 pts lns ors lm om os sg rk rt rs rws) sx ((rf (5 * (rws - 1))).toNatClampNeg) ((rf ((5 * (rws - 1)) + 1)).toNatClampNeg) ((rf ((5 * (rws - 1)) + 2)).toNatClampNeg) ((rf ((5 * (rws - 1)) + 3)).toNatClampNeg) ((rf ((5 * (rws - 1)) + 4)).toNatClampNeg) (zvlt (h5 _ (by omega))) (zvlt (h5 _ (by omega))) (zvlt (h5 _ (by omega))) (zvlt (h5 _ (by omega))) (zvlt (h5 _ (by omega))) rfl rfl rfl) gX7_certificate_X7_laySix rfl dX7_certificate_92 rfl rfl rfl okk_X7_laySix (Nat.le_of_ble_eq_true rfl) rfl rfl ⟨Nat.le_of_ble_eq_true rfl, Nat.le_of_ble_eq_true rfl⟩ ⟨Nat.le_of_ble_eq_true rfl, Nat.le_of_ble_eq_true rfl⟩ (Nat.le_of_ble_eq_true rfl) ?_
        refine z_nn (L' := [(76, (oMod G (nI 0) (nI tps) (nI pts) (nI lns) (nI wds) (nI brs) (nI ors) stp hasP fld laid told (nI rws) cms (nI cmT) cmS isN (nI trs))), (96, (zI G 1000 (X7_layTable_c96 pts lns ors lm om os sg rk rt rs rws))), (101, (zI G 6 (X7_laySix_c101 (X7_layTable_c96 pts lns ors lm om os sg rk rt rs rws) sx ((rf (5 * (rws - 1))).toNatClampNeg) ((rf ((5 * (rws - 1)) + 1)).toNatClampNeg) ((rf ((5 * (rws - 1)) + 2)).toNatClampNeg) ((rf ((5 * (rws - 1)) + 3)).toNatClampNeg) ((rf ((5 * (rws - 1)) + 4)).toNatClampNeg))))]) rfl ?_
        refine z_iload_n dX7_certificate_95 rfl rfl ?_
        refine z_iconst (v := nI 2) dX7_certificate_96 rfl (by decide) ?_
        refine z_icmp_ge (tgt := 131) dX7_certificate_97 rfl (by decide) (fun c97 => ?_) (fun c97 => ?_)
        · refine z_aload_n dX7_certificate_131 rfl rfl ?_
          refine z_get dX7_certificate_132 rfl hiX7_certificate_X7 37 lkX7_certificate_86 (Nat.le_of_ble_eq_true rfl) rfl rfl (by decide) rfl ?_
          refine z_iconst (v := nI 2) dX7_certificate_135 rfl (by decide) ?_
          refine z_iload_n dX7_certificate_136 rfl rfl ?_
          refine z_imul dX7_certificate_137 rfl ?_
          refine z_ialdN (j := 2 * i.toNatClampNeg) dX7_certificate_138 rfl (Nat.le_of_ble_eq_true rfl) rfl ((zq_mul rfl rfl)) (by omega) (by decide) ?_
          refine z_bipush (v := nI 9) dX7_certificate_139 rfl (by decide) ?_
          refine z_icmp_eq (tgt := 159) dX7_certificate_141 rfl (by decide) (fun c141 => ?_) (fun c141 => ?_)
          · refine z_bipush (v := (-4)) dX7_certificate_159 rfl (by decide) ?_
            refine z_goto (tgt := 169) dX7_certificate_161 (by decide) ?_
            exact z_ireturn dX7_certificate_169 rfl rfl (Nat.le_refl _) (Nat.le_refl _) (fun _ => rfl) ⟨by simp only [X7_certificate_v, if_neg c11, if_neg c20, if_neg c30, if_pos c97, if_pos c141], by simp only [X7_certificate_p76_0, X7_certificate_c96, X7_certificate_c101, if_neg c11, if_neg c20, if_neg c30, if_pos c97, if_pos c141]⟩
          · refine z_aload_n dX7_certificate_144 rfl rfl ?_
            refine z_get dX7_certificate_145 rfl hiX7_certificate_X7 37 lkX7_certificate_86 (Nat.le_of_ble_eq_true rfl) rfl rfl (by decide) rfl ?_
            refine z_iconst (v := nI 2) dX7_certificate_148 rfl (by decide) ?_
            refine z_iload_n dX7_certificate_149 rfl rfl ?_
            refine z_imul dX7_certificate_150 rfl ?_
            refine z_iconst (v := nI 1) dX7_certificate_151 rfl (by decide) ?_
            refine z_iadd dX7_certificate_152 rfl ?_
            refine z_ialdN (j := (2 * i.toNatClampNeg) + 1) dX7_certificate_153 rfl (Nat.le_of_ble_eq_true rfl) rfl ((zq_add (zq_mul rfl rfl) rfl)) (by omega) (by decide) ?_
            refine z_bipush (v := nI 9) dX7_certificate_154 rfl (by decide) ?_
            refine z_icmp_ne (tgt := 164) dX7_certificate_156 rfl (by decide) (fun c156 => ?_) (fun c156 => ?_)
            · refine z_aload_n dX7_certificate_164 rfl rfl ?_
              refine z_iload_n dX7_certificate_165 rfl rfl ?_
              refine z_callVi (c_X7_term G ex _ (nI 0) tps pts lns wds brs ors stp hasP fld laid told rws cms cmT cmS isN trs (X7_laySix_c101 (X7_layTable_c96 pts lns ors lm om os sg rk rt rs rws) sx ((rf (5 * (rws - 1))).toNatClampNeg) ((rf ((5 * (rws - 1)) + 1)).toNatClampNeg) ((rf ((5 * (rws - 1)) + 2)).toNatClampNeg) ((rf ((5 * (rws - 1)) + 3)).toNatClampNeg) ((rf ((5 * (rws - 1)) + 4)).toNatClampNeg)) i.toNatClampNeg (by omega) rfl rfl) gX7_certificate_X7_term rfl dX7_certificate_166 rfl rfl rfl okk_X7_term (Nat.le_of_ble_eq_true rfl) rfl rfl ⟨Nat.le_of_ble_eq_true rfl, Nat.le_of_ble_eq_true rfl⟩ ⟨Nat.le_of_ble_eq_true rfl, Nat.le_of_ble_eq_true rfl⟩ (Nat.le_of_ble_eq_true rfl) ?_
              exact z_ireturn dX7_certificate_169 rfl rfl (Nat.le_refl _) (Nat.le_refl _) (fun _ => rfl) ⟨by simp only [X7_certificate_v, if_neg c11, if_neg c20, if_neg c30, if_pos c97, if_neg c141, if_neg c156], by simp only [X7_certificate_p76_0, X7_certificate_c96, X7_certificate_c101, if_neg c11, if_neg c20, if_neg c30, if_pos c97, if_neg c141, if_neg c156]⟩
            · refine z_bipush (v := (-4)) dX7_certificate_159 rfl (by decide) ?_
              refine z_goto (tgt := 169) dX7_certificate_161 (by decide) ?_
              exact z_ireturn dX7_certificate_169 rfl rfl (Nat.le_refl _) (Nat.le_refl _) (fun _ => rfl) ⟨by simp only [X7_certificate_v, if_neg c11, if_neg c20, if_neg c30, if_pos c97, if_neg c141, if_pos c156], by simp only [X7_certificate_p76_0, X7_certificate_c96, X7_certificate_c101, if_neg c11, if_neg c20, if_neg c30, if_pos c97, if_neg c141, if_pos c156]⟩
        · have hw2 : w.toNatClampNeg < 2 := Nat.not_le.mp (fun q => absurd (nI_le q (by omega)) c97)
          refine z_aload_n dX7_certificate_100 rfl rfl ?_
          refine z_get dX7_certificate_101 rfl hiX7_certificate_X7 37 lkX7_certificate_86 (Nat.le_of_ble_eq_true rfl) rfl rfl (by decide) rfl ?_
          refine z_iconst (v := nI 2) dX7_certificate_104 rfl (by decide) ?_
          refine z_iload_n dX7_certificate_105 rfl rfl ?_
          refine z_imul dX7_certificate_106 rfl ?_
          refine z_iload_n dX7_certificate_107 rfl rfl ?_
          refine z_iadd dX7_certificate_108 rfl ?_
          refine z_ialdN (j := (2 * i.toNatClampNeg) + w.toNatClampNeg) dX7_certificate_109 rfl (Nat.le_of_ble_eq_true rfl) rfl ((zq_add (zq_mul rfl rfl) rfl)) (by omega) (by decide) ?_
          refine z_bipush (v := nI 9) dX7_certificate_110 rfl (by decide) ?_
          refine z_icmp_ne (tgt := 120) dX7_certificate_112 rfl (by decide) (fun c112 => ?_) (fun c112 => ?_)
          · refine z_aload_n dX7_certificate_120 rfl rfl ?_
            refine z_get dX7_certificate_121 rfl hiX7_certificate_X7 37 lkX7_certificate_86 (Nat.le_of_ble_eq_true rfl) rfl rfl (by decide) rfl ?_
            refine z_iconst (v := nI 2) dX7_certificate_124 rfl (by decide) ?_
            refine z_iload_n dX7_certificate_125 rfl rfl ?_
            refine z_imul dX7_certificate_126 rfl ?_
            refine z_iload_n dX7_certificate_127 rfl rfl ?_
            refine z_iadd dX7_certificate_128 rfl ?_
            refine z_ialdN (j := (2 * i.toNatClampNeg) + w.toNatClampNeg) dX7_certificate_129 rfl (Nat.le_of_ble_eq_true rfl) rfl ((zq_add (zq_mul rfl rfl) rfl)) (by omega) (by decide) ?_
            exact z_ireturn dX7_certificate_130 rfl rfl (Nat.le_refl _) (Nat.le_refl _) (fun _ => rfl) ⟨by simp only [X7_certificate_v, if_neg c11, if_neg c20, if_neg c30, if_neg c97, if_neg c112], by simp only [X7_certificate_p76_0, X7_certificate_c96, X7_certificate_c101, if_neg c11, if_neg c20, if_neg c30, if_neg c97, if_neg c112]⟩
          · refine z_bipush (v := (-4)) dX7_certificate_115 rfl (by decide) ?_
            refine z_goto (tgt := 130) dX7_certificate_117 (by decide) ?_
            exact z_ireturn dX7_certificate_130 rfl rfl (Nat.le_refl _) (Nat.le_refl _) (fun _ => rfl) ⟨by simp only [X7_certificate_v, if_neg c11, if_neg c20, if_neg c30, if_neg c97, if_pos c112], by simp only [X7_certificate_p76_0, X7_certificate_c96, X7_certificate_c101, if_neg c11, if_neg c20, if_neg c30, if_neg c97, if_pos c112]⟩
      · refine z_bipush (v := (-2)) dX7_certificate_33 rfl (by decide) ?_
        exact z_ireturn dX7_certificate_35 rfl rfl (Nat.le_refl _) (Nat.le_refl _) (fun _ => rfl) ⟨by simp only [X7_certificate_v, if_neg c11, if_neg c20, if_pos c30], by simp only [X7_certificate_p76_0, X7_certificate_c96, X7_certificate_c101, if_neg c11, if_neg c20, if_pos c30]⟩
    · refine z_bipush (v := (-9)) dX7_certificate_23 rfl (by decide) ?_
      exact z_ireturn dX7_certificate_25 rfl rfl (Nat.le_refl _) (Nat.le_refl _) (fun _ => rfl) ⟨by simp only [X7_certificate_v, if_neg c11, if_pos c20], by simp only [X7_certificate_p76_0, X7_certificate_c96, X7_certificate_c101, if_neg c11, if_pos c20]⟩
