/-! ===== steps: sign, count, line, bar, orient ===== -/
set_option maxRecDepth 100000 in
set_option maxHeartbeats 4000000 in
theorem st_sign_T (G : zG) {V : Nat → Nat} {I : Nat → Int32} {A : Nat → Nat → Int32} {W U : Nat → Nat → Int32} {J : Nat → Int64} (hR : RELS V I A W) (x1 : Int32) : STEP G J (clF G true V I A W U J) yX6_sign wsX6_sign (zrm 0 0) yX7_sign wsX7_sign (zrm 1 22) [.int x1] := by
  obtain ⟨hT, hO, hS, hW, hF, h7, h80, htp, hb, ho, hst, hfr, hm, hcm, hz⟩ := hR
  have hn := hT.1
  have hl := hT.2.1
  have s := sign_same (c := x1) h80 htp
  have cC := c_X6_sign_2 G false (clF G true V I A W U J) (V 0) (A 1) x1 h80 rfl rfl
  have cR := c_X7_sign G false (zus (clF G true V I A W U J) [(0, oCfg G 2 19 (nI (X6_sign_p0_0 (V 0) x1))), (1, zI G 80 (X6_sign_c1 (V 0) (A 1) x1))]) (I 9) (V 0) (V 1) (V 2) (V 10) (V 4) (V 5) (nI (V 6)) (I 5) (nI (V 11)) (I 10) (I 6) (V 9) (I 11) (V 12) (I 12) (I 13) (V 13) (A 77) x1 h80 rfl rfl
  rw [← s.1, ← s.2.1] at cR
  exact ⟨_, _, _, cC, cR, ⟨_, rfl⟩, ⟨_, rfl⟩, true, (fun j => if j = 0 then (X6_sign_p0_0 (V 0) x1) else V j), (fun j => if j = 9 then (nI (X7_sign_p76_0 (V 0) x1)) else I j), (fun j => if j = 1 then ((X6_sign_c1 (V 0) (A 1) x1)) else if j = 77 then ((X7_sign_c77 (V 0) (A 77) x1)) else A j), W, U, all113 ⟨rfl, rfl, rfl, rfl, rfl, rfl, rfl, rfl, rfl, rfl, rfl, rfl, rfl, rfl, rfl, rfl, rfl, rfl, rfl, rfl, rfl, rfl, rfl, rfl, rfl, rfl, rfl, rfl, rfl, rfl, rfl, rfl, rfl, rfl, rfl, rfl, rfl, rfl, rfl, rfl, rfl, rfl, rfl, rfl, rfl, rfl, rfl, rfl, rfl, rfl, rfl, rfl, rfl, rfl, rfl, rfl, rfl, rfl, rfl, rfl, rfl, rfl, rfl, rfl, rfl, rfl, rfl, rfl, rfl, rfl, rfl, rfl, rfl, rfl, rfl, rfl, rfl, rfl, rfl, rfl, rfl, rfl, rfl, rfl, rfl, rfl, rfl, rfl, rfl, rfl, rfl, rfl, rfl, rfl, rfl, rfl, rfl, rfl, rfl, rfl, rfl, rfl, rfl, rfl, rfl, rfl, rfl, rfl, rfl, rfl, rfl, rfl, rfl⟩, ⟨hT, hO, hS, hW, hF, h7, (by rw [s.2.1]; exact s.2.2.1), (fun k hk => s.2.2.2 k (by rw [← s.2.1]; exact hk)), hb, ho, hst, hfr, hm, hcm, hz⟩⟩
set_option maxRecDepth 100000 in
set_option maxHeartbeats 4000000 in
theorem st_sign_F (G : zG) {V : Nat → Nat} {I : Nat → Int32} {A : Nat → Nat → Int32} {W U : Nat → Nat → Int32} {J : Nat → Int64} (hR : RELS V I A W) (x1 : Int32) : STEP G J (clF G false V I A W U J) yX6_sign wsX6_sign (zrm 0 0) yX7_sign wsX7_sign (zrm 1 22) [.int x1] := by
  obtain ⟨hT, hO, hS, hW, hF, h7, h80, htp, hb, ho, hst, hfr, hm, hcm, hz⟩ := hR
  have hn := hT.1
  have hl := hT.2.1
  have s := sign_same (c := x1) h80 htp
  have cC := c_X6_sign_19 G false (clF G false V I A W U J) (V 0) (A 1) x1 h80 rfl rfl
  have cR := c_X7_sign G false (zus (clF G false V I A W U J) [(0, oCfg G 19 2 (nI (X6_sign_p0_0 (V 0) x1))), (1, zI G 80 (X6_sign_c1 (V 0) (A 1) x1))]) (I 9) (V 0) (V 1) (V 2) (V 10) (V 4) (V 5) (nI (V 6)) (I 5) (nI (V 11)) (I 10) (I 6) (V 9) (I 11) (V 12) (I 12) (I 13) (V 13) (A 77) x1 h80 rfl rfl
  rw [← s.1, ← s.2.1] at cR
  exact ⟨_, _, _, cC, cR, ⟨_, rfl⟩, ⟨_, rfl⟩, false, (fun j => if j = 0 then (X6_sign_p0_0 (V 0) x1) else V j), (fun j => if j = 9 then (nI (X7_sign_p76_0 (V 0) x1)) else I j), (fun j => if j = 1 then ((X6_sign_c1 (V 0) (A 1) x1)) else if j = 77 then ((X7_sign_c77 (V 0) (A 77) x1)) else A j), W, U, all113 ⟨rfl, rfl, rfl, rfl, rfl, rfl, rfl, rfl, rfl, rfl, rfl, rfl, rfl, rfl, rfl, rfl, rfl, rfl, rfl, rfl, rfl, rfl, rfl, rfl, rfl, rfl, rfl, rfl, rfl, rfl, rfl, rfl, rfl, rfl, rfl, rfl, rfl, rfl, rfl, rfl, rfl, rfl, rfl, rfl, rfl, rfl, rfl, rfl, rfl, rfl, rfl, rfl, rfl, rfl, rfl, rfl, rfl, rfl, rfl, rfl, rfl, rfl, rfl, rfl, rfl, rfl, rfl, rfl, rfl, rfl, rfl, rfl, rfl, rfl, rfl, rfl, rfl, rfl, rfl, rfl, rfl, rfl, rfl, rfl, rfl, rfl, rfl, rfl, rfl, rfl, rfl, rfl, rfl, rfl, rfl, rfl, rfl, rfl, rfl, rfl, rfl, rfl, rfl, rfl, rfl, rfl, rfl, rfl, rfl, rfl, rfl, rfl, rfl⟩, ⟨hT, hO, hS, hW, hF, h7, (by rw [s.2.1]; exact s.2.2.1), (fun k hk => s.2.2.2 k (by rw [← s.2.1]; exact hk)), hb, ho, hst, hfr, hm, hcm, hz⟩⟩

set_option maxRecDepth 100000 in
set_option maxHeartbeats 4000000 in
theorem st_count_T (G : zG) {V : Nat → Nat} {I : Nat → Int32} {A : Nat → Nat → Int32} {W U : Nat → Nat → Int32} {J : Nat → Int64} (hR : RELS V I A W) (x1 : Int32) : STEP G J (clF G true V I A W U J) yX6_count wsX6_count (zrm 0 0) yX7_count wsX7_count (zrm 0 0) [.int x1] := by
  obtain ⟨hT, hO, hS, hW, hF, h7, h80, htp, hb, ho, hst, hfr, hm, hcm, hz⟩ := hR
  have hn := hT.1
  have hl := hT.2.1
  have cC := c_X6_count_2 G false (clF G true V I A W U J) (V 1) (V 2) (V 3) (I 0) (V 0) (nI (V 4)) (nI (V 5)) (V 9) (I 6) (I 7) (I 5) (V 6) x1 rfl rfl rfl rfl rfl
  have cR := c_X7_count G false (clF G true V I A W U J) (I 9) (V 0) (V 1) (V 2) (V 10) (V 4) (V 5) (nI (V 6)) (I 5) (nI (V 11)) (I 10) (I 6) (V 9) (I 11) (V 12) (I 12) (I 13) (V 13) x1 rfl
  exact ⟨_, _, _, cC, cR, ⟨_, rfl⟩, ⟨_, rfl⟩, true, V, (fun j => if j = 9 then (nI (X7_count_p76_0 x1)) else I j), A, W, U, all113 ⟨rfl, rfl, rfl, rfl, rfl, rfl, rfl, rfl, rfl, rfl, rfl, rfl, rfl, rfl, rfl, rfl, rfl, rfl, rfl, rfl, rfl, rfl, rfl, rfl, rfl, rfl, rfl, rfl, rfl, rfl, rfl, rfl, rfl, rfl, rfl, rfl, rfl, rfl, rfl, rfl, rfl, rfl, rfl, rfl, rfl, rfl, rfl, rfl, rfl, rfl, rfl, rfl, rfl, rfl, rfl, rfl, rfl, rfl, rfl, rfl, rfl, rfl, rfl, rfl, rfl, rfl, rfl, rfl, rfl, rfl, rfl, rfl, rfl, rfl, rfl, rfl, rfl, rfl, rfl, rfl, rfl, rfl, rfl, rfl, rfl, rfl, rfl, rfl, rfl, rfl, rfl, rfl, rfl, rfl, rfl, rfl, rfl, rfl, rfl, rfl, rfl, rfl, rfl, rfl, rfl, rfl, rfl, rfl, rfl, rfl, rfl, rfl, rfl⟩, ⟨hT, hO, hS, hW, hF, h7, h80, htp, hb, ho, hst, hfr, hm, hcm, hz⟩⟩
set_option maxRecDepth 100000 in
set_option maxHeartbeats 4000000 in
theorem st_count_F (G : zG) {V : Nat → Nat} {I : Nat → Int32} {A : Nat → Nat → Int32} {W U : Nat → Nat → Int32} {J : Nat → Int64} (hR : RELS V I A W) (x1 : Int32) : STEP G J (clF G false V I A W U J) yX6_count wsX6_count (zrm 0 0) yX7_count wsX7_count (zrm 0 0) [.int x1] := by
  obtain ⟨hT, hO, hS, hW, hF, h7, h80, htp, hb, ho, hst, hfr, hm, hcm, hz⟩ := hR
  have hn := hT.1
  have hl := hT.2.1
  have cC := c_X6_count_19 G false (clF G false V I A W U J) (V 1) (V 2) (V 3) (I 0) (V 0) (nI (V 4)) (nI (V 5)) (V 9) (I 6) (I 7) (I 5) (V 6) x1 rfl rfl rfl rfl rfl
  have cR := c_X7_count G false (clF G false V I A W U J) (I 9) (V 0) (V 1) (V 2) (V 10) (V 4) (V 5) (nI (V 6)) (I 5) (nI (V 11)) (I 10) (I 6) (V 9) (I 11) (V 12) (I 12) (I 13) (V 13) x1 rfl
  exact ⟨_, _, _, cC, cR, ⟨_, rfl⟩, ⟨_, rfl⟩, false, V, (fun j => if j = 9 then (nI (X7_count_p76_0 x1)) else I j), A, W, U, all113 ⟨rfl, rfl, rfl, rfl, rfl, rfl, rfl, rfl, rfl, rfl, rfl, rfl, rfl, rfl, rfl, rfl, rfl, rfl, rfl, rfl, rfl, rfl, rfl, rfl, rfl, rfl, rfl, rfl, rfl, rfl, rfl, rfl, rfl, rfl, rfl, rfl, rfl, rfl, rfl, rfl, rfl, rfl, rfl, rfl, rfl, rfl, rfl, rfl, rfl, rfl, rfl, rfl, rfl, rfl, rfl, rfl, rfl, rfl, rfl, rfl, rfl, rfl, rfl, rfl, rfl, rfl, rfl, rfl, rfl, rfl, rfl, rfl, rfl, rfl, rfl, rfl, rfl, rfl, rfl, rfl, rfl, rfl, rfl, rfl, rfl, rfl, rfl, rfl, rfl, rfl, rfl, rfl, rfl, rfl, rfl, rfl, rfl, rfl, rfl, rfl, rfl, rfl, rfl, rfl, rfl, rfl, rfl, rfl, rfl, rfl, rfl, rfl, rfl⟩, ⟨hT, hO, hS, hW, hF, h7, h80, htp, hb, ho, hst, hfr, hm, hcm, hz⟩⟩

set_option maxRecDepth 100000 in
set_option maxHeartbeats 4000000 in
theorem st_line_T (G : zG) {V : Nat → Nat} {I : Nat → Int32} {A : Nat → Nat → Int32} {W U : Nat → Nat → Int32} {J : Nat → Int64} (hR : RELS V I A W) (x1 x2 x3 : Int32) : STEP G J (clF G true V I A W U J) yX6_line wsX6_line (zrm 1 21) yX7_line wsX7_line (zrm 1 22) [.int x1, .int x2, .int x3] := by
  obtain ⟨hT, hO, hS, hW, hF, h7, h80, htp, hb, ho, hst, hfr, hm, hcm, hz⟩ := hR
  have hn := hT.1
  have hl := hT.2.1
  have s := line_same hT x1 x2 x3
  have hy := TXT_hyp hT
  have cC := c_X6_line_2 G false (clF G true V I A W U J) (V 1) (V 2) (V 3) (I 0) (V 0) (A 3) (A 4) W x1 x2 x3 hl hy.1 hy.2.1 rfl rfl rfl rfl rfl rw_T
  have cR := c_X7_line G false (clF G true V I A W U J) (I 9) (V 0) (V 1) (V 2) (V 10) (V 4) (V 5) (nI (V 6)) (I 5) (nI (V 11)) (I 10) (I 6) (V 9) (I 11) (V 12) (I 12) (I 13) (V 13) (A 80) (A 81) (A 78) x1 x2 x3 hl hy.2.2.2.2.1 hy.2.2.2.2.2.1 rfl rfl rfl rfl
  rw [← s.1] at cR
  exact ⟨_, _, _, cC, cR, ⟨_, rfl⟩, ⟨_, rfl⟩, true, V, (fun j => if j = 9 then (nI (X7_line_p76_0 (V 2) (A 80) x1 x2 x3)) else I j), A, W, U, all113 ⟨rfl, rfl, rfl, rfl, rfl, rfl, rfl, rfl, rfl, rfl, rfl, rfl, rfl, rfl, rfl, rfl, rfl, rfl, rfl, rfl, rfl, rfl, rfl, rfl, rfl, rfl, rfl, rfl, rfl, rfl, rfl, rfl, rfl, rfl, rfl, rfl, rfl, rfl, rfl, rfl, rfl, rfl, rfl, rfl, rfl, rfl, rfl, rfl, rfl, rfl, rfl, rfl, rfl, rfl, rfl, rfl, rfl, rfl, rfl, rfl, rfl, rfl, rfl, rfl, rfl, rfl, rfl, rfl, rfl, rfl, rfl, rfl, rfl, rfl, rfl, rfl, rfl, rfl, rfl, rfl, rfl, rfl, rfl, rfl, rfl, rfl, rfl, rfl, rfl, rfl, rfl, rfl, rfl, rfl, rfl, rfl, rfl, rfl, rfl, rfl, rfl, rfl, rfl, rfl, rfl, rfl, rfl, rfl, rfl, rfl, rfl, rfl, rfl⟩, ⟨hT, hO, hS, hW, hF, h7, h80, htp, hb, ho, hst, hfr, hm, hcm, hz⟩⟩
set_option maxRecDepth 100000 in
set_option maxHeartbeats 4000000 in
theorem st_line_F (G : zG) {V : Nat → Nat} {I : Nat → Int32} {A : Nat → Nat → Int32} {W U : Nat → Nat → Int32} {J : Nat → Int64} (hR : RELS V I A W) (x1 x2 x3 : Int32) : STEP G J (clF G false V I A W U J) yX6_line wsX6_line (zrm 1 21) yX7_line wsX7_line (zrm 1 22) [.int x1, .int x2, .int x3] := by
  obtain ⟨hT, hO, hS, hW, hF, h7, h80, htp, hb, ho, hst, hfr, hm, hcm, hz⟩ := hR
  have hn := hT.1
  have hl := hT.2.1
  have s := line_same hT x1 x2 x3
  have hy := TXT_hyp hT
  have cC := c_X6_line_19 G false (clF G false V I A W U J) (V 1) (V 2) (V 3) (I 0) (V 0) (A 3) (A 4) W x1 x2 x3 hl hy.1 hy.2.1 rfl rfl rfl rfl rfl rw_F
  have cR := c_X7_line G false (clF G false V I A W U J) (I 9) (V 0) (V 1) (V 2) (V 10) (V 4) (V 5) (nI (V 6)) (I 5) (nI (V 11)) (I 10) (I 6) (V 9) (I 11) (V 12) (I 12) (I 13) (V 13) (A 80) (A 81) (A 78) x1 x2 x3 hl hy.2.2.2.2.1 hy.2.2.2.2.2.1 rfl rfl rfl rfl
  rw [← s.1] at cR
  exact ⟨_, _, _, cC, cR, ⟨_, rfl⟩, ⟨_, rfl⟩, false, V, (fun j => if j = 9 then (nI (X7_line_p76_0 (V 2) (A 80) x1 x2 x3)) else I j), A, W, U, all113 ⟨rfl, rfl, rfl, rfl, rfl, rfl, rfl, rfl, rfl, rfl, rfl, rfl, rfl, rfl, rfl, rfl, rfl, rfl, rfl, rfl, rfl, rfl, rfl, rfl, rfl, rfl, rfl, rfl, rfl, rfl, rfl, rfl, rfl, rfl, rfl, rfl, rfl, rfl, rfl, rfl, rfl, rfl, rfl, rfl, rfl, rfl, rfl, rfl, rfl, rfl, rfl, rfl, rfl, rfl, rfl, rfl, rfl, rfl, rfl, rfl, rfl, rfl, rfl, rfl, rfl, rfl, rfl, rfl, rfl, rfl, rfl, rfl, rfl, rfl, rfl, rfl, rfl, rfl, rfl, rfl, rfl, rfl, rfl, rfl, rfl, rfl, rfl, rfl, rfl, rfl, rfl, rfl, rfl, rfl, rfl, rfl, rfl, rfl, rfl, rfl, rfl, rfl, rfl, rfl, rfl, rfl, rfl, rfl, rfl, rfl, rfl, rfl, rfl⟩, ⟨hT, hO, hS, hW, hF, h7, h80, htp, hb, ho, hst, hfr, hm, hcm, hz⟩⟩

set_option maxRecDepth 100000 in
set_option maxHeartbeats 4000000 in
theorem st_bar_T (G : zG) {V : Nat → Nat} {I : Nat → Int32} {A : Nat → Nat → Int32} {W U : Nat → Nat → Int32} {J : Nat → Int64} (hR : RELS V I A W) (x1 x2 x3 : Int32) : STEP G J (clF G true V I A W U J) yX6_bar wsX6_bar (zrm 2 46) yX7_bar wsX7_bar (zrm 2 45) [.int x1, .int x2, .int x3] := by
  obtain ⟨hT, hO, hS, hW, hF, h7, h80, htp, hb, ho, hst, hfr, hm, hcm, hz⟩ := hR
  have hn := hT.1
  have hl := hT.2.1
  have s := bar_same hn hb hO x1 x2 x3
  have cC := c_X6_bar_2 G false (clF G true V I A W U J) (V 1) (V 2) (V 3) (I 0) (V 0) (nI (V 4)) (nI (V 5)) (A 37) (A 38) (A 39) x1 x2 x3 hn rfl rfl rfl rfl rfl rfl
  rw [s.2.1] at cC
  have cR := c_X7_bar G false (zus (clF G true V I A W U J) [(36, oTld G (nI (X7_bar_p76_5 (V 1) (V 2) (V 4) (A 82) (A 86) x1 x2 x3)) (nI (V 5))), (38, zZ G 120 (X6_bar_c38 (V 1) (nI (V 4)) (A 37) (A 38) x1 x2 x3))]) (I 9) (V 0) (V 1) (V 2) (V 10) (V 4) (V 5) (nI (V 6)) (I 5) (nI (V 11)) (I 10) (I 6) (V 9) (I 11) (V 12) (I 12) (I 13) (V 13) (A 82) (A 86) x1 x2 x3 hl hb rfl rfl rfl
  rw [← s.1] at cR
  exact ⟨_, _, _, cC, cR, ⟨_, rfl⟩, ⟨_, rfl⟩, true, (fun j => if j = 4 then (X7_bar_p76_5 (V 1) (V 2) (V 4) (A 82) (A 86) x1 x2 x3) else V j), (fun j => if j = 9 then (nI (X7_bar_p76_0 (V 1) (V 2) (V 4) (A 82) (A 86) x1 x2 x3)) else I j), (fun j => if j = 38 then ((X6_bar_c38 (V 1) (nI (V 4)) (A 37) (A 38) x1 x2 x3)) else if j = 86 then ((X7_bar_c86 (V 1) (V 2) (V 4) (A 82) (A 86) x1 x2 x3)) else A j), W, U, all113 ⟨rfl, rfl, rfl, rfl, rfl, rfl, rfl, rfl, rfl, rfl, rfl, rfl, rfl, rfl, rfl, rfl, rfl, rfl, rfl, rfl, rfl, rfl, rfl, rfl, rfl, rfl, rfl, rfl, rfl, rfl, rfl, rfl, rfl, rfl, rfl, rfl, rfl, rfl, rfl, rfl, rfl, rfl, rfl, rfl, rfl, rfl, rfl, rfl, rfl, rfl, rfl, rfl, rfl, rfl, rfl, rfl, rfl, rfl, rfl, rfl, rfl, rfl, rfl, rfl, rfl, rfl, rfl, rfl, rfl, rfl, rfl, rfl, rfl, rfl, rfl, rfl, rfl, rfl, rfl, rfl, rfl, rfl, rfl, rfl, rfl, rfl, rfl, rfl, rfl, rfl, rfl, rfl, rfl, rfl, rfl, rfl, rfl, rfl, rfl, rfl, rfl, rfl, rfl, rfl, rfl, rfl, rfl, rfl, rfl, rfl, rfl, rfl, rfl⟩, ⟨hT, s.2.2.2.2, hS, hW, hF, h7, h80, htp, s.2.2.2.1, ho, hst, hfr, hm, hcm, hz⟩⟩
set_option maxRecDepth 100000 in
set_option maxHeartbeats 4000000 in
theorem st_bar_F (G : zG) {V : Nat → Nat} {I : Nat → Int32} {A : Nat → Nat → Int32} {W U : Nat → Nat → Int32} {J : Nat → Int64} (hR : RELS V I A W) (x1 x2 x3 : Int32) : STEP G J (clF G false V I A W U J) yX6_bar wsX6_bar (zrm 2 46) yX7_bar wsX7_bar (zrm 2 45) [.int x1, .int x2, .int x3] := by
  obtain ⟨hT, hO, hS, hW, hF, h7, h80, htp, hb, ho, hst, hfr, hm, hcm, hz⟩ := hR
  have hn := hT.1
  have hl := hT.2.1
  have s := bar_same hn hb hO x1 x2 x3
  have cC := c_X6_bar_19 G false (clF G false V I A W U J) (V 1) (V 2) (V 3) (I 0) (V 0) (nI (V 4)) (nI (V 5)) (A 37) (A 38) (A 39) x1 x2 x3 hn rfl rfl rfl rfl rfl rfl
  rw [s.2.1] at cC
  have cR := c_X7_bar G false (zus (clF G false V I A W U J) [(36, oTld G (nI (X7_bar_p76_5 (V 1) (V 2) (V 4) (A 82) (A 86) x1 x2 x3)) (nI (V 5))), (38, zZ G 120 (X6_bar_c38 (V 1) (nI (V 4)) (A 37) (A 38) x1 x2 x3))]) (I 9) (V 0) (V 1) (V 2) (V 10) (V 4) (V 5) (nI (V 6)) (I 5) (nI (V 11)) (I 10) (I 6) (V 9) (I 11) (V 12) (I 12) (I 13) (V 13) (A 82) (A 86) x1 x2 x3 hl hb rfl rfl rfl
  rw [← s.1] at cR
  exact ⟨_, _, _, cC, cR, ⟨_, rfl⟩, ⟨_, rfl⟩, false, (fun j => if j = 4 then (X7_bar_p76_5 (V 1) (V 2) (V 4) (A 82) (A 86) x1 x2 x3) else V j), (fun j => if j = 9 then (nI (X7_bar_p76_0 (V 1) (V 2) (V 4) (A 82) (A 86) x1 x2 x3)) else I j), (fun j => if j = 38 then ((X6_bar_c38 (V 1) (nI (V 4)) (A 37) (A 38) x1 x2 x3)) else if j = 86 then ((X7_bar_c86 (V 1) (V 2) (V 4) (A 82) (A 86) x1 x2 x3)) else A j), W, U, all113 ⟨rfl, rfl, rfl, rfl, rfl, rfl, rfl, rfl, rfl, rfl, rfl, rfl, rfl, rfl, rfl, rfl, rfl, rfl, rfl, rfl, rfl, rfl, rfl, rfl, rfl, rfl, rfl, rfl, rfl, rfl, rfl, rfl, rfl, rfl, rfl, rfl, rfl, rfl, rfl, rfl, rfl, rfl, rfl, rfl, rfl, rfl, rfl, rfl, rfl, rfl, rfl, rfl, rfl, rfl, rfl, rfl, rfl, rfl, rfl, rfl, rfl, rfl, rfl, rfl, rfl, rfl, rfl, rfl, rfl, rfl, rfl, rfl, rfl, rfl, rfl, rfl, rfl, rfl, rfl, rfl, rfl, rfl, rfl, rfl, rfl, rfl, rfl, rfl, rfl, rfl, rfl, rfl, rfl, rfl, rfl, rfl, rfl, rfl, rfl, rfl, rfl, rfl, rfl, rfl, rfl, rfl, rfl, rfl, rfl, rfl, rfl, rfl, rfl⟩, ⟨hT, s.2.2.2.2, hS, hW, hF, h7, h80, htp, s.2.2.2.1, ho, hst, hfr, hm, hcm, hz⟩⟩

set_option maxRecDepth 100000 in
set_option maxHeartbeats 4000000 in
theorem st_orient_T (G : zG) {V : Nat → Nat} {I : Nat → Int32} {A : Nat → Nat → Int32} {W U : Nat → Nat → Int32} {J : Nat → Int64} (hR : RELS V I A W) (x1 x2 x3 x4 : Int32) : STEP G J (clF G true V I A W U J) yX6_orient wsX6_orient (zrm 2 46) yX7_orient wsX7_orient (zrm 2 45) [.int x1, .int x2, .int x3, .int x4] := by
  obtain ⟨hT, hO, hS, hW, hF, h7, h80, htp, hb, ho, hst, hfr, hm, hcm, hz⟩ := hR
  have hn := hT.1
  have hl := hT.2.1
  have s := orient_same hn ho hO x1 x2 x3 x4
  have cC := c_X6_orient_2 G false (clF G true V I A W U J) (V 1) (V 2) (V 3) (I 0) (V 0) (nI (V 4)) (nI (V 5)) (A 37) (A 38) (A 39) x1 x2 x3 x4 hn rfl rfl rfl rfl rfl rfl
  rw [s.2.1] at cC
  have cR := c_X7_orient G false (zus (clF G true V I A W U J) [(36, oTld G (nI (V 4)) (nI (X7_orient_p76_6 (V 1) (V 2) (V 5) (A 82) (A 87) (A 88) x1 x2 x3 x4))), (39, zI G 120 (X6_orient_c39 (V 1) (nI (V 5)) (A 37) (A 39) x1 x2 x3 x4))]) (I 9) (V 0) (V 1) (V 2) (V 10) (V 4) (V 5) (nI (V 6)) (I 5) (nI (V 11)) (I 10) (I 6) (V 9) (I 11) (V 12) (I 12) (I 13) (V 13) (A 82) (A 87) (A 88) x1 x2 x3 x4 hl ho rfl rfl rfl rfl
  rw [← s.1] at cR
  exact ⟨_, _, _, cC, cR, ⟨_, rfl⟩, ⟨_, rfl⟩, true, (fun j => if j = 5 then (X7_orient_p76_6 (V 1) (V 2) (V 5) (A 82) (A 87) (A 88) x1 x2 x3 x4) else V j), (fun j => if j = 9 then (nI (X7_orient_p76_0 (V 1) (V 2) (V 5) (A 82) (A 87) (A 88) x1 x2 x3 x4)) else I j), (fun j => if j = 39 then ((X6_orient_c39 (V 1) (nI (V 5)) (A 37) (A 39) x1 x2 x3 x4)) else if j = 87 then ((X7_orient_c87 (V 1) (V 2) (V 5) (A 82) (A 87) (A 88) x1 x2 x3 x4)) else if j = 88 then ((X7_orient_c88 (V 1) (V 2) (V 5) (A 82) (A 87) (A 88) x1 x2 x3 x4)) else A j), W, U, all113 ⟨rfl, rfl, rfl, rfl, rfl, rfl, rfl, rfl, rfl, rfl, rfl, rfl, rfl, rfl, rfl, rfl, rfl, rfl, rfl, rfl, rfl, rfl, rfl, rfl, rfl, rfl, rfl, rfl, rfl, rfl, rfl, rfl, rfl, rfl, rfl, rfl, rfl, rfl, rfl, rfl, rfl, rfl, rfl, rfl, rfl, rfl, rfl, rfl, rfl, rfl, rfl, rfl, rfl, rfl, rfl, rfl, rfl, rfl, rfl, rfl, rfl, rfl, rfl, rfl, rfl, rfl, rfl, rfl, rfl, rfl, rfl, rfl, rfl, rfl, rfl, rfl, rfl, rfl, rfl, rfl, rfl, rfl, rfl, rfl, rfl, rfl, rfl, rfl, rfl, rfl, rfl, rfl, rfl, rfl, rfl, rfl, rfl, rfl, rfl, rfl, rfl, rfl, rfl, rfl, rfl, rfl, rfl, rfl, rfl, rfl, rfl, rfl, rfl⟩, ⟨hT, s.2.2.2.2, hS, hW, hF, h7, h80, htp, hb, s.2.2.2.1, hst, hfr, hm, hcm, hz⟩⟩
set_option maxRecDepth 100000 in
set_option maxHeartbeats 4000000 in
theorem st_orient_F (G : zG) {V : Nat → Nat} {I : Nat → Int32} {A : Nat → Nat → Int32} {W U : Nat → Nat → Int32} {J : Nat → Int64} (hR : RELS V I A W) (x1 x2 x3 x4 : Int32) : STEP G J (clF G false V I A W U J) yX6_orient wsX6_orient (zrm 2 46) yX7_orient wsX7_orient (zrm 2 45) [.int x1, .int x2, .int x3, .int x4] := by
  obtain ⟨hT, hO, hS, hW, hF, h7, h80, htp, hb, ho, hst, hfr, hm, hcm, hz⟩ := hR
  have hn := hT.1
  have hl := hT.2.1
  have s := orient_same hn ho hO x1 x2 x3 x4
  have cC := c_X6_orient_19 G false (clF G false V I A W U J) (V 1) (V 2) (V 3) (I 0) (V 0) (nI (V 4)) (nI (V 5)) (A 37) (A 38) (A 39) x1 x2 x3 x4 hn rfl rfl rfl rfl rfl rfl
  rw [s.2.1] at cC
  have cR := c_X7_orient G false (zus (clF G false V I A W U J) [(36, oTld G (nI (V 4)) (nI (X7_orient_p76_6 (V 1) (V 2) (V 5) (A 82) (A 87) (A 88) x1 x2 x3 x4))), (39, zI G 120 (X6_orient_c39 (V 1) (nI (V 5)) (A 37) (A 39) x1 x2 x3 x4))]) (I 9) (V 0) (V 1) (V 2) (V 10) (V 4) (V 5) (nI (V 6)) (I 5) (nI (V 11)) (I 10) (I 6) (V 9) (I 11) (V 12) (I 12) (I 13) (V 13) (A 82) (A 87) (A 88) x1 x2 x3 x4 hl ho rfl rfl rfl rfl
  rw [← s.1] at cR
  exact ⟨_, _, _, cC, cR, ⟨_, rfl⟩, ⟨_, rfl⟩, false, (fun j => if j = 5 then (X7_orient_p76_6 (V 1) (V 2) (V 5) (A 82) (A 87) (A 88) x1 x2 x3 x4) else V j), (fun j => if j = 9 then (nI (X7_orient_p76_0 (V 1) (V 2) (V 5) (A 82) (A 87) (A 88) x1 x2 x3 x4)) else I j), (fun j => if j = 39 then ((X6_orient_c39 (V 1) (nI (V 5)) (A 37) (A 39) x1 x2 x3 x4)) else if j = 87 then ((X7_orient_c87 (V 1) (V 2) (V 5) (A 82) (A 87) (A 88) x1 x2 x3 x4)) else if j = 88 then ((X7_orient_c88 (V 1) (V 2) (V 5) (A 82) (A 87) (A 88) x1 x2 x3 x4)) else A j), W, U, all113 ⟨rfl, rfl, rfl, rfl, rfl, rfl, rfl, rfl, rfl, rfl, rfl, rfl, rfl, rfl, rfl, rfl, rfl, rfl, rfl, rfl, rfl, rfl, rfl, rfl, rfl, rfl, rfl, rfl, rfl, rfl, rfl, rfl, rfl, rfl, rfl, rfl, rfl, rfl, rfl, rfl, rfl, rfl, rfl, rfl, rfl, rfl, rfl, rfl, rfl, rfl, rfl, rfl, rfl, rfl, rfl, rfl, rfl, rfl, rfl, rfl, rfl, rfl, rfl, rfl, rfl, rfl, rfl, rfl, rfl, rfl, rfl, rfl, rfl, rfl, rfl, rfl, rfl, rfl, rfl, rfl, rfl, rfl, rfl, rfl, rfl, rfl, rfl, rfl, rfl, rfl, rfl, rfl, rfl, rfl, rfl, rfl, rfl, rfl, rfl, rfl, rfl, rfl, rfl, rfl, rfl, rfl, rfl, rfl, rfl, rfl, rfl, rfl, rfl⟩, ⟨hT, s.2.2.2.2, hS, hW, hF, h7, h80, htp, hb, s.2.2.2.1, hst, hfr, hm, hcm, hz⟩⟩
