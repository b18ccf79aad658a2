section ZM
variable {G : zG} {M : zM} {rm : _} {ex : Bool} {Q : Option Value → zAH → Prop} {pc : Nat} {lv : List (Option Value)} {st : List Value} {h : zAH} {cu su : _}
/-- the number on top in another writing -/
theorem z_top {x y : Int32} (e : x = y) (K : Z G M rm ex Q pc lv (.int y :: st) h cu su) : Z G M rm ex Q pc lv (.int x :: st) h cu su := by
  subst e
  exact K
theorem z_lv {lv' : List (Option Value)} (hh : lv = lv') (K : Z G M rm ex Q pc lv' st h cu su) : Z G M rm ex Q pc lv st h cu su := by
  subst hh
  exact K
theorem z_lcmp {n : Nat} {x y : Int64} (hd : decode (zcc M) pc = .ok (.lcmp, 1)) (hn : pc + 1 = n) (K : Z G M rm ex Q n lv (.int (lg_cmp x y) :: st) h cu su) : Z G M rm ex Q pc lv (.long y :: .long x :: st) h cu su := by
  subst hn
  intro p e s m args below meth c H locs ls X hz hL hP hS
  exact W.lcmp X.1 X.2.1 hd (K p e s m args below meth c H locs ls X hz hL hP hS)
end ZM
