section ZM
variable {G : zG} {M : zM} {rm : _} {ex : Bool} {Q : Option Value → zAH → Prop} {pc : Nat} {lv : List (Option Value)} {st : List Value} {h : zAH} {cu su : _}
/-- the number on top in another writing -/
theorem z_top {x y : Int32} (e : x = y) (K : Z G M rm ex Q pc lv (.int y :: st) h cu su) : Z G M rm ex Q pc lv (.int x :: st) h cu su := by
  subst e
  exact K
theorem z_lv {lv' : List (Option Value)} (hh : lv = lv') (K : Z G M rm ex Q pc lv' st h cu su) : Z G M rm ex Q pc lv st h cu su := by
  subst hh
  exact K
end ZM
