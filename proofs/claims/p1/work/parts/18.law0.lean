abbrev cL_law : ByteArray := code
abbrev mL : sM := (x, code, maxLocals, ret)
theorem sv_lvG {g : sG} {M : sM} {R : Room} {Z : sZT} {pc : Nat} {lv lv' : List (Nat × Value)} {st : List Value} {hp : sHp} {ce sl : Nat} (h : ∀ q ∈ lv', sGet q.1 lv = some q.2) (k : sV g M R Z pc lv' st hp ce sl) : sV g M R Z pc lv st hp ce sl := sv_lv (fun q hq => sGet_mem (h q hq)) k
theorem sNe {x y : Int32} (h : ¬ x = y) : ¬ x.toInt = y.toInt := fun e => h (Int32.toInt_inj.mp e)
