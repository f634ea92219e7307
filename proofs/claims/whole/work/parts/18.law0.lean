abbrev cL_law : ByteArray := code
abbrev mL : sM := (x, code, maxLocals, ret)
theorem sNe {x y : Int32} (h : ¬ x = y) : ¬ x.toInt = y.toInt := fun e => h (Int32.toInt_inj.mp e)
