/-! test -/
def xmd (md : UInt32) : Prop := vf_n32 (FP.fdiv md 1120403456) ∧ vf_n32 (FP.fsub FP.fconst1 (FP.fdiv md 1120403456)) ∧ ∀ p : Int32, vf_n32 (FP.fmul (FP.i2f p) (FP.fsub FP.fconst1 (FP.fdiv md 1120403456)))
def xprice (p : Int32) (md : UInt32) : UInt32 := FP.fmul (FP.i2f p) (FP.fsub FP.fconst1 (FP.fdiv md 1120403456))
def xf1 (x : Int32) : UInt32 := x.toUInt32
def xcharge (most its : Int32) (pr : UInt32) : UInt32 := if most < its ∧ 0 < Op.cmpValue (FP.fcmp pr (FP.i2f most)) .l then FP.i2f most else pr
def xrb (rb : UInt32) : Prop := ∀ x : Int32, vf_n32 (FP.fmul (FP.i2f x) rb) ∧ vf_n32 (FP.fdiv (FP.fmul (FP.i2f x) rb) 1120403456)
