def zprice (z : Nat → Int32) (b : Nat) : UInt32 := xprice (zG z (zB z b 0).toNatClampNeg 0) (xf1 (z (958 + zstg z b)))
theorem zprice_mag {z : Nat → Int32} (hmk : ∀ j, j < 4 → (z (958 + j)).toNatClampNeg ≤ 1120403456 ∧ z (958 + j) = nI (z (958 + j)).toNatClampNeg) (b : Nat) : (zprice z b).toNat % 2 ^ 31 < 170 * 2 ^ 23 := by
  have h := hmk (zstg z b) (xreach_lt _ _ _ _ _)
  unfold zprice
  rw [h.2]
  exact xprice_mag h.1 _
abbrev zsooner (z : Nat → Int32) (b f : Nat) : Prop := if z 4 = nI 2 then Op.cmpValue (FP.fcmp (zprice z b) (zprice z f)) .g < 0 else if z 4 = 0 then zB z b 2 - zB z f 2 < 0 else 0 < zB z b 2 - zB z f 2
abbrev zopen (z us : Nat → Int32) (le w : Int32) (b : Nat) : Prop := us b = 0 ∧ zB z b 0 = w ∧ ¬ zB z b 3 ≤ 0 ∧ ¬ zB z b 2 < le
def zon (o : Option Nat) : Int32 := match o with
  | none => -5
  | some b => nI b
def zcents (z : Nat → Int32) (b : Nat) (un : Int32) (gk : Nat) : Int32 := FP.f2i (FP.fmul (FP.i2f un) (xcharge (zG z gk 0) (zG z (zB z b 0).toNatClampNeg 0) (zprice z b)))