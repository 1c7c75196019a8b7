/-! Floats: a number by halving, and what is a number. (These rows use the library's laws of floats.) -/
theorem xn32 (r : UInt32) : vf_n32 r ↔ r.toNat % 2 ^ 31 ≤ 2139095040 := by sorry
theorem xn32_mag {r : UInt32} {K : Nat} (h : r.toNat % 2 ^ 31 < K * 2 ^ 23) (hK : K ≤ 255) : vf_n32 r := by sorry
/-- m halved k times, by products and by quotients -/
def xhm (m : Nat) : Nat → UInt32
  | 0 => FP.i2f (nI m)
  | k + 1 => FP.fmul (xhm m k) 1056964608
def xhd (m : Nat) : Nat → UInt32
  | 0 => FP.i2f (nI m)
  | k + 1 => FP.fdiv (xhd m k) FP.fconst2
theorem xhm_n {m k : Nat} (hm : m < 2 ^ 24) (hk : k ≤ 149) : vf_n32 (xhm m k) := by sorry
theorem xhd_n {m k : Nat} (hm : m < 2 ^ 24) (hk : k ≤ 149) : vf_n32 (xhd m k) := by sorry
/-- a number's digits and halvings, by its bits -/
def xman (b : Nat) : Nat := if b / 2 ^ 23 = 0 then b % 2 ^ 23 else b % 2 ^ 23 + 2 ^ 23
def xpow (b : Nat) : Nat := if b / 2 ^ 23 = 0 then 1 else b / 2 ^ 23
theorem xman_lt (b : Nat) : xman b < 2 ^ 24 := by sorry
theorem xf1_nat {b : Nat} (h : b < 2 ^ 31) : (xf1 (nI b)).toNat = b := by sorry
theorem xpow_pos (b : Nat) : 1 ≤ xpow b := by sorry
/-- both roads give the number of the bits -/
theorem xhm_bits {b : Nat} (h : b ≤ 1120403456) : xhm (xman b) (150 - xpow b) = xf1 (nI b) := by sorry
theorem xhd_bits {b : Nat} (h : b ≤ 1120403456) : xhd (xman b) (150 - xpow b) = xf1 (nI b) := by sorry
theorem xf1_mag {b : Nat} (h : b ≤ 1120403456) : (xf1 (nI b)).toNat % 2 ^ 31 < 134 * 2 ^ 23 := by sorry
/-- two numbers are equal if their bits are -/
theorem xfcmp_eq {a b : Nat} (ha : a ≤ 1120403456) (hb : b ≤ 1120403456) : Op.cmpValue (FP.fcmp (xf1 (nI a)) (xf1 (nI b))) .l = 0 ↔ a = b := by sorry
theorem xrest_mag {b : Nat} (h : b ≤ 1120403456) : (FP.fsub FP.fconst1 (FP.fdiv (xf1 (nI b)) 1120403456)).toNat % 2 ^ 31 < 136 * 2 ^ 23 := by sorry
theorem xdiv_mag {b : Nat} (h : b ≤ 1120403456) : (FP.fdiv (xf1 (nI b)) 1120403456).toNat % 2 ^ 31 < 134 * 2 ^ 23 := by sorry
theorem xprice_mag {b : Nat} (h : b ≤ 1120403456) (p : Int32) : (xprice p (xf1 (nI b))).toNat % 2 ^ 31 < 170 * 2 ^ 23 := by sorry
theorem xmd_bits {b : Nat} (h : b ≤ 1120403456) : xmd (xf1 (nI b)) := by sorry
theorem xfmul_n {t : Int32} {r : UInt32} (h : r.toNat % 2 ^ 31 < 170 * 2 ^ 23) : vf_n32 (FP.fmul (FP.i2f t) r) := by sorry
theorem xcharge_mag {a c : Int32} {r : UInt32} (h : r.toNat % 2 ^ 31 < 170 * 2 ^ 23) : (xcharge a c r).toNat % 2 ^ 31 < 170 * 2 ^ 23 := by sorry
theorem xrb_bits {b : Nat} (h : b ≤ 1120403456) : xrb (xf1 (nI b)) := by sorry
