/-! Floats: a number by halving, and what is a number. (These rows use the library's laws of floats.) -/
theorem xn32 (r : UInt32) : vf_n32 r ↔ r.toNat % 2 ^ 31 ≤ 2139095040 := by
  unfold vf_n32
  rw [UInt32.le_iff_toNat_le, UInt32.toNat_and, show (0x7fffffff : UInt32).toNat = 2 ^ 31 - 1 from rfl, Nat.and_two_pow_sub_one_eq_mod]
  exact Iff.rfl
theorem xn32_val {r : UInt32} (h : FP.Core.val32 r ≠ .nan) : vf_n32 r := (xn32 r).mpr ((FP.Core.ne_nan32 r).mp h)
theorem xn32_no {r : UInt32} (h : FP.Core.fIsNaN r = false) : vf_n32 r := xn32_val ((FP.Core.notNaN_iff32 r).mp h)
theorem xn32_mag {r : UInt32} {K : Nat} (h : r.toNat % 2 ^ 31 < K * 2 ^ 23) (hK : K ≤ 255) : vf_n32 r := (xn32 r).mpr (by omega)
/-- m halved k times, by products and by quotients -/
def xhm (m : Nat) : Nat → UInt32
  | 0 => FP.i2f (nI m)
  | k + 1 => FP.fmul (xhm m k) 1056964608
def xhd (m : Nat) : Nat → UInt32
  | 0 => FP.i2f (nI m)
  | k + 1 => FP.fdiv (xhd m k) FP.fconst2
theorem xhalf_fit {m k : Nat} (hm : m < 2 ^ 24) (h0 : 0 < m) (hk : k ≤ 149) : ∃ d : Nat, d ≤ 23 ∧ FP.Core.fits FP.Core.b32 (.fin false (m * 2 ^ d) (-(k : Int) - d)) := by
  have hl : 2 ^ m.log2 ≤ m := Nat.log2_self_le (by omega)
  have hu : m < 2 ^ (m.log2 + 1) := Nat.lt_log2_self
  have hl23 : m.log2 ≤ 23 := by
    have := (Nat.log2_lt (n := m) (k := 24) (by omega)).mpr hm
    omega
  refine ⟨min (149 - k) (23 - m.log2), by omega, ?_⟩
  have e24 : FP.Core.b32.p = 24 := rfl
  have eqn : FP.Core.b32.qmin = -149 := by decide
  have eqx : FP.Core.b32.qmax = 104 := by decide
  have etl : FP.Core.b32.tails = 2 ^ 23 := rfl
  refine ⟨?_, ?_, ?_, ?_⟩
  · rw [e24]
    calc m * 2 ^ min (149 - k) (23 - m.log2) < 2 ^ (m.log2 + 1) * 2 ^ min (149 - k) (23 - m.log2) := Nat.mul_lt_mul_of_pos_right hu (Nat.two_pow_pos _)
      _ = 2 ^ (m.log2 + 1 + min (149 - k) (23 - m.log2)) := (Nat.pow_add _ _ _).symm
      _ ≤ 2 ^ 24 := Nat.pow_le_pow_right (by decide) (by omega)
  · rw [eqn]; omega
  · rw [eqx]; omega
  · rw [eqn, etl]
    by_cases h : 149 - k ≤ 23 - m.log2
    · left; omega
    · right
      rw [show min (149 - k) (23 - m.log2) = 23 - m.log2 by omega]
      calc 2 ^ 23 = 2 ^ m.log2 * 2 ^ (23 - m.log2) := by rw [← Nat.pow_add]; congr 1; omega
        _ ≤ m * 2 ^ (23 - m.log2) := Nat.mul_le_mul_right _ hl
theorem xround {m k : Nat} (hm : m < 2 ^ 24) (h0 : 0 < m) (hk : k ≤ 149) : ∃ d : Nat, d ≤ 23 ∧ FP.Core.roundRatio FP.Core.b32 false m 1 (-(k : Int)) = .fin false (m * 2 ^ d) (-(k : Int) - d) := by
  obtain ⟨d, hd, hf⟩ := xhalf_fit hm h0 hk
  refine ⟨d, hd, FP.Core.roundRatio_exact FP.Core.good_b32 (by decide) hf ?_⟩
  rw [show (-(k : Int) - (-(k : Int) - d)).toNat = d by omega, show (-(k : Int) - d - -(k : Int)).toNat = 0 by omega, Nat.pow_zero, Nat.mul_one, Nat.mul_one]
theorem xround0 (k : Int) : FP.Core.roundRatio FP.Core.b32 false 0 1 k = .fin false 0 FP.Core.b32.qmin := if_pos rfl
theorem xhm_val {m : Nat} (hm : m < 2 ^ 24) : ∀ {k : Nat}, k ≤ 149 → FP.Core.val32 (xhm m k) = FP.Core.roundRatio FP.Core.b32 false m 1 (-(k : Int))
  | 0, _ => by
    show FP.Core.val32 (FP.Core.i2f (nI m)) = _
    rw [FP.Core.val32_i2f, nI_toInt (by omega)]
    show FP.Core.roundRatio FP.Core.b32 (decide ((m : Int) < 0)) (m : Int).natAbs 1 0 = _
    rw [decide_eq_false (by omega), Int.natAbs_natCast]
    rfl
  | k + 1, hk => by
    have ih := xhm_val hm (k := k) (by omega)
    show FP.Core.val32 (FP.Core.fmul (xhm m k) 1056964608) = _
    rw [FP.Core.val32_fmul, ih, show FP.Core.val32 1056964608 = .fin false (2 ^ 23) (-24) by decide +kernel]
    by_cases h0 : m = 0
    · subst h0
      rw [xround0, xround0]
      show FP.Core.roundRatio FP.Core.b32 false (0 * 2 ^ 23) 1 _ = _
      rw [Nat.zero_mul, xround0]
    · obtain ⟨d, hd, e⟩ := xround hm (by omega) (k := k) (by omega)
      rw [e]
      show FP.Core.roundRatio FP.Core.b32 false (m * 2 ^ d * 2 ^ 23) 1 (-(k : Int) - d + -24) = _
      refine FP.Core.roundRatio_congr (by decide) (by decide) ?_
      rw [show (-(k : Int) - d + -24 - -((k + 1 : Nat) : Int)).toNat = 0 by omega, show (-((k + 1 : Nat) : Int) - (-(k : Int) - d + -24)).toNat = d + 23 by omega, Nat.pow_zero, Nat.mul_one, Nat.mul_one, Nat.mul_one, Nat.pow_add, Nat.mul_assoc]
theorem xhd_val {m : Nat} (hm : m < 2 ^ 24) : ∀ {k : Nat}, k ≤ 149 → FP.Core.val32 (xhd m k) = FP.Core.roundRatio FP.Core.b32 false m 1 (-(k : Int))
  | 0, _ => xhm_val hm (k := 0) (by decide)
  | k + 1, hk => by
    have ih := xhd_val hm (k := k) (by omega)
    show FP.Core.val32 (FP.Core.fdiv (xhd m k) FP.fconst2) = _
    rw [FP.Core.val32_fdiv, ih, show FP.Core.val32 FP.fconst2 = .fin false (2 ^ 23) (-22) by decide +kernel]
    by_cases h0 : m = 0
    · subst h0
      rw [xround0, xround0]
      rfl
    · obtain ⟨d, hd, e⟩ := xround hm (by omega) (k := k) (by omega)
      rw [e]
      show FP.Core.roundRatio FP.Core.b32 false (m * 2 ^ d) (2 ^ 23) (-(k : Int) - d - -22) = _
      refine FP.Core.roundRatio_congr (by decide) (by decide) ?_
      rw [show (-(k : Int) - d - -22 - -((k + 1 : Nat) : Int)).toNat = 23 - d by omega, show (-((k + 1 : Nat) : Int) - (-(k : Int) - d - -22)).toNat = 0 by omega, Nat.pow_zero, Nat.mul_one, Nat.mul_one, Nat.mul_assoc, ← Nat.pow_add, show d + (23 - d) = 23 by omega]
theorem xhm_n {m k : Nat} (hm : m < 2 ^ 24) (hk : k ≤ 149) : vf_n32 (xhm m k) := xn32_val (by rw [xhm_val hm hk]; exact FP.Core.roundRatio_ne_nan _ _ _ _ _)
theorem xhd_n {m k : Nat} (hm : m < 2 ^ 24) (hk : k ≤ 149) : vf_n32 (xhd m k) := xn32_val (by rw [xhd_val hm hk]; exact FP.Core.roundRatio_ne_nan _ _ _ _ _)
/-- a number's digits and halvings, by its bits -/
def xman (b : Nat) : Nat := if b / 2 ^ 23 = 0 then b % 2 ^ 23 else b % 2 ^ 23 + 2 ^ 23
def xpow (b : Nat) : Nat := if b / 2 ^ 23 = 0 then 1 else b / 2 ^ 23
theorem xman_lt (b : Nat) : xman b < 2 ^ 24 := by
  unfold xman
  have := Nat.mod_lt b (y := 2 ^ 23) (by decide)
  split <;> omega
theorem xf1_nat {b : Nat} (h : b < 2 ^ 31) : (xf1 (nI b)).toNat = b := by
  show (UInt32.ofNat b).toNat = b
  rw [UInt32.toNat_ofNat_of_lt' (by show b < 2 ^ 32; omega)]
theorem xbits_val {b : Nat} (h : b ≤ 1120403456) : FP.Core.roundRatio FP.Core.b32 false (xman b) 1 (-((150 - xpow b : Nat) : Int)) = FP.Core.val32 (xf1 (nI b)) := by
  have ht : b % 2 ^ 23 < 2 ^ 23 := Nat.mod_lt _ (by decide)
  have he : b / 2 ^ 23 ≤ 133 := by omega
  have eqn : FP.Core.b32.qmin = -149 := by decide
  have eqx : FP.Core.b32.qmax = 104 := by decide
  have etl : FP.Core.b32.tails = 2 ^ 23 := rfl
  have hv : FP.Core.val32 (xf1 (nI b)) = if b / 2 ^ 23 = 0 then .fin false (b % 2 ^ 23) (-149) else .fin false (2 ^ 23 + b % 2 ^ 23) (-149 + ((b / 2 ^ 23 : Nat) - 1 : Int)) := by
    show FP.Core.decode FP.Core.b32 (xf1 (nI b)).toNat = _
    rw [xf1_nat (by omega)]
    have hE : FP.Core.fieldE FP.Core.b32 b = b / 2 ^ 23 := by
      show b / 2 ^ 23 % 2 ^ 8 = _
      exact Nat.mod_eq_of_lt (by omega)
    have hS : FP.Core.fieldS FP.Core.b32 b = false := by
      show (b / 2 ^ 23 / 2 ^ 8 % 2 == 1) = false
      rw [show b / 2 ^ 23 / 2 ^ 8 = 0 by omega]
      rfl
    unfold FP.Core.decode
    rw [hE, hS, if_neg (by show ¬ b / 2 ^ 23 = 2 ^ 8 - 1; omega), eqn]
    rfl
  rw [hv]
  unfold xman xpow
  by_cases h0 : b / 2 ^ 23 = 0
  · rw [if_pos h0, if_pos h0, if_pos h0]
    refine FP.Core.roundRatio_exact FP.Core.good_b32 (by decide) ⟨?_, ?_, ?_, ?_⟩ ?_
    · show b % 2 ^ 23 < 2 ^ 24; omega
    · rw [eqn]; decide
    · rw [eqx]; decide
    · left; rw [eqn]
    · have e1 : (-((150 - 1 : Nat) : Int) - -149).toNat = 0 := by decide
      have e2 : (-149 - -((150 - 1 : Nat) : Int)).toNat = 0 := by decide
      rw [e1, e2, Nat.mul_one, Nat.pow_zero, Nat.mul_one]
  · rw [if_neg h0, if_neg h0, if_neg h0, Nat.add_comm (b % 2 ^ 23)]
    refine FP.Core.roundRatio_exact FP.Core.good_b32 (by decide) ⟨?_, ?_, ?_, ?_⟩ ?_
    · show 2 ^ 23 + b % 2 ^ 23 < 2 ^ 24; omega
    · rw [eqn]; omega
    · rw [eqx]; omega
    · right; rw [etl]; omega
    · rw [show (-((150 - b / 2 ^ 23 : Nat) : Int) - (-149 + ((b / 2 ^ 23 : Nat) - 1 : Int))).toNat = 0 by omega, show (-149 + ((b / 2 ^ 23 : Nat) - 1 : Int) - -((150 - b / 2 ^ 23 : Nat) : Int)).toNat = 0 by omega, Nat.mul_one, Nat.pow_zero, Nat.mul_one]
theorem xpow_pos (b : Nat) : 1 ≤ xpow b := by unfold xpow; split <;> omega
/-- both roads give the number of the bits -/
theorem xhm_bits {b : Nat} (h : b ≤ 1120403456) : xhm (xman b) (150 - xpow b) = xf1 (nI b) := by
  have := xpow_pos b
  have e := (xhm_val (xman_lt b) (k := 150 - xpow b) (by omega)).trans (xbits_val h)
  exact FP.Core.val32_inj (by rw [xhm_val (xman_lt b) (by omega)]; exact FP.Core.roundRatio_ne_nan _ _ _ _ _) e
theorem xhd_bits {b : Nat} (h : b ≤ 1120403456) : xhd (xman b) (150 - xpow b) = xf1 (nI b) := by
  have := xpow_pos b
  have e := (xhd_val (xman_lt b) (k := 150 - xpow b) (by omega)).trans (xbits_val h)
  exact FP.Core.val32_inj (by rw [xhd_val (xman_lt b) (by omega)]; exact FP.Core.roundRatio_ne_nan _ _ _ _ _) e
theorem xf1_mag {b : Nat} (h : b ≤ 1120403456) : (xf1 (nI b)).toNat % 2 ^ 31 < 134 * 2 ^ 23 := by
  rw [xf1_nat (by omega)]
  omega
theorem xf1_ne {b : Nat} (h : b ≤ 1120403456) : FP.Core.val32 (xf1 (nI b)) ≠ .nan := (FP.Core.ne_nan32 _).mpr (by have := xf1_mag h; omega)
/-- two numbers are equal if their bits are -/
theorem xfcmp_eq {a b : Nat} (ha : a ≤ 1120403456) (hb : b ≤ 1120403456) : Op.cmpValue (FP.fcmp (xf1 (nI a)) (xf1 (nI b))) .l = 0 ↔ a = b := by
  have e : FP.fcmp (xf1 (nI a)) (xf1 (nI b)) = some (compare (a : Int) (b : Int)) := by
    show FP.Core.fcmp _ _ = _
    rw [FP.Core.fcmp_key (xf1_ne ha) (xf1_ne hb)]
    unfold FP.Core.fkey
    rw [xf1_nat (by omega), xf1_nat (by omega), if_neg (by omega), if_neg (by omega)]
  rw [e]
  rcases Nat.lt_trichotomy a b with h | h | h
  · rw [show compare (a : Int) (b : Int) = .lt from (FP.Core.compare_lt_iff _ _).mpr (by omega)]
    exact ⟨fun q => absurd q (by decide), fun q => by omega⟩
  · subst h
    rw [show compare (a : Int) (a : Int) = .eq from (FP.Core.compare_eq_iff _ _).mpr rfl]
    exact ⟨fun _ => rfl, fun _ => rfl⟩
  · rw [show compare (a : Int) (b : Int) = .gt from (FP.Core.compare_gt_iff _ _).mpr (by omega)]
    exact ⟨fun q => absurd q (by decide), fun q => by omega⟩
theorem xrest_mag {b : Nat} (h : b ≤ 1120403456) : (FP.fsub FP.fconst1 (FP.fdiv (xf1 (nI b)) 1120403456)).toNat % 2 ^ 31 < 136 * 2 ^ 23 := by
  have h1 := FP.Core.fdiv_mag (a := xf1 (nI b)) (b := 1120403456) (K := 134) (L := 133) (xf1_mag h) (by decide) (by decide) (by decide) (by decide)
  have h2 : (FP.Core.fdiv (xf1 (nI b)) 1120403456).toNat % 2 ^ 31 < 134 * 2 ^ 23 := by omega
  have h3 : (FP.fconst1).toNat % 2 ^ 31 < 134 * 2 ^ 23 := by decide
  exact FP.Core.fsub_mag (K := 134) h3 h2 (by decide)
theorem xdiv_mag {b : Nat} (h : b ≤ 1120403456) : (FP.fdiv (xf1 (nI b)) 1120403456).toNat % 2 ^ 31 < 134 * 2 ^ 23 := by
  have h1 := FP.Core.fdiv_mag (a := xf1 (nI b)) (b := 1120403456) (K := 134) (L := 133) (xf1_mag h) (by decide) (by decide) (by decide) (by decide)
  show (FP.Core.fdiv (xf1 (nI b)) 1120403456).toNat % 2 ^ 31 < _
  omega
theorem xprice_mag {b : Nat} (h : b ≤ 1120403456) (p : Int32) : (xprice p (xf1 (nI b))).toNat % 2 ^ 31 < 170 * 2 ^ 23 := by
  have h1 := FP.Core.fmul_mag (Ka := 160) (Kb := 136) (FP.Core.i2f_mag p) (xrest_mag h) (by decide) (by decide)
  exact h1
theorem xmd_bits {b : Nat} (h : b ≤ 1120403456) : xmd (xf1 (nI b)) :=
  ⟨xn32_mag (xdiv_mag h) (by decide), xn32_mag (xrest_mag h) (by decide), fun p => xn32_mag (xprice_mag h p) (by decide)⟩
theorem xfmul_n {t : Int32} {r : UInt32} (h : r.toNat % 2 ^ 31 < 170 * 2 ^ 23) : vf_n32 (FP.fmul (FP.i2f t) r) := by
  have h1 := FP.Core.fmul_mag (Ka := 160) (Kb := 170) (FP.Core.i2f_mag t) h (by decide) (by decide)
  exact xn32_mag h1 (by decide)
theorem xcharge_mag {a c : Int32} {r : UInt32} (h : r.toNat % 2 ^ 31 < 170 * 2 ^ 23) : (xcharge a c r).toNat % 2 ^ 31 < 170 * 2 ^ 23 := by
  unfold xcharge
  split
  · have := FP.Core.i2f_mag a
    show (FP.Core.i2f a).toNat % 2 ^ 31 < _
    omega
  · exact h
theorem xrb_bits {b : Nat} (h : b ≤ 1120403456) : xrb (xf1 (nI b)) := fun s => by
  have h1 := FP.Core.fmul_mag (Ka := 160) (Kb := 134) (FP.Core.i2f_mag s) (xf1_mag h) (by decide) (by decide)
  have h2 := FP.Core.fdiv_mag (a := FP.Core.fmul (FP.Core.i2f s) (xf1 (nI b))) (b := 1120403456) (K := 168) (L := 133) h1 (by decide) (by decide) (by decide) (by decide)
  exact ⟨xn32_mag h1 (by decide), xn32_mag h2 (by decide)⟩
