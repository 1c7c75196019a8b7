/-! What the floats of prices, cents and rebates are at most. -/
/-- a number that is not below 0, of at most so many least units -/
def zQ (r : UInt32) (X : Nat) : Prop := ∃ (c : Nat) (q : Int), FP.Core.val32 r = .fin false c q ∧ FP.Core.zmag FP.Core.b32 (.fin false c q) ≤ X
theorem zQ_mono {r : UInt32} {X Y : Nat} (h : zQ r X) (hXY : X ≤ Y) : zQ r Y := by
  obtain ⟨c, q, h1, h2⟩ := h
  exact ⟨c, q, h1, Nat.le_trans h2 hXY⟩
theorem zinf : FP.Core.zmag FP.Core.b32 (.inf false) = 2 ^ 277 := by decide +kernel
theorem zQ_of {r : UInt32} {A B N : Nat} {e : Int} {V : FP.Core.Datum} (hv : FP.Core.val32 r = FP.Core.roundRatio FP.Core.b32 false A B e) (hV : FP.Core.zmag FP.Core.b32 V ≤ N * 2 ^ 149) (hN : N < 2 ^ 40)
    (hle : FP.Core.zmag FP.Core.b32 (FP.Core.roundRatio FP.Core.b32 false A B e) ≤ FP.Core.zmag FP.Core.b32 V) : zQ r (N * 2 ^ 149) := by
  rcases FP.Core.roundRatio_cases FP.Core.b32 false A B e with ⟨c, q, h⟩ | h
  · exact ⟨c, q, hv.trans h, by rw [← h]; exact Nat.le_trans hle hV⟩
  · rw [h, zinf] at hle
    have h1 : N * 2 ^ 149 < 2 ^ 40 * 2 ^ 149 := Nat.mul_lt_mul_of_pos_right hN (Nat.two_pow_pos _)
    rw [← Nat.pow_add] at h1
    have h2 : (2 : Nat) ^ (40 + 149) ≤ 2 ^ 277 := Nat.pow_le_pow_right (by decide) (by decide)
    exact absurd (Nat.le_trans hle hV) (Nat.not_le.mpr (Nat.lt_of_lt_of_le h1 h2))
theorem zV {N : Nat} (hN : N ≤ 2 ^ 24) : ∃ V : FP.Core.Datum, FP.Core.fits FP.Core.b32 V ∧ V ≠ .nan ∧ FP.Core.zmag FP.Core.b32 V = N * 2 ^ 149 := by
  obtain ⟨c, q, h1, h2⟩ := FP.Core.natFit FP.Core.good_b32 FP.Core.wide_b32 false (n := N) hN
  refine ⟨.fin false c q, h1, FP.Core.Datum.noConfusion, ?_⟩
  have hq : (-149 : Int) ≤ q := by
    have := h1.2.1
    rw [FP.Core.qmin_b32] at this
    exact this
  show c * 2 ^ (q - FP.Core.b32.qmin).toNat = _
  rw [FP.Core.qmin_b32]
  rw [Nat.mul_one] at h2
  by_cases h0 : 0 ≤ q
  · rw [show (0 - q).toNat = 0 by omega, Nat.pow_zero, Nat.mul_one] at h2
    rw [h2, show (q - -149).toNat = (q - 0).toNat + 149 by omega, Nat.pow_add, Nat.mul_assoc]
  · rw [show (q - 0).toNat = 0 by omega, Nat.pow_zero, Nat.mul_one] at h2
    rw [← h2, Nat.mul_assoc, ← Nat.pow_add, show (0 - q).toNat + (q - -149).toNat = 149 by omega]
theorem zQ_r {r : UInt32} {A B N : Nat} {e e0 : Int} (hv : FP.Core.val32 r = FP.Core.roundRatio FP.Core.b32 false A B e) (hB : 0 < B) (hN : N ≤ 2 ^ 24) (h0 : e0 ≤ -149) (h0e : e0 ≤ e) (h : FP.Core.inUnits A e e0 ≤ N * 2 ^ 149 * 2 ^ (-149 - e0).toNat * B) : zQ r (N * 2 ^ 149) := by
  obtain ⟨V, v1, v2, v3⟩ := zV hN
  refine zQ_of hv (Nat.le_of_eq v3) (by omega) (FP.Core.zmag_roundRatio_le FP.Core.good_b32 hB v1 v2 (e0 := e0) (by rw [FP.Core.qmin_b32]; exact h0) h0e ?_)
  rw [v3, FP.Core.qmin_b32]
  exact h
theorem zQ_int {u : Nat} (hu : u ≤ 2 ^ 24) : zQ (FP.i2f (nI u)) (u * 2 ^ 149) := by
  refine zQ_r (A := u) (B := 1) (e := 0) (e0 := -149) ?_ (by decide) hu (by decide) (by decide) ?_
  · show FP.Core.val32 (FP.Core.i2f (nI u)) = _
    rw [FP.Core.val32_i2f, nI_toInt (by omega)]
    show FP.Core.roundRatio FP.Core.b32 (decide ((u : Int) < 0)) (u : Int).natAbs 1 0 = _
    rw [decide_eq_false (by omega), Int.natAbs_natCast]
  · show u * 2 ^ (0 - (-149 : Int)).toNat ≤ u * 2 ^ 149 * 2 ^ (-149 - (-149 : Int)).toNat * 1
    rw [show (0 - (-149 : Int)).toNat = 149 by decide, show (-149 - (-149 : Int)).toNat = 0 by decide]
    omega
theorem zQ_prod {x y r : UInt32} {X Y : Nat} (hx : zQ x X) (hy : zQ y Y) (hr : FP.Core.val32 r = FP.Core.round FP.Core.b32 (FP.Core.exactProduct (FP.Core.val32 x) (FP.Core.val32 y))) : ∃ (A : Nat) (e : Int), FP.Core.val32 r = FP.Core.roundRatio FP.Core.b32 false A 1 e ∧ -298 ≤ e ∧ FP.Core.inUnits A e (-298) ≤ X * Y := by
  obtain ⟨c, q, x1, x2⟩ := hx
  obtain ⟨d, s, y1, y2⟩ := hy
  have fx := FP.Core.val32_fits x
  have fy := FP.Core.val32_fits y
  rw [x1] at fx
  rw [y1] at fy
  obtain ⟨p1, p2, p3⟩ := FP.Core.product_units fx fy
  rw [FP.Core.qmin_b32] at p2 p3
  refine ⟨c * d, q + s, ?_, p2, ?_⟩
  · rw [hr, x1, y1, p1]
    rfl
  · rw [show (-298 : Int) = 2 * -149 by decide, p3]
    exact Nat.mul_le_mul x2 y2
theorem zQ_mul {x y : UInt32} {X Y N : Nat} (hx : zQ x X) (hy : zQ y Y) (hN : N ≤ 2 ^ 24) (h : X * Y ≤ N * 2 ^ 149 * 2 ^ 149) : zQ (FP.fmul x y) (N * 2 ^ 149) := by
  obtain ⟨A, e, a1, a2, a3⟩ := zQ_prod hx hy (FP.Core.val32_fmul x y)
  refine zQ_r (e0 := -298) a1 (by decide) hN (by decide) a2 ?_
  rw [show (-149 - (-298 : Int)).toNat = 149 by decide, Nat.mul_one]
  exact Nat.le_trans a3 h
theorem zone32 : FP.Core.one32 = 2 ^ 149 := by decide +kernel
theorem zQ_f2i {r : UInt32} {N : Nat} (hN : N < 2 ^ 31) (h : zQ r (N * 2 ^ 149)) : ∃ c : Nat, c ≤ N ∧ FP.f2i r = nI c := by
  obtain ⟨c, q, h1, h2⟩ := h
  have hd : FP.Core.zmag FP.Core.b32 (.fin false c q) / FP.Core.one32 ≤ N := by
    rw [zone32]
    exact Nat.div_le_of_le_mul (by rw [Nat.mul_comm]; exact h2)
  refine ⟨FP.Core.zmag FP.Core.b32 (.fin false c q) / FP.Core.one32, hd, Int32.toInt_inj.mp ?_⟩
  rw [nI_toInt (by omega)]
  have hv := FP.Core.f2i_val (a := r) (by rw [h1]; exact FP.Core.Datum.noConfusion)
  rw [h1] at hv
  refine hv.trans ?_
  show max (-2 ^ 31) (min (2 ^ 31 - 1) ((FP.Core.zmag FP.Core.b32 (.fin false c q) / FP.Core.one32 : Nat) : Int)) = _
  generalize FP.Core.zmag FP.Core.b32 (.fin false c q) / FP.Core.one32 = z at hd ⊢
  omega
/-- the four markdowns -/
theorem zQ_md {s : Nat} (hs : s < 4) : zQ (FP.fsub FP.fconst1 (FP.fdiv (xf1 (xT0 31 s)) 1120403456)) (1 * 2 ^ 149) := by
  rcases (show s = 0 ∨ s = 1 ∨ s = 2 ∨ s = 3 by omega) with rfl | rfl | rfl | rfl
  · exact ⟨8388608, -23, by decide +kernel, by decide +kernel⟩
  · exact ⟨13421773, -24, by decide +kernel, by decide +kernel⟩
  · exact ⟨10066330, -24, by decide +kernel, by decide +kernel⟩
  · exact ⟨10066330, -25, by decide +kernel, by decide +kernel⟩
theorem zQ_price {p s : Nat} (hp : p ≤ 9999) (hs : s < 4) : zQ (xprice (nI p) (xf1 (xT0 31 s))) (9999 * 2 ^ 149) := by
  refine zQ_mul (zQ_int (by omega)) (zQ_md hs) (by decide) ?_
  rw [Nat.one_mul]
  exact Nat.mul_le_mul_right _ (Nat.mul_le_mul_right _ hp)
theorem zQ_charge {a : Nat} {its : Int32} {pr : UInt32} (ha : a ≤ 9999) (h : zQ pr (9999 * 2 ^ 149)) : zQ (xcharge (nI a) its pr) (9999 * 2 ^ 149) := by
  unfold xcharge
  split
  · exact zQ_mono (zQ_int (by omega)) (Nat.mul_le_mul_right _ ha)
  · exact h
theorem zQ_cents {t : Nat} {r : UInt32} (ht : t ≤ 1000) (h : zQ r (9999 * 2 ^ 149)) : ∃ c : Nat, c ≤ 9999 * t ∧ FP.f2i (FP.fmul (FP.i2f (nI t)) r) = nI c := by
  refine zQ_f2i (by omega) (zQ_mul (zQ_int (by omega)) h (by omega) ?_)
  rw [show t * 2 ^ 149 * (9999 * 2 ^ 149) = 9999 * t * 2 ^ 149 * 2 ^ 149 by ac_rfl]
  exact Nat.le_refl _
/-- a rebate of ten percent takes no more than there is -/
theorem zQ_due0 {s : Nat} (hs : s ≤ 2 ^ 24) : ∃ d : Nat, d ≤ s ∧ FP.f2i (FP.fdiv (FP.fmul (FP.i2f (nI s)) 1092616192) 1120403456) = nI d := by
  refine zQ_f2i (by omega) ?_
  have h10 : zQ 1092616192 (10 * 2 ^ 149) := ⟨10485760, -20, by decide +kernel, by decide +kernel⟩
  have h100 : FP.Core.val32 1120403456 = .fin false 13107200 (-17) := by decide +kernel
  -- the product is at most a power of 2
  have hP : zQ (FP.fmul (FP.i2f (nI s)) 1092616192) (100 * s * 2 ^ 149) := by
    by_cases h0 : s = 0
    · subst h0
      refine zQ_mono (zQ_mul (N := 0) (zQ_int (by omega)) h10 (by decide) (by omega)) (by omega)
    · obtain ⟨A, e, a1, a2, a3⟩ := zQ_prod (zQ_int hs) h10 (FP.Core.val32_fmul (FP.i2f (nI s)) 1092616192)
      have l1 : 2 ^ (10 * s).log2 ≤ 10 * s := Nat.log2_self_le (by omega)
      have l2 : 10 * s < 2 ^ ((10 * s).log2 + 1) := Nat.lt_log2_self
      have l3 : (10 * s).log2 < 28 := (Nat.pow_lt_pow_iff_right (by decide : 1 < 2)).mp (Nat.lt_of_le_of_lt l1 (by omega))
      generalize (10 * s).log2 = L at l1 l2 l3
      have hfit : FP.Core.fits FP.Core.b32 (.fin false (2 ^ 23) ((L : Int) + 1 - 23)) := ⟨by decide +kernel, by rw [FP.Core.qmin_b32]; omega, by rw [show FP.Core.b32.qmax = 104 by decide]; omega, .inr (by decide +kernel)⟩
      have hz : FP.Core.zmag FP.Core.b32 (.fin false (2 ^ 23) ((L : Int) + 1 - 23)) = 2 ^ (L + 1) * 2 ^ 149 := by
        show 2 ^ 23 * 2 ^ ((L : Int) + 1 - 23 - FP.Core.b32.qmin).toNat = _
        rw [FP.Core.qmin_b32, ← Nat.pow_add, ← Nat.pow_add, show 23 + ((L : Int) + 1 - 23 - -149).toNat = L + 1 + 149 by omega]
      refine zQ_of a1 (V := .fin false (2 ^ 23) ((L : Int) + 1 - 23)) (Nat.le_trans (Nat.le_of_eq hz) (Nat.mul_le_mul_right _ (by rw [Nat.pow_succ]; omega))) (by omega) (FP.Core.zmag_roundRatio_le FP.Core.good_b32 (by decide) hfit FP.Core.Datum.noConfusion (e0 := -298) (by rw [FP.Core.qmin_b32]; decide) a2 ?_)
      rw [hz, FP.Core.qmin_b32, show (-149 - (-298 : Int)).toNat = 149 by decide, Nat.mul_one]
      refine Nat.le_trans a3 ?_
      rw [show s * 2 ^ 149 * (10 * 2 ^ 149) = 10 * s * 2 ^ 149 * 2 ^ 149 by ac_rfl]
      exact Nat.mul_le_mul_right _ (Nat.mul_le_mul_right _ (Nat.le_of_lt l2))
  obtain ⟨c, q, p1, p2⟩ := hP
  have hq : (-149 : Int) ≤ q := by
    have := FP.Core.val32_fits (FP.fmul (FP.i2f (nI s)) 1092616192)
    rw [p1] at this
    have := this.2.1
    rw [FP.Core.qmin_b32] at this
    exact this
  refine zQ_r (A := c) (B := 13107200) (e := q + 17) (e0 := -149) ?_ (by decide) hs (by decide) (by omega) ?_
  · show FP.Core.val32 (FP.Core.fdiv _ _) = _
    rw [FP.Core.val32_fdiv, p1, h100]
    show (if (13107200 : Nat) = 0 then (if c = 0 then FP.Core.Datum.nan else .inf (false != false)) else FP.Core.roundRatio FP.Core.b32 (false != false) c 13107200 (q - -17)) = _
    rw [if_neg (by decide), show q - -17 = q + 17 by omega]
    rfl
  · have p3 : c * 2 ^ (q - -149).toNat ≤ 100 * s * 2 ^ 149 := by
      have : c * 2 ^ (q - FP.Core.b32.qmin).toNat ≤ 100 * s * 2 ^ 149 := p2
      rw [FP.Core.qmin_b32] at this
      exact this
    show c * 2 ^ (q + 17 - -149).toNat ≤ s * 2 ^ 149 * 2 ^ (-149 - (-149 : Int)).toNat * 13107200
    rw [show (-149 - (-149 : Int)).toNat = 0 by decide, show (q + 17 - -149).toNat = (q - -149).toNat + 17 by omega, Nat.pow_add, ← Nat.mul_assoc]
    generalize c * 2 ^ (q - -149).toNat = X at p3 ⊢
    generalize (2 : Nat) ^ 149 = U at p3 ⊢
    have e2 : s * U * 2 ^ 0 * 13107200 = 100 * s * U * 131072 := by
      rw [show (13107200 : Nat) = 100 * 131072 by decide]
      simp only [Nat.pow_zero, Nat.mul_one]
      ac_rfl
    rw [e2]
    exact Nat.mul_le_mul_right _ p3
/-- without a rebate nothing is taken -/
theorem zQ_due1 {s : Nat} (hs : s ≤ 2 ^ 24) : ∃ d : Nat, d ≤ s ∧ FP.f2i (FP.fdiv (FP.fmul (FP.i2f (nI s)) 0) 1120403456) = nI d := by
  have h0 : zQ 0 (0 * 2 ^ 149) := ⟨0, -149, by decide +kernel, by decide +kernel⟩
  obtain ⟨c, q, p1, p2⟩ := zQ_mul (N := 0) (zQ_int hs) h0 (by decide) (by omega)
  refine zQ_f2i (by omega) ?_
  have hq : (-149 : Int) ≤ q := by
    have := FP.Core.val32_fits (FP.fmul (FP.i2f (nI s)) 0)
    rw [p1] at this
    have := this.2.1
    rw [FP.Core.qmin_b32] at this
    exact this
  have hc : c = 0 := by
    have h9 : c * 2 ^ (q - FP.Core.b32.qmin).toNat ≤ 0 * 2 ^ 149 := p2
    rw [Nat.zero_mul] at h9
    rcases Nat.mul_eq_zero.mp (Nat.le_zero.mp h9) with h | h
    · exact h
    · exact absurd h (Nat.ne_of_gt (Nat.two_pow_pos _))
  subst hc
  refine zQ_r (A := 0) (B := 13107200) (e := q + 17) (e0 := -149) ?_ (by decide) hs (by decide) (by omega) (by unfold FP.Core.inUnits; omega)
  show FP.Core.val32 (FP.Core.fdiv _ _) = _
  rw [FP.Core.val32_fdiv, p1, show FP.Core.val32 1120403456 = .fin false 13107200 (-17) by decide +kernel]
  show (if (13107200 : Nat) = 0 then (if (0 : Nat) = 0 then FP.Core.Datum.nan else .inf (false != false)) else FP.Core.roundRatio FP.Core.b32 (false != false) 0 13107200 (q - -17)) = _
  rw [if_neg (by decide), show q - -17 = q + 17 by omega]
  rfl
theorem zdue {s rb : Nat} (hs : s ≤ 2 ^ 24) (hr : rb = 0 ∨ rb = 1092616192) : ∃ d : Nat, d ≤ s ∧ xdue (nI s) (xf1 (nI rb)) = nI d := by
  have key : ∃ d : Nat, d ≤ s ∧ FP.f2i (FP.fdiv (FP.fmul (FP.i2f (nI s)) (xf1 (nI rb))) 1120403456) = nI d := by
    rcases hr with rfl | rfl
    · exact zQ_due1 hs
    · exact zQ_due0 hs
  obtain ⟨d, h1, h2⟩ := key
  refine ⟨s - d, by omega, ?_⟩
  unfold xdue
  rw [h2, nI_sub h1]
/-- a number is equal to itself -/
theorem zfc_self {r : UInt32} {X : Nat} (h : zQ r X) (b : CmpOp) : Op.cmpValue (FP.fcmp r r) b = 0 := by
  obtain ⟨c, q, h1, -⟩ := h
  have e : FP.fcmp r r = some .eq := by
    show FP.Core.order (FP.Core.val32 r) (FP.Core.val32 r) = _
    exact FP.Core.order_self (by rw [h1]; exact FP.Core.Datum.noConfusion)
  rw [e]
  rfl
