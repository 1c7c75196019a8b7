/-! Prices of both; what the contracts ask of the bits. -/
theorem qPrice {lo gz bz oz tk lz nx : Nat} {T : Nat → Nat → Int32} {z : Nat → Int32} (h : RelN lo gz bz oz tk lz nx T z) {b : Nat} (hb : b < bz) : xpr T b = zprice z b := by
  have hbz := h.1.1.2.1
  have hgz := h.1.1.1
  obtain ⟨⟨b1, -⟩, -, b11, -⟩ := h.2.2.1 b (by omega)
  obtain ⟨⟨g, hg1, hg2⟩, -⟩ := b11 hb
  have hs : zstg z b < 4 := xreach_lt _ _ _ _ _
  unfold xpr zprice
  rw [rStgEq h hb, ← b1, hg2, nI_clamp (by omega), (h.2.1 g (by omega)).1]
  show xprice _ (xf1 (T 31 (zstg z b))) = _
  rw [(h.2.2.2.2.2.1 _ hs).2.1]
theorem qBits {lo gz bz oz tk lz nx : Nat} {T : Nat → Nat → Int32} {z : Nat → Int32} (h : RelN lo gz bz oz tk lz nx T z) : ∀ j, j < 4 → (z (958 + j)).toNatClampNeg ≤ 1120403456 ∧ z (958 + j) = nI (z (958 + j)).toNatClampNeg := fun j hj => by
  obtain ⟨-, e, ⟨m, h1, h2⟩, -⟩ := h.2.2.2.2.2.1 j hj
  rw [← e, h2, nI_clamp (by omega)]
  exact ⟨h1, rfl⟩
theorem qMd {lo gz bz oz tk lz nx : Nat} {T : Nat → Nat → Int32} {z : Nat → Int32} (h : RelN lo gz bz oz tk lz nx T z) : ∀ j, j < 4 → xmd (xfl (T 31) j) := fun j hj => by
  obtain ⟨-, -, ⟨m, h1, h2⟩, -⟩ := h.2.2.2.2.2.1 j hj
  show xmd (xf1 (T 31 j))
  rw [h2]
  exact xmd_bits h1
theorem qRb {lo gz bz oz tk lz nx : Nat} {T : Nat → Nat → Int32} {z : Nat → Int32} (h : RelN lo gz bz oz tk lz nx T z) : xrb (xf1 (T 39 0)) := by
  obtain ⟨m, h1, h2⟩ := h.1.2.2.2.1
  rw [h2]
  exact xrb_bits (by omega)
theorem qIdx {lo gz bz oz tk lz nx : Nat} {T : Nat → Nat → Int32} {z : Nat → Int32} (h : RelN lo gz bz oz tk lz nx T z) : xidx (T 6) 12 bz ∧ zidx z bz := by
  have hbz := h.1.1.2.1
  have hgz := h.1.1.1
  have key : ∀ b, b < bz → (T 6 b).toNatClampNeg < 12 ∧ T 6 b = nI (T 6 b).toNatClampNeg := fun b hb => by
    obtain ⟨-, -, b11, -⟩ := h.2.2.1 b (by omega)
    obtain ⟨⟨g, hg1, hg2⟩, -⟩ := b11 hb
    rw [hg2, nI_clamp (by omega)]
    exact ⟨by omega, rfl⟩
  refine ⟨key, fun b hb => ?_⟩
  rw [← (h.2.2.1 b (by omega)).1.1]
  exact key b hb
theorem qNn {lo gz bz oz tk lz nx : Nat} {T : Nat → Nat → Int32} {z : Nat → Int32} (h : RelN lo gz bz oz tk lz nx T z) {kg : Nat} {pric : Nat → UInt32} : xnn (T 6) (xfu (xpr T) pric bz) (T 1) kg bz := fun b hb t => by
  have hs : xstg (T 30) (T 8) (T 2) (T 6) b < 4 := xstg_lt _ _ _ _ _
  obtain ⟨-, -, ⟨m, h1, h2⟩, -⟩ := h.2.2.2.2.2.1 _ hs
  refine xfmul_n (xcharge_mag ?_)
  show (if b < bz then xpr T b else pric b).toNat % 2 ^ 31 < _
  rw [if_pos hb]
  unfold xpr
  show (xprice _ (xf1 (T 31 _))).toNat % 2 ^ 31 < _
  rw [h2]
  exact xprice_mag h1 _
