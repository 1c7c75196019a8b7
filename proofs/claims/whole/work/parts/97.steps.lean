/-! Steps of both: what expires, what is given. -/
theorem zexp_any (z : Nat → Int32) (c : Nat) : ∀ k, zexp z c k = zexp z 0 k
  | 0 => rfl
  | _ + 1 => rfl
theorem rWx {lo gz bz oz tk lz nx F : Nat} {T : Nat → Nat → Int32} {z : Nat → Int32} (h : RelN lo gz bz oz tk lz nx T z) (hF : F = 11 ∨ F = 13 ∨ F = 15) : RelN lo gz bz oz tk lz nx (xwT T F (T 9, T F, lz, nx, T 34, T 35, T 36, T 37)) z :=
  h.congrT (fun k hk => by
      rcases hk with rfl | rfl | rfl | rfl | rfl | rfl | rfl | rfl
      · exact congrFun (xwT_ne _ _ _ (by omega)) 0
      · exact congrFun (xwT_ne _ _ _ (by omega)) 0
      · exact congrFun (xwT_ne _ _ _ (by omega)) 0
      · exact congrFun (xwT_ne _ _ _ (by omega)) 0
      · exact h.1.2.1.2.2.2.2.1.symm
      · exact h.1.2.1.2.2.2.2.2.symm
      · exact congrFun (xwT_ne _ _ _ (by omega)) 0
      · exact congrFun (xwT_ne _ _ _ (by omega)) 0) (fun k hk hn => by
      by_cases ht : k = 9 ∨ k = F ∨ k = 34 ∨ k = 35 ∨ k = 36 ∨ k = 37
      · rcases hF with rfl | rfl | rfl <;> rcases ht with rfl | rfl | rfl | rfl | rfl | rfl <;> rfl
      · exact xwT_ne _ _ _ (by omega))
theorem rExp {gz bz oz tk lz nx : Nat} {T : Nat → Nat → Int32} {z : Nat → Int32} (h : RelN 0 gz bz oz tk lz nx T z) : ∀ k, k ≤ bz →
    (xexp (T 8) (T 40 0) (T 9, T 13, lz, nx, T 34, T 35, T 36, T 37) k).1 = (zexp z 0 k).1 ∧
    RelN 0 gz bz oz tk (xexp (T 8) (T 40 0) (T 9, T 13, lz, nx, T 34, T 35, T 36, T 37) k).2.2.2.1 (xexp (T 8) (T 40 0) (T 9, T 13, lz, nx, T 34, T 35, T 36, T 37) k).2.2.2.2.1 (xwT T 13 (xexp (T 8) (T 40 0) (T 9, T 13, lz, nx, T 34, T 35, T 36, T 37) k).2) (zexp z 0 k).2 ∧
    ∀ b, b < k → (xexp (T 8) (T 40 0) (T 9, T 13, lz, nx, T 34, T 35, T 36, T 37) k).2.1 b ≠ nI 0 → ∃ d : Nat, 1 ≤ d ∧ d ≤ 60 ∧ T 8 b = nI d
  | 0, _ => ⟨rfl, rWx h (by omega), fun b hb => by omega⟩
  | k + 1, hk => by
    obtain ⟨i1, ih, i3⟩ := rExp h k (by omega)
    generalize hq : xexp (T 8) (T 40 0) (T 9, T 13, lz, nx, T 34, T 35, T 36, T 37) k = q at i1 ih i3
    generalize hz : zexp z 0 k = y at i1 ih
    obtain ⟨⟨-, -, b3, b4, -⟩, -, b11, -⟩ := ih.2.2.1 k (by have := ih.1.1.2.1; omega)
    obtain ⟨-, ⟨d, hd1, hd2, -⟩, u, hu1, hu2⟩ := b11 (by omega)
    have e2 : T 8 k = zB y.2 k 2 := b3
    have e3 : q.2.1 k = zB y.2 k 3 := b4
    have hd : T 8 k = nI d := hd2
    have hu : q.2.1 k = nI u := hu2
    have eq1 : xexp (T 8) (T 40 0) (T 9, T 13, lz, nx, T 34, T 35, T 36, T 37) (k + 1) = if ¬ q.2.1 k ≤ 0 ∧ ¬ 0 < T 8 k then (q.1 + q.2.1 k, xww (nI 3) q.2 k (q.2.1 k) (T 40 0)) else q := by rw [← hq]; rfl
    have eq2 : zexp z 0 (k + 1) = if ¬ zB y.2 k 3 ≤ 0 ∧ zB y.2 k 2 = 0 then (y.1 + zB y.2 k 3, zwaste y.2 k (zB y.2 k 3) 0) else y := by rw [← hz]; rfl
    have hdd : (¬ 0 < T 8 k) ↔ T 8 k = 0 := by
      rw [hd]
      constructor
      · intro h0
        by_cases hd0 : d = 0
        · rw [hd0]; rfl
        · exact absurd ((nI_lt_iff (a := 0) (by omega) (by omega)).mpr (by omega)) h0
      · intro h0
        rw [h0]
        decide
    rw [eq1, eq2, ← e2, ← e3]
    by_cases hc : ¬ q.2.1 k ≤ 0 ∧ ¬ 0 < T 8 k
    · rw [if_pos hc, if_pos ⟨hc.1, hdd.mp hc.2⟩, hu]
      refine ⟨by show q.1 + nI u = y.1 + nI u; rw [i1], rww13 (kd := nI 3) ih (by omega) hu (by omega) (Nat.le_refl u), fun b hb hn => ?_⟩
      have hn' : upd q.2.1 k (q.2.1 k - nI u) b ≠ nI 0 := hn
      by_cases hbk : b = k
      · subst hbk
        rw [upd_at, hu, nI_sub (Nat.le_refl u), Nat.sub_self] at hn'
        exact absurd rfl hn'
      · rw [upd_ne _ _ hbk] at hn'
        exact i3 b (by omega) hn'
    · rw [if_neg hc, if_neg (fun q => hc ⟨q.1, hdd.mpr q.2⟩)]
      refine ⟨i1, ih, fun b hb hn => ?_⟩
      by_cases hbk : b = k
      · subst hbk
        refine ⟨d, ?_, hd1, hd⟩
        by_cases hd0 : d = 0
        · exfalso
          refine hc ⟨?_, hdd.mpr (by rw [hd, hd0]; rfl)⟩
          rw [hu, nI_le0 (by omega)]
          intro h0
          rw [hu, h0] at hn
          exact hn rfl
        · omega
      · exact i3 b (by omega) hn
theorem RelN.up {gz bz oz tk lz nx : Nat} {T : Nat → Nat → Int32} {z : Nat → Int32} (h : RelN 0 gz bz oz tk lz nx T z) (hd : ∀ b, b < bz → T 9 b ≠ nI 0 → ∃ d : Nat, 1 ≤ d ∧ d ≤ 60 ∧ T 8 b = nI d) : RelN 1 gz bz oz tk lz nx T z := by
  obtain ⟨hn, hG, hb, hr⟩ := h
  refine ⟨hn, hG, fun b hb1 => ?_, hr⟩
  obtain ⟨h1, h2, h3, h4⟩ := hb b hb1
  refine ⟨h1, h2, fun hq => ?_, h4⟩
  obtain ⟨g1, ⟨d, d1, d2, -⟩, g3⟩ := h3 hq
  refine ⟨g1, ⟨d, d1, d2, fun h0 => ?_⟩, g3⟩
  obtain ⟨e, e1, e2, e3⟩ := hd b hq h0
  have : d = e := nI_inj (by omega) (by omega) (d2.symm.trans e3)
  omega
theorem rStgEq {lo gz bz oz tk lz nx b : Nat} {T : Nat → Nat → Int32} {z : Nat → Int32} (h : RelN lo gz bz oz tk lz nx T z) (hb : b < bz) : xstg (T 30) (T 8) (T 2) (T 6) b = zstg z b := by
  have hbz := h.1.1.2.1
  have hgz := h.1.1.1
  obtain ⟨⟨b1, -, b3, -, -⟩, -, b11, -⟩ := h.2.2.1 b (by omega)
  obtain ⟨⟨g, hg1, hg2⟩, -, -⟩ := b11 hb
  unfold xstg zstg
  rw [(h.2.2.2.2.2.1 1 (by omega)).1, (h.2.2.2.2.2.1 2 (by omega)).1, (h.2.2.2.2.2.1 3 (by omega)).1, ← b1, ← b3, hg2, nI_clamp (by omega), (h.2.1 g (by omega)).2.1]
