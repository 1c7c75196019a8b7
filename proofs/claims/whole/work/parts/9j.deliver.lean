/-! A delivery of both: what comes. -/
def rcvT (T : Nat → Nat → Int32) (gz : Nat) (Q : XR) : Nat → Nat → Int32 := (xT (xT (xT (xT (xT (xT (xT (xT (xT (xT (xT (xT T 0 (fun _ => nI gz)) 5 (fun _ => nI (Q.1))) 6 (Q.2.1)) 7 (Q.2.2.1)) 8 (Q.2.2.2.1)) 9 (Q.2.2.2.2.1)) 32 (fun _ => nI (Q.2.2.2.2.2.1))) 33 (fun _ => nI (Q.2.2.2.2.2.2.1))) 34 (Q.2.2.2.2.2.2.2.1)) 35 (Q.2.2.2.2.2.2.2.2.1)) 36 (Q.2.2.2.2.2.2.2.2.2.1)) 37 (Q.2.2.2.2.2.2.2.2.2.2))
theorem rcvT_ne {T : Nat → Nat → Int32} {gz : Nat} {Q : XR} {k : Nat} (h : k ≠ 0 ∧ k ≠ 5 ∧ k ≠ 6 ∧ k ≠ 7 ∧ k ≠ 8 ∧ k ≠ 9 ∧ k ≠ 32 ∧ k ≠ 33 ∧ k ≠ 34 ∧ k ≠ 35 ∧ k ≠ 36 ∧ k ≠ 37) : rcvT T gz Q k = T k := by
  unfold rcvT
  rw [xT_ne _ _ (by omega), xT_ne _ _ (by omega), xT_ne _ _ (by omega), xT_ne _ _ (by omega), xT_ne _ _ (by omega), xT_ne _ _ (by omega), xT_ne _ _ (by omega), xT_ne _ _ (by omega), xT_ne _ _ (by omega), xT_ne _ _ (by omega), xT_ne _ _ (by omega), xT_ne _ _ (by omega)]
theorem nI_ne1 {k : Nat} (h : k < 2 ^ 31) : ¬ nI k = (-1) := fun q => by
  have e := congrArg Int32.toInt q
  rw [nI_toInt h] at e
  have e1 : ((-1 : Int32)).toInt = -1 := by decide
  omega
theorem xhas_n {v : Int32} {n : Nat} (h : xhas v n) (hn : n < 2 ^ 31) : ∃ k : Nat, k < n ∧ v = nI k := by
  obtain ⟨h1, h2⟩ := xhas_idx h hn
  exact ⟨_, h1, h2⟩
theorem qSup {lo gz bz oz tk lz nx e : Nat} {T : Nat → Nat → Int32} {z : Nat → Int32} {R : Nat → Nat → Int32} {ent : Nat → Int32} (h : RelN lo gz bz oz tk lz nx T z) (hr : xRowE R ent e) (hh : xhas (R 0 e) gz) : xsup R (T 2) e ↔ zsup ent z e := by
  have hgz := h.1.1.1
  obtain ⟨g, g1, g2⟩ := xhas_n hh (by omega)
  obtain ⟨r0, r1, r2⟩ := hr
  obtain ⟨-, e2, b3, -⟩ := h.2.1 g (by omega)
  obtain ⟨m, m1, m2⟩ := b3 g1
  unfold xsup zsup zgl xleft
  rw [← r0, ← r1, g2, nI_clamp (by omega), ← e2, m2]
  rcases r2 with ⟨q1, q2⟩ | ⟨v, v1, q1, q2⟩
  · rw [q1, q2, if_pos rfl]
    exact ⟨fun q => ⟨Or.inl rfl, q.1⟩, fun q => ⟨q.2, nI_le (by omega) (by omega), Int32.le_refl _⟩⟩
  · rw [q1, q2, if_neg (nI_ne1 (by omega))]
    refine ⟨fun q => ⟨Or.inr q.2, q.1⟩, fun q => ⟨q.2, ?_⟩⟩
    rcases q.1 with q | q
    · exact absurd q (nI_ne5 (by omega))
    · exact q
theorem rDeliver {gz bz oz tk lz nx n : Nat} {T : Nat → Nat → Int32} {z : Nat → Int32} {R : Nat → Nat → Int32} {ent : Nat → Int32} (h : RelN 1 gz bz oz tk lz nx T z) (hrow : ∀ e, e < n → xRowE R ent e) (hall : ∀ e, e < n → xhas (R 0 e) gz) (hsup : ∀ e, e < n → xsup R (T 2) e) (hf : bz + n ≤ 40) : ∀ (k : Nat) (Q : XR), Q = xrcv R (T 2) (T 40 0) (bz, T 6, T 7, T 8, T 9, lz, nx, T 34, T 35, T 36, T 37) k → k ≤ n →
    Q.1 = bz + k ∧ RelN 1 gz Q.1 oz tk Q.2.2.2.2.2.1 Q.2.2.2.2.2.2.1 (rcvT T gz Q) (zdel ent z bz k)
  | 0, Q, hQ, _ => by
    subst hQ
    refine ⟨rfl, h.congrT (fun k hk => ?_) (fun k _ hk => ?_)⟩
    · rcases hk with rfl | rfl | rfl | rfl | rfl | rfl | rfl | rfl
      · exact h.1.2.1.1.symm
      · exact h.1.2.1.2.1.symm
      · rfl
      · rfl
      · exact h.1.2.1.2.2.2.2.1.symm
      · exact h.1.2.1.2.2.2.2.2.symm
      · rfl
      · rfl
    · by_cases q : k = 6 ∨ k = 7 ∨ k = 8 ∨ k = 9 ∨ k = 34 ∨ k = 35 ∨ k = 36 ∨ k = 37
      · rcases q with rfl | rfl | rfl | rfl | rfl | rfl | rfl | rfl <;> rfl
      · exact rcvT_ne (by omega)
  | k + 1, Q, hQ, hk => by
    obtain ⟨P, hP⟩ : ∃ P, P = xrcv R (T 2) (T 40 0) (bz, T 6, T 7, T 8, T 9, lz, nx, T 34, T 35, T 36, T 37) k := ⟨_, rfl⟩
    obtain ⟨i1, i2⟩ := rDeliver h hrow hall hsup hf k P hP (by omega)
    have hgz := h.1.1.1
    obtain ⟨g, g1, g2⟩ := xhas_n (hall k (by omega)) (by omega)
    obtain ⟨r0, r1, r2⟩ := hrow k (by omega)
    have hs := hsup k (by omega)
    have hQ1 : Q = xrcv1 (T 40 0) P (nI g) (R 1 k) (xleft (R 2) (T 2) k g) := by
      rw [hQ]
      show xrcv1 (T 40 0) (xrcv R (T 2) (T 40 0) (bz, T 6, T 7, T 8, T 9, lz, nx, T 34, T 35, T 36, T 37) k) (nI (R 0 k).toNatClampNeg) (R 1 k) (xleft (R 2) (T 2) k (R 0 k).toNatClampNeg) = _
      rw [← hP, g2, nI_clamp (by omega)]
    unfold xsup at hs
    rw [g2, nI_clamp (by omega)] at hs
    have hz : zdel ent z bz (k + 1) = zputb (zdel ent z bz k) (nI g) (R 1 k) (xleft (R 2) (T 2) k g) P.1 := by
      show zputb (zdel ent z bz k) (nI (ent (3 * k)).toNatClampNeg) (ent (3 * k + 1)) (if ent (3 * k + 2) = -5 then zG (zdel ent z bz k) (ent (3 * k)).toNatClampNeg 1 else ent (3 * k + 2)) (bz + k) = _
      rw [← r0, ← r1, g2, nI_clamp (by omega), i1]
      congr 1
      unfold xleft
      rcases r2 with ⟨q1, q2⟩ | ⟨v, v1, q1, q2⟩
      · rw [q1, q2, if_pos rfl, if_pos rfl]
        exact (i2.2.1 g (by omega)).2.1.symm
      · rw [q1, q2, if_neg (nI_ne5 (by omega)), if_neg (nI_ne1 (by omega))]
    have key := rBring (kg := g) (un := R 1 k) (dl := xleft (R 2) (T 2) k g) i2 (Nat.le_refl _) g1 (by omega) hs.1 hs.2
    rw [hz]
    subst hQ1
    refine ⟨by show P.1 + 1 = bz + (k + 1); omega, key.congrT (fun k hk => ?_) (fun k _ hk => ?_)⟩
    · rcases hk with rfl | rfl | rfl | rfl | rfl | rfl | rfl | rfl <;> rfl
    · by_cases q : k = 6 ∨ k = 7 ∨ k = 8 ∨ k = 9 ∨ k = 34 ∨ k = 35 ∨ k = 36 ∨ k = 37
      · rcases q with rfl | rfl | rfl | rfl | rfl | rfl | rfl | rfl <;> rfl
      · rw [rcvT_ne (by omega), xT_ne _ _ (by omega), xT_ne _ _ (by omega), xT_ne _ _ (by omega), xT_ne _ _ (by omega), xT_ne _ _ (by omega), xT_ne _ _ (by omega), xT_ne _ _ (by omega), xT_ne _ _ (by omega), xT_ne _ _ (by omega), xT_ne _ _ (by omega), xT_ne _ _ (by omega), xT_ne _ _ (by omega), rcvT_ne (by omega)]
