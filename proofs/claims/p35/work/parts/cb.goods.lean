/-! The start, goods and their lists. -/
section GOODS
variable {n bz oz tk lz nx dy : Nat} {T : Nat → Nat → Int32}
theorem Iv.start : Iv 0 0 0 0 0 0 0 xT0 :=
  ⟨⟨⟨by omega, by omega, by omega, by omega, by omega, by omega⟩, Nat.le_refl _, fun k => ⟨rfl, rfl, rfl, rfl, rfl, rfl, rfl⟩⟩, ⟨⟨0, Or.inl rfl, fun _ => rfl⟩, ⟨0, 4, 50, by omega, rfl, rfl, rfl⟩, fun s _ => ⟨rfl, rfl⟩⟩,
    fun g hg => absurd hg (Nat.not_lt_zero g), fun b hb => absurd hb (Nat.not_lt_zero b), fun b _ _ => ⟨rfl, rfl, rfl, rfl, rfl, rfl, rfl⟩, fun o ho => absurd ho (Nat.not_lt_zero o), fun o _ _ => rfl, 0, 0, 0, by omega, rfl, rfl, rfl, rfl⟩
/-- goods that are not there have no list -/
def ivF (n : Nat) (T : Nat → Nat → Int32) : Prop := ∀ g, n ≤ g → g < 12 → T 3 g = nI 0
theorem Iv.addGood (h : Iv n 0 0 tk lz nx dy T) (hn : n < 5) (hF : ivF n T) {p m : Nat} (hp : 1 ≤ p ∧ p ≤ 9999) (hm : 1 ≤ m ∧ m ≤ 20) :
    Iv (n + 1) 0 0 tk lz nx dy (xT (xT (xT T 0 (fun _ => nI (n + 1))) 1 (upd (T 1) n (nI p))) 2 (upd (T 2) n (nI m))) ∧ ivF (n + 1) (xT (xT (xT T 0 (fun _ => nI (n + 1))) 1 (upd (T 1) n (nI p))) 2 (upd (T 2) n (nI m))) := by
  obtain ⟨⟨i1, i2, i3⟩, iC, iG, iB, iZ, iO, iP, iS⟩ := h
  refine ⟨⟨⟨⟨by omega, i1.2⟩, i2, fun k => ⟨rfl, (i3 k).2⟩⟩, iC, fun g hg => ?_, fun b hb => absurd hb (Nat.not_lt_zero b), iZ, fun o ho => absurd ho (Nat.not_lt_zero o), iP, iS⟩, fun g h1 h2 => hF g (by omega) h2⟩
  show (∃ p' : Nat, (1 ≤ p' ∧ p' ≤ 9999) ∧ upd (T 1) n (nI p) g = nI p') ∧ (∃ m' : Nat, (1 ≤ m' ∧ m' ≤ 20) ∧ upd (T 2) n (nI m) g = nI m') ∧ ∃ lm : Nat, lm ≤ 4 ∧ T 3 g = nI lm ∧ ∀ j, j < lm → ∃ e : Nat, e < n + 1 ∧ T 4 (g * 4 + j) = nI e
  by_cases e : g = n
  · subst e
    rw [upd_at, upd_at]
    exact ⟨⟨p, hp, rfl⟩, ⟨m, hm, rfl⟩, 0, by omega, hF g (Nat.le_refl _) (by omega), fun j hj => absurd hj (Nat.not_lt_zero j)⟩
  · rw [upd_ne _ _ e, upd_ne _ _ e]
    obtain ⟨g1, g2, lm, g3, g4, g5⟩ := iG g (by omega)
    refine ⟨g1, g2, lm, g3, g4, fun j hj => ?_⟩
    obtain ⟨e', e1, e2⟩ := g5 j hj
    exact ⟨e', by omega, e2⟩
theorem Iv.addSub (h : Iv n bz oz tk lz nx dy T) {kg ks lm pl : Nat} (hk : kg < n) (hs : ks < n) (hl : T 3 kg = nI lm) (hlm : lm < 4) (hp : pl ≤ lm) :
    Iv n bz oz tk lz nx dy (xT (xT (xT T 0 (fun _ => nI n)) 3 (upd (T 3) kg (nI (lm + 1)))) 4 (xins (T 4) (kg * 4) lm pl (nI ks))) := by
  obtain ⟨⟨i1, i2, i3⟩, iC, iG, iB, iZ, iO, iP, iS⟩ := h
  refine ⟨⟨i1, i2, fun k => ⟨rfl, (i3 k).2⟩⟩, iC, fun g hg => ?_, iB, iZ, iO, iP, iS⟩
  show (∃ p' : Nat, (1 ≤ p' ∧ p' ≤ 9999) ∧ T 1 g = nI p') ∧ (∃ m' : Nat, (1 ≤ m' ∧ m' ≤ 20) ∧ T 2 g = nI m') ∧ ∃ lm' : Nat, lm' ≤ 4 ∧ upd (T 3) kg (nI (lm + 1)) g = nI lm' ∧ ∀ j, j < lm' → ∃ e : Nat, e < n ∧ xins (T 4) (kg * 4) lm pl (nI ks) (g * 4 + j) = nI e
  obtain ⟨g1, g2, lm', g3, g4, g5⟩ := iG g hg
  by_cases e : g = kg
  · subst e
    have el : lm' = lm := nI_inj (by omega) (by omega) (g4.symm.trans hl)
    subst el
    refine ⟨g1, g2, lm' + 1, by omega, upd_at _ _ _, fun j hj => ?_⟩
    unfold xins
    by_cases e1 : j = pl
    · subst e1
      rw [if_pos rfl]
      exact ⟨ks, hs, rfl⟩
    · rw [if_neg (by omega)]
      by_cases e2 : pl < j
      · rw [if_pos (by omega), show g * 4 + j - 1 = g * 4 + (j - 1) by omega]
        exact g5 (j - 1) (by omega)
      · rw [if_neg (by omega)]
        exact g5 j (by omega)
  · refine ⟨g1, g2, lm', g3, (upd_ne _ _ e).trans g4, fun j hj => ?_⟩
    unfold xins
    rw [if_neg (by omega), if_neg (by omega)]
    exact g5 j hj
theorem xins_at (f : Nat → Int32) (b m pl : Nat) (v : Int32) : xins f b m pl v (b + pl) = v := if_pos rfl
end GOODS
