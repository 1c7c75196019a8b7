/-! Sums of rows. -/
theorem zs_congr {f g : Nat → Int32} : ∀ n : Nat, (∀ b, b < n → f b = g b) → xsum f n = xsum g n
  | 0, _ => rfl
  | n + 1, h => by
    show xsum f n + f n = xsum g n + g n
    rw [zs_congr n fun b hb => h b (by omega), h n (by omega)]
theorem zs_add (f g : Nat → Int32) : ∀ n : Nat, xsum (fun b => f b + g b) n = xsum f n + xsum g n
  | 0 => rfl
  | n + 1 => by
    show xsum (fun b => f b + g b) n + (f n + g n) = xsum f n + f n + (xsum g n + g n)
    rw [zs_add f g n]
    ac_rfl
theorem zs_upd_out (f : Nat → Int32) (b : Nat) (v : Int32) : ∀ n : Nat, n ≤ b → xsum (upd f b v) n = xsum f n
  | 0, _ => rfl
  | n + 1, h => by
    show xsum (upd f b v) n + upd f b v n = xsum f n + f n
    rw [zs_upd_out f b v n (by omega), upd_ne _ _ (by omega)]
theorem zs_upd (f : Nat → Int32) (b : Nat) (v : Int32) : ∀ n : Nat, b < n → xsum (upd f b (f b + v)) n = xsum f n + v
  | 0, h => absurd h (Nat.not_lt_zero b)
  | n + 1, h => by
    show xsum (upd f b (f b + v)) n + upd f b (f b + v) n = xsum f n + f n + v
    by_cases e : n = b
    · subst e
      rw [zs_upd_out _ _ _ n (Nat.le_refl _), upd_at, Int32.add_assoc]
    · rw [zs_upd f b v n (by omega), upd_ne _ _ e]
      ac_rfl
theorem zs_nat {f : Nat → Int32} {c : Nat} : ∀ n : Nat, (∀ b, b < n → ∃ u : Nat, u ≤ c ∧ f b = nI u) → ∃ U : Nat, U ≤ n * c ∧ xsum f n = nI U
  | 0, _ => ⟨0, by omega, rfl⟩
  | n + 1, h => by
    obtain ⟨U, h1, h2⟩ := zs_nat n fun b hb => h b (by omega)
    obtain ⟨u, h3, h4⟩ := h n (by omega)
    refine ⟨U + u, by rw [Nat.succ_mul]; omega, ?_⟩
    show xsum f n + f n = _
    rw [h2, h4, nI_add]
theorem zs_zero {f : Nat → Int32} : ∀ n : Nat, (∀ b, b < n → f b = nI 0) → xsum f n = nI 0
  | 0, _ => rfl
  | n + 1, h => by
    show xsum f n + f n = _
    rw [zs_zero n fun b hb => h b (by omega), h n (by omega)]
    rfl
/-- one of the summands has more -/
theorem zs_pick {A B : Nat → Int32} {v : Int32} {g0 : Nat} (h : ∀ g, B g = if g = g0 then A g + v else A g) : ∀ n : Nat, xsum B n = xsum A n + (if g0 < n then v else nI 0)
  | 0 => rfl
  | n + 1 => by
    show xsum B n + B n = xsum A n + A n + _
    rw [zs_pick h n, h n]
    by_cases e : n = g0
    · subst e
      rw [if_pos rfl, if_neg (Nat.lt_irrefl _), if_pos (Nat.lt_succ_self _), show (nI 0 : Int32) = 0 from rfl, Int32.add_zero, Int32.add_assoc]
    · rw [if_neg e]
      by_cases h2 : g0 < n
      · rw [if_pos h2, if_pos (by omega)]
        ac_rfl
      · rw [if_neg h2, if_neg (by omega), show (nI 0 : Int32) = 0 from rfl, Int32.add_zero, Int32.add_zero]
/-- what the goods have, over all goods -/
theorem zs_goods {good f : Nat → Int32} {n : Nat} (hn : n ≤ 12) : ∀ k : Nat, (∀ b, b < k → ∃ g, g < n ∧ good b = nI g) → xsum (fun g => xsumIf good (nI g) f k) n = xsum f k
  | 0, _ => zs_zero n fun _ _ => rfl
  | k + 1, h => by
    obtain ⟨g0, h1, h2⟩ := h k (by omega)
    have e : ∀ g, g < n → xsumIf good (nI g) f (k + 1) = (fun g => if g = g0 then xsumIf good (nI g) f k + f k else xsumIf good (nI g) f k) g := fun g hg => by
      show (if good k = nI g then _ else _) = (if g = g0 then _ else _)
      rw [h2]
      by_cases e : g = g0
      · subst e; rw [if_pos rfl, if_pos rfl]
      · rw [if_neg fun q => e (nI_inj (by omega) (by omega) q).symm, if_neg e]
    rw [zs_congr n e, zs_pick (A := fun g => xsumIf good (nI g) f k) (v := f k) (g0 := g0) (fun g => rfl) n, if_pos h1, zs_goods hn k fun b hb => h b (by omega)]
    rfl
/-- what the stages have, over all stages -/
theorem zs_stages {f : Nat → Int32} {stg : Nat → Nat} (hs : ∀ b, stg b < 4) : ∀ k : Nat, (∀ b, b < k → ∃ u : Nat, u ≤ 90 ∧ f b = nI u) → xsum (fun s => xsumP (fun b => decide (¬ f b ≤ 0 ∧ stg b = s)) f k) 4 = xsum f k
  | 0, _ => rfl
  | k + 1, h => by
    obtain ⟨u, h1, h2⟩ := h k (by omega)
    have ih := zs_stages hs k fun b hb => h b (by omega)
    by_cases e0 : u = 0
    · subst e0
      have e : ∀ s, s < 4 → xsumP (fun b => decide (¬ f b ≤ 0 ∧ stg b = s)) f (k + 1) = xsumP (fun b => decide (¬ f b ≤ 0 ∧ stg b = s)) f k := fun s _ => if_neg (by
        simp only [decide_eq_true_eq]
        rintro ⟨a, -⟩
        exact a (by rw [h2]; decide))
      rw [zs_congr 4 e, ih]
      show _ = xsum f k + f k
      rw [h2, show (nI 0 : Int32) = 0 from rfl, Int32.add_zero]
    · have hu : ¬ f k ≤ 0 := by rw [h2]; exact nI_nle (by omega) (by omega)
      have e : ∀ s, s < 4 → xsumP (fun b => decide (¬ f b ≤ 0 ∧ stg b = s)) f (k + 1) = (fun s => if s = stg k then xsumP (fun b => decide (¬ f b ≤ 0 ∧ stg b = s)) f k + f k else xsumP (fun b => decide (¬ f b ≤ 0 ∧ stg b = s)) f k) s := fun s _ => by
        show (if decide (¬ f k ≤ 0 ∧ stg k = s) = true then _ else _) = (if s = stg k then _ else _)
        by_cases e : s = stg k
        · rw [if_pos (by simp only [decide_eq_true_eq]; exact ⟨hu, e.symm⟩), if_pos e]
        · rw [if_neg (by simp only [decide_eq_true_eq]; exact fun q => e q.2.symm), if_neg e]
      rw [zs_congr 4 e, zs_pick (A := fun s => xsumP (fun b => decide (¬ f b ≤ 0 ∧ stg b = s)) f k) (v := f k) (g0 := stg k) (fun s => rfl) 4, if_pos (hs k), ih]
      rfl
/-- a sum over some is none where none has any -/
theorem zs_if0 {good f : Nat → Int32} {w : Int32} : ∀ k : Nat, (∀ b, b < k → good b = w → f b = nI 0) → xsumIf good w f k = nI 0
  | 0, _ => rfl
  | k + 1, h => by
    show (if good k = w then xsumIf good w f k + f k else xsumIf good w f k) = nI 0
    rw [zs_if0 k fun b hb => h b (by omega)]
    split
    · rename_i e
      rw [h k (by omega) e]
      rfl
    · rfl
theorem zs_ifn {good f : Nat → Int32} {w : Int32} {c : Nat} : ∀ n : Nat, (∀ b, b < n → ∃ u : Nat, u ≤ c ∧ f b = nI u) → ∃ U : Nat, U ≤ n * c ∧ xsumIf good w f n = nI U
  | 0, _ => ⟨0, by omega, rfl⟩
  | n + 1, h => by
    obtain ⟨U, h1, h2⟩ := zs_ifn (good := good) (w := w) n fun b hb => h b (by omega)
    obtain ⟨u, h3, h4⟩ := h n (by omega)
    by_cases e : good n = w
    · refine ⟨U + u, by rw [Nat.succ_mul]; omega, ?_⟩
      show (if good n = w then _ else _) = _
      rw [if_pos e, h2, h4, nI_add]
    · refine ⟨U, by rw [Nat.succ_mul]; omega, ?_⟩
      show (if good n = w then _ else _) = _
      rw [if_neg e, h2]
/-- if a sum of small numbers is 0, each is -/
theorem zs_if_all {good f : Nat → Int32} {w : Int32} {c : Nat} (hc : c ≤ 1000) : ∀ n : Nat, n ≤ 40 → (∀ b, b < n → ∃ u : Nat, u ≤ c ∧ f b = nI u) → xsumIf good w f n = nI 0 → ∀ b, b < n → good b = w → f b = nI 0
  | 0, _, _, _ => fun b hb => absurd hb (Nat.not_lt_zero b)
  | n + 1, hn, h, hz => by
    obtain ⟨U, h1, h2⟩ := zs_ifn (good := good) (w := w) n fun b hb => h b (by omega)
    obtain ⟨u, h3, h4⟩ := h n (by omega)
    have hU : U ≤ 40 * 1000 := Nat.le_trans h1 (Nat.mul_le_mul (by omega) hc)
    have hz : (if good n = w then xsumIf good w f n + f n else xsumIf good w f n) = nI 0 := hz
    have key : xsumIf good w f n = nI 0 ∧ (good n = w → f n = nI 0) := by
      split at hz
      · rename_i e
        rw [h2, h4, nI_add] at hz
        have := nI_inj (by omega) (by omega) hz
        have e1 : U = 0 := by omega
        have e2 : u = 0 := by omega
        subst e1 e2
        exact ⟨h2, fun _ => h4⟩
      · rename_i e
        exact ⟨hz, fun q => absurd q e⟩
    intro b hb hg
    by_cases e : b = n
    · subst e; exact key.2 hg
    · exact zs_if_all hc n (by omega) (fun b hb => h b (by omega)) key.1 b (by omega) hg
