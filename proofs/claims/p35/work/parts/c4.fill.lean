/-! What an order gets. -/
theorem zx_nb_none {P : Nat → Bool} {bf : Nat → Nat → Bool} : ∀ n : Nat, xnb P bf n = none → ∀ b, b < n → P b = false
  | 0, _ => fun b hb => absurd hb (Nat.not_lt_zero b)
  | n + 1, h => by
    have h : (if P n = true then xpick bf n (xnb P bf n) else xnb P bf n) = none := h
    cases hp : P n with
    | true =>
      rw [if_pos hp] at h
      cases hx : xnb P bf n with
      | none => rw [hx] at h; cases h
      | some f =>
        rw [hx] at h
        have h : (if bf n f = true then some n else some f) = none := h
        split at h <;> cases h
    | false =>
      rw [if_neg (by rw [hp]; decide)] at h
      intro b hb
      by_cases e : b = n
      · subst e; exact hp
      · exact zx_nb_none n h b (by omega)
theorem zx_nb_all {P : Nat → Bool} {bf : Nat → Nat → Bool} : ∀ n : Nat, (∀ b, b < n → P b = false) → xnb P bf n = none
  | 0, _ => rfl
  | n + 1, h => by
    show (if P n = true then xpick bf n (xnb P bf n) else xnb P bf n) = none
    rw [if_neg (by rw [h n (by omega)]; decide)]
    exact zx_nb_all n fun b hb => h b (by omega)
theorem zx_nb_congr {P P' : Nat → Bool} {bf bf' : Nat → Nat → Bool} : ∀ n : Nat, (∀ b, b < n → P b = P' b) → (∀ b f, b < n → f < n → bf b f = bf' b f) → xnb P bf n = xnb P' bf' n
  | 0, _, _ => rfl
  | n + 1, h1, h2 => by
    have ih := zx_nb_congr n (fun b hb => h1 b (by omega)) (fun b f hb hf => h2 b f (by omega) (by omega))
    show (if P n = true then xpick bf n (xnb P bf n) else xnb P bf n) = (if P' n = true then xpick bf' n (xnb P' bf' n) else xnb P' bf' n)
    rw [← h1 n (by omega), ← ih]
    split
    · cases hx : xnb P bf n with
      | none => rfl
      | some f =>
        show (if bf n f = true then some n else some f) = (if bf' n f = true then some n else some f)
        rw [h2 n f (by omega) (by have := xnb_lt hx; omega)]
    · rfl
section FILL
variable {good left : Nat → Int32} {pric pric' : Nat → UInt32} {price : Nat → Int32} {rule le wa : Int32} {og n : Nat}
/-- what holds at each filling that takes reach -/
theorem zk_ind {w : Int32} {Q : XF → Prop} (hs : ∀ F b, Q F → F.2.1 < wa → b < n → xopen good left F.2.2.2.2.2 le w b → Q (xft good pric price wa og F b)) : ∀ (fuel : Nat) (F : XF), Q F → Q (xtk good left pric price rule le wa og n w fuel F)
  | 0, _, h => h
  | fuel + 1, F, h => by
    show Q (if F.2.1 < wa then xtks good pric price wa og F (xnbF good left pric rule le n w F) (xtk good left pric price rule le wa og n w fuel) else F)
    split
    · rename_i hg
      cases hb : xnbF good left pric rule le n w F with
      | none => exact h
      | some b => exact zk_ind hs fuel _ (hs F b h hg (xnb_lt hb) (of_decide_eq_true (xnb_p hb)))
    · exact h
theorem zu_ind {list : Nat → Int32} {base : Nat} {Q : XF → Prop} (hs : ∀ w F b, Q F → F.2.1 < wa → b < n → xopen good left F.2.2.2.2.2 le w b → Q (xft good pric price wa og F b)) {F : XF} (h : Q F) : ∀ k : Nat, Q (xsubs good left pric price rule le wa og n list base F k)
  | 0 => h
  | k + 1 => zk_ind (hs _) 40 _ (zu_ind hs h k)
/-- two fillings that differ in what nobody looks at -/
def zR (F F' : XF) : Prop := F.1 = F'.1 ∧ F.2.1 = F'.2.1 ∧ F.2.2.2.2.2 = F'.2.2.2.2.2 ∧ ∀ j, j < F.1 → F.2.2.1 j = F'.2.2.1 j ∧ F.2.2.2.1 j = F'.2.2.2.1 j ∧ F.2.2.2.2.1 j = F'.2.2.2.2.1 j
theorem zR.step {F F' : XF} {b : Nat} (h : zR F F') (hp : pric b = pric' b) : zR (xft good pric price wa og F b) (xft good pric' price wa og F' b) := by
  obtain ⟨h1, h2, h3, h4⟩ := h
  have hk : xtkn wa F b = xtkn wa F' b := by unfold xtkn; rw [h2, h3]
  refine ⟨?_, ?_, ?_, fun j hj => ?_⟩
  · show F.1 + 1 = F'.1 + 1
    rw [h1]
  · show F.2.1 + xtkn wa F b = F'.2.1 + xtkn wa F' b
    rw [h2, hk]
  · show upd F.2.2.2.2.2 b (F.2.2.2.2.2 b - xtkn wa F b) = upd F'.2.2.2.2.2 b (F'.2.2.2.2.2 b - xtkn wa F' b)
    rw [h3, hk]
  · have hj : j < F.1 + 1 := hj
    show upd F.2.2.1 F.1 (nI b) j = upd F'.2.2.1 F'.1 (nI b) j ∧ upd F.2.2.2.1 F.1 (xtkn wa F b) j = upd F'.2.2.2.1 F'.1 (xtkn wa F' b) j ∧ upd F.2.2.2.2.1 F.1 (FP.f2i (FP.fmul (FP.i2f (xtkn wa F b)) (xcharge (price og) (price (good b).toNatClampNeg) (pric b)))) j = upd F'.2.2.2.2.1 F'.1 (FP.f2i (FP.fmul (FP.i2f (xtkn wa F' b)) (xcharge (price og) (price (good b).toNatClampNeg) (pric' b)))) j
    rw [← h1, ← hk, ← hp]
    by_cases e : j = F.1
    · subst e
      rw [upd_at, upd_at, upd_at, upd_at, upd_at, upd_at]
      exact ⟨rfl, rfl, rfl⟩
    · rw [upd_ne _ _ e, upd_ne _ _ e, upd_ne _ _ e, upd_ne _ _ e, upd_ne _ _ e, upd_ne _ _ e]
      exact h4 j (by omega)
theorem zR.tk {w : Int32} (hp : ∀ b, b < n → pric b = pric' b) : ∀ (fuel : Nat) (F F' : XF), zR F F' → zR (xtk good left pric price rule le wa og n w fuel F) (xtk good left pric' price rule le wa og n w fuel F')
  | 0, _, _, h => h
  | fuel + 1, F, F', h => by
    have e : xnbF good left pric rule le n w F = xnbF good left pric' rule le n w F' := by
      unfold xnbF
      refine zx_nb_congr n (fun b _ => by rw [h.2.2.1]) (fun b f hb hf => ?_)
      unfold xbefore
      rw [hp b hb, hp f hf]
    show zR (if F.2.1 < wa then xtks good pric price wa og F (xnbF good left pric rule le n w F) (xtk good left pric price rule le wa og n w fuel) else F) (if F'.2.1 < wa then xtks good pric' price wa og F' (xnbF good left pric' rule le n w F') (xtk good left pric' price rule le wa og n w fuel) else F')
    rw [← h.2.1, ← e]
    split
    · cases hb : xnbF good left pric rule le n w F with
      | none => exact h
      | some b => exact zR.tk hp fuel _ _ (h.step (hp b (xnb_lt hb)))
    · exact h
theorem zR.subs {list : Nat → Int32} {base : Nat} (hp : ∀ b, b < n → pric b = pric' b) {F F' : XF} (h : zR F F') : ∀ k : Nat, zR (xsubs good left pric price rule le wa og n list base F k) (xsubs good left pric' price rule le wa og n list base F' k)
  | 0 => h
  | k + 1 => zR.tk hp 40 _ _ (zR.subs hp h k)
/-- nothing is left to take of a good -/
def zcl (good left : Nat → Int32) (le : Int32) (n : Nat) (w : Int32) (rest : Nat → Int32) : Prop := ∀ b, b < n → ¬ xopen good left rest le w b
theorem zk_end {w : Int32} (hn : n ≤ 16) : ∀ (fuel : Nat) (F : XF), xfi n wa F → 17 ≤ fuel + F.1 → (xtk good left pric price rule le wa og n w fuel F).2.1 < wa → zcl good left le n w (xtk good left pric price rule le wa og n w fuel F).2.2.2.2.2
  | 0, F, h, hf => by have := xfi_le h; omega
  | fuel + 1, F, h, hf => by
    show (if F.2.1 < wa then xtks good pric price wa og F (xnbF good left pric rule le n w F) (xtk good left pric price rule le wa og n w fuel) else F).2.1 < wa → zcl good left le n w (if F.2.1 < wa then xtks good pric price wa og F (xnbF good left pric rule le n w F) (xtk good left pric price rule le wa og n w fuel) else F).2.2.2.2.2
    by_cases hg : F.2.1 < wa
    · rw [if_pos hg]
      cases hb : xnbF good left pric rule le n w F with
      | none =>
        intro _ b hb2 ho
        have := zx_nb_none n hb b hb2
        exact absurd ho (of_decide_eq_false this)
      | some b => exact zk_end hn fuel _ (xfi_step h hg (xnb_lt hb) (of_decide_eq_true (xnb_p hb)).2.1) (by show 17 ≤ fuel + (F.1 + 1); omega)
    · rw [if_neg hg]
      exact fun q => absurd q hg
theorem zk_none {w : Int32} {F : XF} (h : zcl good left le n w F.2.2.2.2.2) : ∀ fuel : Nat, xtk good left pric price rule le wa og n w fuel F = F
  | 0 => rfl
  | fuel + 1 => by
    have e : xnbF good left pric rule le n w F = none := zx_nb_all n fun b hb => decide_eq_false (h b hb)
    show (if F.2.1 < wa then xtks good pric price wa og F (xnbF good left pric rule le n w F) (xtk good left pric price rule le wa og n w fuel) else F) = F
    rw [e]
    split <;> rfl
theorem zu_none {list : Nat → Int32} {base : Nat} {F : XF} : ∀ k : Nat, (∀ j, j < k → zcl good left le n (list (base + j)) F.2.2.2.2.2) → xsubs good left pric price rule le wa og n list base F k = F
  | 0, _ => rfl
  | k + 1, h => by
    show xtk good left pric price rule le wa og n (list (base + k)) 40 (xsubs good left pric price rule le wa og n list base F k) = F
    rw [zu_none k fun j hj => h j (by omega)]
    exact zk_none (h k (by omega)) 40
theorem zu_fi {list : Nat → Int32} {base : Nat} (hn : n ≤ 40) {F : XF} (h : xfi n wa F) : ∀ k : Nat, xfi n wa (xsubs good left pric price rule le wa og n list base F k)
  | 0 => h
  | k + 1 => xfi_xtk hn (zu_fi hn h k)
/-- numbers of a filling: so many units, and what rests of the shelf -/
def zN (W : Nat) (sh : Nat → Int32) (n : Nat) (F : XF) : Prop := ∃ G C : Nat, F.2.1 = nI G ∧ G ≤ W ∧ F.1 ≤ G ∧ C ≤ 9999 * G ∧
  (∀ b, b < n → ∃ u r : Nat, r ≤ u ∧ u ≤ 90 ∧ sh b = nI u ∧ F.2.2.2.2.2 b = nI r) ∧ (∀ b, n ≤ b → F.2.2.2.2.2 b = sh b) ∧
  F.1 + zopn F.2.2.2.2.2 n ≤ zopn sh n + (if G < W then 0 else 1) ∧ (∀ j, j < F.1 → ∃ b u : Nat, b < n ∧ F.2.2.1 j = nI b ∧ F.2.2.2.1 j = nI u) ∧ xsum F.2.2.2.1 F.1 = nI G ∧ xsum F.2.2.2.2.1 F.1 = nI C ∧ (F.1 = 0 → G = 0)
theorem zopn_upd {f : Nat → Int32} {b : Nat} {v : Int32} : ∀ n : Nat, zopn (upd f b v) n + (if b < n ∧ f b ≠ nI 0 then 1 else 0) = zopn f n + (if b < n ∧ v ≠ nI 0 then 1 else 0)
  | 0 => by rw [if_neg fun q => Nat.not_lt_zero b q.1, if_neg fun q => Nat.not_lt_zero b q.1]; rfl
  | n + 1 => by
    have ih := zopn_upd (f := f) (b := b) (v := v) n
    show zopn (upd f b v) n + (if upd f b v n = nI 0 then 0 else 1) + _ = zopn f n + (if f n = nI 0 then 0 else 1) + _
    by_cases e : n = b
    · subst e
      rw [if_neg fun q => Nat.lt_irrefl _ q.1, if_neg fun q => Nat.lt_irrefl _ q.1] at ih
      rw [upd_at]
      generalize zopn (upd f n v) n = x at ih ⊢
      by_cases e1 : v = nI 0 <;> by_cases e2 : f n = nI 0 <;> simp [e1, e2] <;> omega
    · rw [upd_ne _ _ e]
      have e3 : (b < n + 1) ↔ (b < n) := by omega
      simp only [e3]
      omega
end FILL
