/-! The acts keep what is known. -/
theorem zopn_all (f : Nat → Int32) : ∀ n : Nat, zopn f n ≤ n
  | 0 => Nat.le_refl _
  | n + 1 => by
    have := zopn_all f n
    show zopn f n + (if f n = nI 0 then 0 else 1) ≤ n + 1
    split <;> omega
theorem z31 {s : Nat} (hs : s < 4) : ∃ m : Nat, m ≤ 1120403456 ∧ xT0 31 s = nI m := by
  rcases (show s = 0 ∨ s = 1 ∨ s = 2 ∨ s = 3 by omega) with rfl | rfl | rfl | rfl
  · exact ⟨0, by decide, rfl⟩
  · exact ⟨1101004800, by decide, rfl⟩
  · exact ⟨1109393408, by decide, rfl⟩
  · exact ⟨1116471296, by decide, rfl⟩
theorem zxp_le (f : Nat → Int32) {k : Nat} (h : f k = nI 0) : (if f k = nI 0 then 0 else 1) = 0 := if_pos h
section ACTS
variable {n bz oz tk lz nx dy : Nat} {T : Nat → Nat → Int32}
theorem Iv.bring (h : Iv n bz oz tk lz nx dy T) (hb : bz < 16) {kg u d : Nat} (hk : kg < n) (hu : u ≤ 90) (hd : 1 ≤ d ∧ d ≤ 20) : Iv n (bz + 1) oz tk (min (lz + 1) 10) ((nx + 1) % 10) dy (brT T n bz lz nx kg (nI u) (nI d)) := by
  have hn := h.n1
  obtain ⟨z9, z10, z11, z12, z13, z14, z15⟩ := h.Z (Nat.le_refl bz) (by omega)
  refine h.batches ⟨rfl, rfl, rfl, rfl⟩ ⟨rfl, rfl, rfl, rfl⟩ ⟨rfl, rfl, rfl, rfl, rfl, rfl, rfl, rfl⟩ ⟨⟨hn.1, by omega, hn.2.2.1, Nat.min_le_right _ _, Nat.mod_lt _ (by decide), hn.2.2.2.2.2⟩, ?_, fun k => ⟨rfl, rfl, h.t16 k, h.t17 k, rfl, rfl, h.t40 k⟩⟩ (fun b hb2 => ?_) (fun b h1 h2 => ?_) ?_ ?_
  · show tk + (zopn (upd (T 9) bz (nI u)) bz + (if upd (T 9) bz (nI u) bz = nI 0 then 0 else 1)) ≤ bz + 1 + oz
    have h1 := zopn_le (f := T 9) (f' := upd (T 9) bz (nI u)) bz fun b hb e => by rw [upd_ne _ _ (by omega), e]
    have h2 := h.1.2.1
    have h3 : (if upd (T 9) bz (nI u) bz = nI 0 then 0 else 1) ≤ 1 := by split <;> omega
    omega
  · show (∃ g : Nat, g < n ∧ upd (T 6) bz (nI kg) b = nI g) ∧ (∃ d' : Nat, d' ≤ 20 ∧ upd (T 8) bz (nI d) b = nI d' ∧ (upd (T 9) bz (nI u) b ≠ nI 0 → 1 ≤ d')) ∧ (∃ u' : Nat, u' ≤ 90 ∧ upd (T 9) bz (nI u) b = nI u') ∧ upd (T 7) bz (nI u) b = upd (T 9) bz (nI u) b + T 10 b + T 11 b + (T 13 b + T 14 b + T 15 b)
    by_cases e : b = bz
    · subst e
      rw [upd_at, upd_at, upd_at, upd_at, z10, z11, z13, z14, z15]
      exact ⟨⟨kg, hk, rfl⟩, ⟨d, hd.2, rfl, fun _ => hd.1⟩, ⟨u, hu, rfl⟩, by rw [show (nI 0 : Int32) = 0 from rfl]; simp only [Int32.add_zero]⟩
    · rw [upd_ne _ _ e, upd_ne _ _ e, upd_ne _ _ e, upd_ne _ _ e]
      exact h.B (by omega)
  · show upd (T 9) bz (nI u) b = nI 0 ∧ _
    rw [upd_ne _ _ (by omega)]
    exact h.Z (by omega) h2
  · show xsum (T 10) bz + T 10 bz = _
    rw [z10, show (nI 0 : Int32) = 0 from rfl, Int32.add_zero]
  · show xsum (T 12) bz + T 12 bz = _
    rw [z12, show (nI 0 : Int32) = 0 from rfl, Int32.add_zero]
theorem zx_wg {good : Nat → Int32} {w day : Int32} {q0 : XW} (hl : q0.2.2.1 ≤ 10 ∧ q0.2.2.2.1 < 10) : ∀ j : Nat, (∀ b, (xwg good w day q0 j).1 b = if b < j ∧ good b = w ∧ ¬ q0.1 b ≤ 0 then nI 0 else q0.1 b) ∧ (∀ b, (xwg good w day q0 j).2.1 b = if b < j ∧ good b = w ∧ ¬ q0.1 b ≤ 0 then q0.2.1 b + q0.1 b else q0.2.1 b) ∧ (xwg good w day q0 j).2.2.1 ≤ 10 ∧ (xwg good w day q0 j).2.2.2.1 < 10
  | 0 => ⟨fun b => (if_neg fun q => Nat.not_lt_zero b q.1).symm, fun b => (if_neg fun q => Nat.not_lt_zero b q.1).symm, hl⟩
  | j + 1 => by
    obtain ⟨h1, h2, h3⟩ := zx_wg (good := good) (w := w) (day := day) hl j
    have e1 : (xwg good w day q0 j).1 j = q0.1 j := by rw [h1 j, if_neg fun q => Nat.lt_irrefl j q.1]
    have e2 : (xwg good w day q0 j).2.1 j = q0.2.1 j := by rw [h2 j, if_neg fun q => Nat.lt_irrefl j q.1]
    by_cases c : good j = w ∧ ¬ q0.1 j ≤ 0
    · have c9 : good j = w ∧ ¬ (xwg good w day q0 j).1 j ≤ 0 := by rw [e1]; exact c
      have e : xwg good w day q0 (j + 1) = xww (nI 3) (xwg good w day q0 j) j ((xwg good w day q0 j).1 j) day := if_pos c9
      rw [e]
      refine ⟨fun b => ?_, fun b => ?_, xww_log⟩
      · show upd (xwg good w day q0 j).1 j ((xwg good w day q0 j).1 j - (xwg good w day q0 j).1 j) b = _
        by_cases eb : b = j
        · subst eb
          rw [upd_at, Int32.sub_self, if_pos ⟨Nat.lt_succ_self _, c⟩]
          rfl
        · rw [upd_ne _ _ eb, h1 b]
          by_cases c2 : good b = w ∧ ¬ q0.1 b ≤ 0
          · by_cases hb : b < j
            · rw [if_pos ⟨hb, c2⟩, if_pos ⟨by omega, c2⟩]
            · rw [if_neg fun q => hb q.1, if_neg fun q => by have := q.1; omega]
          · rw [if_neg fun q => c2 q.2, if_neg fun q => c2 q.2]
      · show upd (xwg good w day q0 j).2.1 j ((xwg good w day q0 j).2.1 j + (xwg good w day q0 j).1 j) b = _
        by_cases eb : b = j
        · subst eb
          rw [upd_at, e1, e2, if_pos ⟨Nat.lt_succ_self _, c⟩]
        · rw [upd_ne _ _ eb, h2 b]
          by_cases c2 : good b = w ∧ ¬ q0.1 b ≤ 0
          · by_cases hb : b < j
            · rw [if_pos ⟨hb, c2⟩, if_pos ⟨by omega, c2⟩]
            · rw [if_neg fun q => hb q.1, if_neg fun q => by have := q.1; omega]
          · rw [if_neg fun q => c2 q.2, if_neg fun q => c2 q.2]
    · have c9 : ¬ (good j = w ∧ ¬ (xwg good w day q0 j).1 j ≤ 0) := by rw [e1]; exact c
      have e : xwg good w day q0 (j + 1) = xwg good w day q0 j := if_neg c9
      rw [e]
      refine ⟨fun b => ?_, fun b => ?_, h3⟩
      · rw [h1 b]
        by_cases c2 : good b = w ∧ ¬ q0.1 b ≤ 0
        · by_cases hb : b < j
          · rw [if_pos ⟨hb, c2⟩, if_pos ⟨by omega, c2⟩]
          · rw [if_neg fun q => hb q.1, if_neg fun q => by
              have h9 := q.1
              have : b = j := by omega
              subst this
              exact c c2]
        · rw [if_neg fun q => c2 q.2, if_neg fun q => c2 q.2]
      · rw [h2 b]
        by_cases c2 : good b = w ∧ ¬ q0.1 b ≤ 0
        · by_cases hb : b < j
          · rw [if_pos ⟨hb, c2⟩, if_pos ⟨by omega, c2⟩]
          · rw [if_neg fun q => hb q.1, if_neg fun q => by
              have h9 := q.1
              have : b = j := by omega
              subst this
              exact c c2]
        · rw [if_neg fun q => c2 q.2, if_neg fun q => c2 q.2]
theorem Iv.recall (h : Iv n bz oz tk lz nx dy T) (kg : Nat) : Iv n bz oz tk (rcQ T bz lz nx kg).2.2.1 (rcQ T bz lz nx kg).2.2.2.1 dy (rcT T n bz (rcQ T bz lz nx kg)) ∧ xsumIf (T 6) (nI kg) (rcQ T bz lz nx kg).1 bz = nI 0 := by
  have hn := h.n1
  obtain ⟨q, hq⟩ : ∃ q, q = rcQ T bz lz nx kg := ⟨_, rfl⟩
  rw [← hq]
  obtain ⟨h1, h2, h3⟩ := zx_wg (good := T 6) (w := nI kg) (day := T 40 0) (q0 := ((T 9), (T 15), lz, nx, (T 34), (T 35), (T 36), (T 37))) ⟨hn.2.2.2.1, hn.2.2.2.2.1⟩ bz
  have h1 : ∀ b, q.1 b = if b < bz ∧ T 6 b = nI kg ∧ ¬ T 9 b ≤ 0 then nI 0 else T 9 b := by rw [hq]; exact h1
  have h2 : ∀ b, q.2.1 b = if b < bz ∧ T 6 b = nI kg ∧ ¬ T 9 b ≤ 0 then T 15 b + T 9 b else T 15 b := by rw [hq]; exact h2
  have h3 : q.2.2.1 ≤ 10 ∧ q.2.2.2.1 < 10 := by rw [hq]; exact h3
  refine ⟨h.batches ⟨rfl, rfl, rfl, rfl⟩ ⟨rfl, rfl, rfl, rfl⟩ ⟨rfl, rfl, rfl, rfl, rfl, rfl, rfl, rfl⟩ ⟨⟨hn.1, hn.2.1, hn.2.2.1, h3.1, h3.2, hn.2.2.2.2.2⟩, ?_, fun k => ⟨rfl, rfl, h.t16 k, h.t17 k, rfl, rfl, h.t40 k⟩⟩ (fun b hb => ?_) (fun b h4 h5 => ?_) rfl rfl, zs_if0 bz fun b hb hg => ?_⟩
  · show tk + zopn q.1 bz ≤ bz + oz
    have a1 := zopn_le (f := T 9) (f' := q.1) bz fun b hb e => by
      rw [h1 b]
      split
      · rfl
      · exact e
    have := h.1.2.1
    omega
  · obtain ⟨b1, ⟨d, d1, d2, d3⟩, ⟨u, u1, u2⟩, b4⟩ := h.B hb
    show (∃ g : Nat, g < n ∧ T 6 b = nI g) ∧ (∃ d' : Nat, d' ≤ 20 ∧ T 8 b = nI d' ∧ (q.1 b ≠ nI 0 → 1 ≤ d')) ∧ (∃ u' : Nat, u' ≤ 90 ∧ q.1 b = nI u') ∧ T 7 b = q.1 b + T 10 b + T 11 b + (T 13 b + T 14 b + q.2.1 b)
    by_cases c : b < bz ∧ T 6 b = nI kg ∧ ¬ T 9 b ≤ 0
    · rw [h1 b, h2 b, if_pos c, if_pos c]
      refine ⟨b1, ⟨d, d1, d2, fun z => absurd rfl z⟩, ⟨0, by omega, rfl⟩, ?_⟩
      rw [b4, show (nI 0 : Int32) = 0 from rfl, Int32.zero_add]
      ac_rfl
    · rw [h1 b, h2 b, if_neg c, if_neg c]
      exact ⟨b1, ⟨d, d1, d2, d3⟩, ⟨u, u1, u2⟩, b4⟩
  · have z := h.Z h4 h5
    show q.1 b = nI 0 ∧ T 10 b = nI 0 ∧ T 11 b = nI 0 ∧ T 12 b = nI 0 ∧ T 13 b = nI 0 ∧ T 14 b = nI 0 ∧ q.2.1 b = nI 0
    rw [h1 b, h2 b, if_neg fun q => by have := q.1; omega, if_neg fun q => by have := q.1; omega]
    exact z
  · rw [h1 b]
    by_cases c : ¬ T 9 b ≤ 0
    · rw [if_pos ⟨hb, hg, c⟩]
    · rw [if_neg fun z => c z.2.2]
      obtain ⟨u, u1, u2⟩ := h.u hb
      rw [u2] at c ⊢
      rcases Nat.eq_zero_or_pos u with z | z
      · rw [z]
      · exact absurd (nI_nle z (by omega)) c
/-- days -/
theorem Iv.p0 (h : Iv n bz oz tk lz nx dy T) (mx : Nat) : pJ bz 0 mx dy (nI 0, T 40 0, T 8, T 9, T 13, T 11, lz, nx, T 34, T 35, T 36, T 37) (nI 0, T 40 0, T 8, T 9, T 13, T 11, lz, nx, T 34, T 35, T 36, T 37) := by
  have hn := h.n1
  refine ⟨h.t40 0, fun b hb => ?_, fun b _ => ⟨rfl, rfl, rfl⟩, Int32.zero_add _, ⟨0, Nat.zero_le _, (Int32.add_zero _).symm⟩, hn.2.2.2.1, hn.2.2.2.2.1⟩
  obtain ⟨b1, ⟨d, d1, d2, d3⟩, ⟨u, u1, u2⟩, b4⟩ := h.B hb
  refine ⟨u, d, u, 0, 0, d, ⟨u1, d1, by omega, d1⟩, fun z => ⟨d3 fun q => z ?_, rfl⟩, fun z => absurd rfl z, fun _ => rfl, u2, d2, u2, d2, (Int32.add_zero _).symm, (Int32.add_zero _).symm⟩
  rw [u2] at q
  exact nI_inj (by omega) (by omega) q
theorem Iv.mx (h : Iv n bz oz tk lz nx dy T) : ∃ mx : Nat, mx ≤ 59 ∧ T 38 2 = nI mx := by
  obtain ⟨-, ⟨-, ⟨r, ds, mx, h1, h2, h3, h4⟩, -⟩, -⟩ := h
  exact ⟨mx, h1.2.2.2, h4⟩
theorem Iv.pj (h : Iv n bz oz tk lz nx dy T) {mx : Nat} (hmx : mx ≤ 60) (e : T 38 2 = nI mx) (dn : Nat) : pJ bz dn mx dy (nI 0, T 40 0, T 8, T 9, T 13, T 11, lz, nx, T 34, T 35, T 36, T 37) (psQ T bz lz nx dn) := by
  unfold psQ
  rw [e]
  exact pJ.all hmx (h.p0 mx) dn
theorem Iv.pass (h : Iv n bz oz tk lz nx dy T) {dn : Nat} (hd : dy + dn ≤ 9000) : Iv n bz oz tk (psQ T bz lz nx dn).2.2.2.2.2.2.1 (psQ T bz lz nx dn).2.2.2.2.2.2.2.1 (dy + dn) (psT T bz (psQ T bz lz nx dn)) := by
  have hn := h.n1
  obtain ⟨mx, m1, m2⟩ := h.mx
  have hj := h.pj (mx := mx) (by omega) m2 dn
  obtain ⟨q, hq⟩ : ∃ q, q = psQ T bz lz nx dn := ⟨_, rfl⟩
  rw [← hq] at hj ⊢
  obtain ⟨j1, j2, j3, j4, j5, j6, j7⟩ := hj
  refine h.batches ⟨rfl, rfl, rfl, rfl⟩ ⟨rfl, rfl, rfl, rfl⟩ ⟨rfl, rfl, rfl, rfl, rfl, rfl, rfl, rfl⟩ ⟨⟨hn.1, hn.2.1, hn.2.2.1, j6, j7, hd⟩, ?_, fun k => ⟨h.t0 k, rfl, h.t16 k, h.t17 k, rfl, rfl, j1⟩⟩ (fun b hb => ?_) (fun b h4 h5 => ?_) rfl rfl
  · show tk + zopn q.2.2.2.1 bz ≤ bz + oz
    have a1 := zopn_le (f := T 9) (f' := q.2.2.2.1) bz fun b hb e => by
      obtain ⟨u0, l0, u, y, v, l, ⟨a1, a2, a3, a4⟩, -, -, -, a8, -, b1, -⟩ := j2 b hb
      have a8 : T 9 b = nI u0 := a8
      rw [a8] at e
      have := nI_inj (by omega) (by omega) e
      rw [b1, show u = 0 by omega]
    have := h.1.2.1
    omega
  · obtain ⟨b1, -, -, b4⟩ := h.B hb
    obtain ⟨u0, l0, u, y, v, l, ⟨a1, a2, a3, a4⟩, a5, -, -, a8, -, c1, c2, c3, c4⟩ := j2 b hb
    have a8 : T 9 b = nI u0 := a8
    have c3 : q.2.2.2.2.1 b = T 13 b + nI y := c3
    have c4 : q.2.2.2.2.2.1 b = T 11 b + nI v := c4
    show (∃ g : Nat, g < n ∧ T 6 b = nI g) ∧ (∃ d' : Nat, d' ≤ 20 ∧ q.2.2.1 b = nI d' ∧ (q.2.2.2.1 b ≠ nI 0 → 1 ≤ d')) ∧ (∃ u' : Nat, u' ≤ 90 ∧ q.2.2.2.1 b = nI u') ∧ T 7 b = q.2.2.2.1 b + T 10 b + q.2.2.2.2.2.1 b + (q.2.2.2.2.1 b + T 14 b + T 15 b)
    refine ⟨b1, ⟨l, a4, c2, fun z => (a5 fun e => z (by rw [c1, e])).1⟩, ⟨u, by omega, c1⟩, ?_⟩
    rw [b4, a8, c1, c3, c4, ← a3, ← nI_add, ← nI_add]
    ac_rfl
  · obtain ⟨z9, z10, z11, z12, z13, z14, z15⟩ := h.Z h4 h5
    obtain ⟨k1, k2, k3⟩ := j3 b h4
    exact ⟨k1.trans z9, z10, k3.trans z11, z12, k2.trans z13, z14, z15⟩
/-- a setting -/
theorem Iv.set (h : Iv n bz oz tk lz nx dy T) {wn v : Nat} (hv : (wn = 0 ∧ v ≤ 2) ∨ (wn = 1 ∧ 1 ≤ v ∧ v ≤ 4) ∨ (wn = 2 ∧ v ≤ 59)) : Iv n bz oz tk lz nx dy (xT T 38 (upd (T 38) wn (nI v))) := by
  obtain ⟨i1, ⟨c1, ⟨r, ds, mx, c2, c3, c4, c5⟩, c6⟩, i3⟩ := h
  refine ⟨i1, ⟨c1, ?_, c6⟩, i3⟩
  show ∃ r ds mx : Nat, (r ≤ 2 ∧ 1 ≤ ds ∧ ds ≤ 4 ∧ mx ≤ 59) ∧ upd (T 38) wn (nI v) 0 = nI r ∧ upd (T 38) wn (nI v) 1 = nI ds ∧ upd (T 38) wn (nI v) 2 = nI mx
  rcases hv with ⟨rfl, hv⟩ | ⟨rfl, hv⟩ | ⟨rfl, hv⟩
  · exact ⟨v, ds, mx, by omega, rfl, c4, c5⟩
  · exact ⟨r, v, mx, by omega, c3, rfl, c5⟩
  · exact ⟨r, ds, v, by omega, c3, c4, rfl⟩
theorem Iv.rebate (h : Iv n bz oz tk lz nx dy T) : Iv n bz oz tk lz nx dy (xT T 39 (fun _ => nI 1092616192)) := by
  obtain ⟨i1, ⟨c1, c2⟩, i3⟩ := h
  exact ⟨i1, ⟨⟨1092616192, Or.inr rfl, fun _ => rfl⟩, c2⟩, i3⟩
end ACTS
