/-! What the acts of the store do. -/
theorem mHp {M M' : XM} {tl ol sz : Nat} {L : List (Nat → Nat → Int32)} (h0 : M.1 0 = nI tl) (h3 : ol < 4) (h4 : sz ≤ 4) (h5 : L.length ≤ sz) (h6 : ∀ (i : Nat) (X : Nat → Nat → Int32), L[i]? = some X → M.2.2.2.2.2.2 ((ol + sz - 1 - i) % 4) = X) (hL : L.length ≤ 3)
    (e0 : M'.1 0 = M.1 0) (e1 : M'.1 11 = nI (xol ol sz)) (e2 : M'.1 12 = nI (xsz sz)) (e3 : M'.2.2.2.2.2.2 = xupS M.2.2.2.2.2.2 ((ol + sz) % 4) (mT M)) : mH M' (mT M :: L) := by
  refine ⟨tl, xol ol sz, xsz sz, e0.trans h0, e1, e2, by unfold xol; split <;> omega, by unfold xsz; split <;> omega, by show L.length + 1 ≤ xsz sz; unfold xsz; split <;> omega, fun i X hi => ?_⟩
  rw [e3]
  cases i with
  | zero =>
    have hi : some (mT M) = some X := hi
    cases hi
    rw [show (xol ol sz + xsz sz - 1 - 0) % 4 = (ol + sz) % 4 by unfold xol xsz; split <;> omega, xupS_at]
  | succ j =>
    have hi : L[j]? = some X := hi
    have hj : j < L.length := (List.getElem?_eq_some_iff.mp hi).1
    rw [show (xol ol sz + xsz sz - 1 - (j + 1)) % 4 = (ol + sz - 1 - j) % 4 by unfold xol xsz; split <;> omega, xupS_ne _ _ (by omega)]
    exact h6 j X hi
theorem mH.same {M M' : XM} {L : List (Nat → Nat → Int32)} (h : mH M L) (e0 : M'.1 0 = M.1 0) (e1 : M'.1 11 = M.1 11) (e2 : M'.1 12 = M.1 12) (e3 : M'.2.2.2.2.2.2 = M.2.2.2.2.2.2) : mH M' L := by
  obtain ⟨tl, ol, sz, h0, h1, h2, h3, h4, h5, h6⟩ := h
  exact ⟨tl, ol, sz, e0.trans h0, e1.trans h1, e2.trans h2, h3, h4, h5, by rw [e3]; exact h6⟩
theorem mH.less {M : XM} {L : List (Nat → Nat → Int32)} {X : Nat → Nat → Int32} (h : mH M (X :: L)) : mH M [] := by
  obtain ⟨tl, ol, sz, h0, h1, h2, h3, h4, h5, h6⟩ := h
  exact ⟨tl, ol, sz, h0, h1, h2, h3, h4, Nat.zero_le _, fun i X hi => by cases hi⟩
section KACTS
theorem zX_of {l : Launch} {D : va_G} {z : XK} {y : MethodName} {ws : List Cond} {as : List Value} {M : XM} {V : Nat → Int32} {E : Nat → Nat → Int32} {P : Nat → UInt32} {T Ts Tt : Nat → Nat → Int32} {S : Nat → Nat → Nat → Int32} {r : Int32}
    (h : pX l D (xtys z.1.1 z.1.2.1 z.1.2.2.1 z.1.1 z.1.2.2.2.1 z.1.2.2.2.2) y ws (.ref (z.2.1 0) :: as) (clsW z.1.1 z.1.2.1 z.1.2.2.1 z.1.2.2.2.1 z.1.2.2.2.2 z.2.1 z.2.2.1 z.2.2.2.1 z.2.2.2.2.1 z.2.2.2.2.2 M.1 M.2.1 M.2.2.1 M.2.2.2.1 M.2.2.2.2.1 M.2.2.2.2.2.1 M.2.2.2.2.2.2) (clsW z.1.1 z.1.2.1 z.1.2.2.1 z.1.2.2.2.1 z.1.2.2.2.2 z.2.1 z.2.2.1 z.2.2.2.1 z.2.2.2.2.1 z.2.2.2.2.2 V E P T Ts Tt S) r) : zX l D z y ws as M (V, E, P, T, Ts, Tt, S) r := h
variable {n bz oz tk lz nx dy : Nat} (l : Launch) (dC : Nat → ClassId) (dI : Nat → Nat → Nat) (z : XK) {M : XM} {L : List (Nat → Nat → Int32)}
theorem k_bring (h : Iv n bz oz tk lz nx dy (mT M)) (hH : mH M L) (hL : L.length ≤ 3) {g u d lf : Nat} (hg : g < n) (hu : 1 ≤ u ∧ u ≤ 90) (hf : mT M 2 g = nI lf) (hlf : lf ≤ 20) (hd : 1 ≤ d ∧ d ≤ lf) : ∃ M' : XM, zX l (dC, dI) z yX9_bring wsX9_bring [.int (nI g), .int (nI u), .int (nI d)] M M' (nI bz) ∧ mT M' = brT (mT M) n bz lz nx g (nI u) (nI d) ∧ mH M' (mT M :: L) := by
  obtain ⟨tl, ol, sz, h0, h1, h2, h3, h4, h5, h6⟩ := hH
  have hn := h.n1
  refine ⟨_, zX_of (l_X9_brings l dC dI z.1.1 z.1.2.1 z.1.2.2.1 z.1.1 z.1.2.2.2.1 z.1.2.2.2.2 z.2.1 z.2.2.1 z.2.2.2.1 z.2.2.2.2.1 z.2.2.2.2.2 M.1 M.2.1 M.2.2.1 M.2.2.2.1 M.2.2.2.2.1 M.2.2.2.2.2.1 M.2.2.2.2.2.2 ol sz n bz lz nx g (nI u) (nI d) h1 h2 h3 h4 (h.t0 0) (h.t5 0) (h.t32 0) (h.t33 0) (by omega) hg ⟨⟨nI_le hu.1 (by omega), nI_le (by omega) (by omega)⟩, nI_le hd.1 (by omega), ?_⟩ (by omega) (by omega) (by omega)), rfl, mHp h0 h3 h4 h5 h6 hL rfl rfl rfl rfl⟩
  rw [show M.2.2.2.1 2 g = nI lf from hf]
  exact nI_le hd.2 (by omega)
theorem k_pass (h : Iv n bz oz tk lz nx dy (mT M)) (hH : mH M L) (hL : L.length ≤ 3) {dn : Nat} (hd : 1 ≤ dn ∧ dn ≤ 60) : ∃ M' : XM, zX l (dC, dI) z yX9_pass wsX9_pass [.int (nI dn)] M M' (psQ (mT M) bz lz nx dn).1 ∧ mT M' = psT (mT M) bz (psQ (mT M) bz lz nx dn) ∧ mH M' (mT M :: L) := by
  obtain ⟨tl, ol, sz, h0, h1, h2, h3, h4, h5, h6⟩ := hH
  have hn := h.n1
  refine ⟨_, zX_of (l_X9_passs l dC dI z.1.1 z.1.2.1 z.1.2.2.1 z.1.1 z.1.2.2.2.1 z.1.2.2.2.2 z.2.1 z.2.2.1 z.2.2.2.1 z.2.2.2.2.1 z.2.2.2.2.2 M.1 M.2.1 M.2.2.1 M.2.2.2.1 M.2.2.2.2.1 M.2.2.2.2.2.1 M.2.2.2.2.2.2 ol sz bz lz nx dn h1 h2 h3 h4 (h.t5 0) (h.t32 0) (h.t33 0) (by omega) h.idx hd.2 ⟨nI_le hd.1 (by omega), nI_le hd.2 (by omega)⟩ ?_ (by omega) (by omega)), rfl, mHp h0 h3 h4 h5 h6 hL rfl rfl rfl rfl⟩
  rw [show M.2.2.2.1 40 0 = nI dy from h.t40 0, nI_add]
  exact nI_le (by omega) (by omega)
theorem k_exp (h : Iv n bz oz tk lz nx dy (mT M)) {b dn : Nat} (hb : b < bz) (hd : 1 ≤ dn ∧ dn ≤ 60) : ∃ M' : XM, zX l (dC, dI) z yX9_wouldExpire wsX9_wouldExpire [.int (nI b), .int (nI dn)] M M' ((psQ (mT M) bz lz nx dn).2.2.2.2.1 b - mT M 13 b) ∧ mT M' = mT M ∧ ∀ L, mH M L → mH M' L := by
  have hn := h.n1
  refine ⟨_, zX_of (l_X9_wouldExpires l dC dI z.1.1 z.1.2.1 z.1.2.2.1 z.1.1 z.1.2.2.2.1 z.1.2.2.2.2 z.2.1 z.2.2.1 z.2.2.2.1 z.2.2.2.2.1 z.2.2.2.2.2 M.1 M.2.1 M.2.2.1 M.2.2.2.1 M.2.2.2.2.1 M.2.2.2.2.2.1 M.2.2.2.2.2.2 bz lz nx b dn (h.t5 0) (h.t32 0) (h.t33 0) (by omega) hb h.idx hd.2 ⟨nI_le hd.1 (by omega), nI_le hd.2 (by omega)⟩ (by omega) (by omega)), h.told, fun L hH => hH.same rfl rfl rfl rfl⟩
theorem k_recall0 (h : Iv n bz oz tk lz nx dy (mT M)) {g : Nat} (hg : g < n) (h0 : xsumIf (mT M 6) (nI g) (mT M 9) bz = nI 0) : zX l (dC, dI) z yX9_recall wsX9_recall [.int (nI g)] M M (-5) := by
  have hn := h.n1
  have e : eRecall (xsumIf (M.2.2.2.1 6) (nI g) (M.2.2.2.1 9) bz) = -5 := if_pos h0
  exact zX.r (l_X9_recalle l dC dI z.1.1 z.1.2.1 z.1.2.2.1 z.1.1 z.1.2.2.2.1 z.1.2.2.2.2 z.2.1 z.2.2.1 z.2.2.2.1 z.2.2.2.2.1 z.2.2.2.2.2 M.1 M.2.1 M.2.2.1 M.2.2.2.1 M.2.2.2.2.1 M.2.2.2.2.2.1 M.2.2.2.2.2.2 n bz g (h.t0 0) (h.t5 0) (by omega) (by omega) hg (by rw [e]; decide)) e
theorem k_recall (h : Iv n bz oz tk lz nx dy (mT M)) (hH : mH M L) (hL : L.length ≤ 3) {g : Nat} (hg : g < n) (h9 : ¬ xsumIf (mT M 6) (nI g) (mT M 9) bz = 0) : ∃ M' : XM, zX l (dC, dI) z yX9_recall wsX9_recall [.int (nI g)] M M' (xsumIf (mT M 6) (nI g) (mT M 9) bz) ∧ mT M' = rcT (mT M) n bz (rcQ (mT M) bz lz nx g) ∧ mH M' (mT M :: L) := by
  obtain ⟨tl, ol, sz, h0, h1, h2, h3, h4, h5, h6⟩ := hH
  have hn := h.n1
  exact ⟨_, zX_of (l_X9_recalls l dC dI z.1.1 z.1.2.1 z.1.2.2.1 z.1.1 z.1.2.2.2.1 z.1.2.2.2.2 z.2.1 z.2.2.1 z.2.2.2.1 z.2.2.2.2.1 z.2.2.2.2.2 M.1 M.2.1 M.2.2.1 M.2.2.2.1 M.2.2.2.2.1 M.2.2.2.2.2.1 M.2.2.2.2.2.2 ol sz n bz lz nx g h1 h2 h3 h4 (h.t0 0) (h.t5 0) (h.t32 0) (h.t33 0) (by omega) hg (by omega) h9 (by omega) (by omega)), rfl, mHp h0 h3 h4 h5 h6 hL rfl rfl rfl rfl⟩
theorem k_undo {X : Nat → Nat → Int32} (hH : mH M (X :: L)) : ∃ (M' : XM) (k : Nat), zX l (dC, dI) z yX9_undo wsX9_undo [] M M' (nI k) ∧ k ≤ 3 ∧ mT M' = X ∧ mH M' L := by
  obtain ⟨tl, ol, sz, h0, h1, h2, h3, h4, h5, h6⟩ := hH
  have h5 : L.length + 1 ≤ sz := h5
  refine ⟨_, sz - 1, zX_of (l_X9_undos l dC dI z.1.1 z.1.2.1 z.1.2.2.1 z.1.1 z.1.2.2.2.1 z.1.2.2.2.2 z.2.1 z.2.2.1 z.2.2.2.1 z.2.2.2.2.1 z.2.2.2.2.2 M.1 M.2.1 M.2.2.1 M.2.2.2.1 M.2.2.2.2.1 M.2.2.2.2.2.1 M.2.2.2.2.2.2 ol sz h1 h2 h3 ⟨by omega, h4⟩), by omega, ?_, tl, ol, sz - 1, h0, h1, rfl, h3, by omega, by omega, fun i Y hi => ?_⟩
  · rw [← h6 0 X rfl, show (ol + (sz - 1)) % 4 = (ol + sz - 1 - 0) % 4 by omega]
  · have hi2 : (X :: L)[i + 1]? = some Y := hi
    have hj : i < L.length := (List.getElem?_eq_some_iff.mp hi).1
    rw [← h6 (i + 1) Y hi2, show (ol + (sz - 1) - 1 - i) % 4 = (ol + sz - 1 - (i + 1)) % 4 by omega]
theorem k_set (hH : mH M L) (hL : L.length ≤ 3) {w v : Nat} (hw : w < 3) (hs : ¬ xisset (nI w) (nI v) = 0) (hv : ¬ mT M 38 w = nI v) : ∃ M' : XM, zX l (dC, dI) z yX9_set wsX9_set [.int (nI w), .int (nI v)] M M' (mT M 38 w) ∧ mT M' = xT (mT M) 38 (upd (mT M 38) w (nI v)) ∧ mH M' (mT M :: L) := by
  obtain ⟨tl, ol, sz, h0, h1, h2, h3, h4, h5, h6⟩ := hH
  exact ⟨_, zX_of (l_X9_sets l dC dI z.1.1 z.1.2.1 z.1.2.2.1 z.1.1 z.1.2.2.2.1 z.1.2.2.2.2 z.2.1 z.2.2.1 z.2.2.2.1 z.2.2.2.2.1 z.2.2.2.2.2 M.1 M.2.1 M.2.2.1 M.2.2.2.1 M.2.2.2.2.1 M.2.2.2.2.2.1 M.2.2.2.2.2.2 ol sz w (nI v) h1 h2 h3 h4 hw hs hv), rfl, mHp h0 h3 h4 h5 h6 hL rfl rfl rfl rfl⟩
theorem k_setN {w v : Nat} (hw : w < 3) (hs : ¬ xisset (nI w) (nI v) = 0) (hv : mT M 38 w = nI v) : zX l (dC, dI) z yX9_set wsX9_set [.int (nI w), .int (nI v)] M M (-5) := l_X9_sete l dC dI z.1.1 z.1.2.1 z.1.2.2.1 z.1.1 z.1.2.2.2.1 z.1.2.2.2.2 z.2.1 z.2.2.1 z.2.2.2.1 z.2.2.2.2.1 z.2.2.2.2.2 M.1 M.2.1 M.2.2.1 M.2.2.2.1 M.2.2.2.2.1 M.2.2.2.2.2.1 M.2.2.2.2.2.2 w (nI v) hw hs hv
theorem k_reb (hH : mH M L) (hL : L.length ≤ 3) (hr : mT M 39 0 = nI 0) : ∃ M' : XM, zX l (dC, dI) z yX9_setRebate wsX9_setRebate [.int (nI 1092616192)] M M' (nI 1) ∧ mT M' = xT (mT M) 39 (fun _ => nI 1092616192) ∧ mH M' (mT M :: L) := by
  obtain ⟨tl, ol, sz, h0, h1, h2, h3, h4, h5, h6⟩ := hH
  exact ⟨_, zX_of (l_X9_setRebates l dC dI z.1.1 z.1.2.1 z.1.2.2.1 z.1.1 z.1.2.2.2.1 z.1.2.2.2.2 z.2.1 z.2.2.1 z.2.2.2.1 z.2.2.2.2.1 z.2.2.2.2.2 M.1 M.2.1 M.2.2.1 M.2.2.2.1 M.2.2.2.2.1 M.2.2.2.2.2.1 M.2.2.2.2.2.2 ol sz 1092616192 0 h1 h2 h3 h4 (by decide) (by omega) (by omega) hr (by omega)), rfl, mHp h0 h3 h4 h5 h6 hL rfl rfl rfl rfl⟩
theorem k_rebN (hr : mT M 39 0 = nI 0) : zX l (dC, dI) z yX9_setRebate wsX9_setRebate [.int (nI 0)] M M (-5) := l_X9_setRebatee l dC dI z.1.1 z.1.2.1 z.1.2.2.1 z.1.1 z.1.2.2.2.1 z.1.2.2.2.2 z.2.1 z.2.2.1 z.2.2.2.1 z.2.2.2.2.1 z.2.2.2.2.2 M.1 M.2.1 M.2.2.1 M.2.2.2.1 M.2.2.2.2.1 M.2.2.2.2.2.1 M.2.2.2.2.2.2 0 0 (by decide) (by omega) (by omega) hr rfl
theorem k_addGood (h0 : mT M 0 0 = nI n) (hH : mH M L) (hL : L.length ≤ 3) (hn : n < 12) {p m : Nat} (hp : 1 ≤ p ∧ p ≤ 9999) (hm : 1 ≤ m ∧ m ≤ 60) : ∃ M' : XM, zX l (dC, dI) z yX9_addGood wsX9_addGood [.int (nI p), .int (nI m)] M M' (nI n) ∧ mT M' = xT (xT (xT (mT M) 0 (fun _ => nI (n + 1))) 1 (upd (mT M 1) n (nI p))) 2 (upd (mT M 2) n (nI m)) ∧ mH M' (mT M :: L) := by
  obtain ⟨tl, ol, sz, g0, h1, h2, h3, h4, h5, h6⟩ := hH
  exact ⟨_, zX_of (l_X9_addGoods l dC dI z.1.1 z.1.2.1 z.1.2.2.1 z.1.1 z.1.2.2.2.1 z.1.2.2.2.2 z.2.1 z.2.2.1 z.2.2.2.1 z.2.2.2.2.1 z.2.2.2.2.2 M.1 M.2.1 M.2.2.1 M.2.2.2.1 M.2.2.2.2.1 M.2.2.2.2.2.1 M.2.2.2.2.2.2 ol sz n (nI p) (nI m) h1 h2 h3 h4 h0 hn ⟨nI_le hp.1 (by omega), nI_le hp.2 (by omega)⟩ ⟨nI_le hm.1 (by omega), nI_le hm.2 (by omega)⟩), rfl, mHp g0 h3 h4 h5 h6 hL rfl rfl rfl rfl⟩
theorem k_addSub (h0 : mT M 0 0 = nI n) (hH : mH M L) (hL : L.length ≤ 3) (hn : n ≤ 12) {g s lm p : Nat} (hg : g < n) (hs : s < n) (hgs : ¬ g = s) (hl : mT M 3 g = nI lm) (hlm : lm < 4) (hp : p ≤ lm) (hno : ¬ ∃ j, j < lm ∧ mT M 4 (g * 4 + j) = nI s) : ∃ M' : XM, zX l (dC, dI) z yX9_addSubstitute wsX9_addSubstitute [.int (nI g), .int (nI s), .int (nI p)] M M' (nI (lm + 1)) ∧ mT M' = xT (xT (xT (mT M) 0 (fun _ => nI n)) 3 (upd (mT M 3) g (nI (lm + 1)))) 4 (xins (mT M 4) (g * 4) lm p (nI s)) ∧ mH M' (mT M :: L) := by
  obtain ⟨tl, ol, sz, g0, h1, h2, h3, h4, h5, h6⟩ := hH
  exact ⟨_, zX_of (l_X9_addSubstitutes l dC dI z.1.1 z.1.2.1 z.1.2.2.1 z.1.1 z.1.2.2.2.1 z.1.2.2.2.2 z.2.1 z.2.2.1 z.2.2.2.1 z.2.2.2.2.1 z.2.2.2.2.2 M.1 M.2.1 M.2.2.1 M.2.2.2.1 M.2.2.2.2.1 M.2.2.2.2.2.1 M.2.2.2.2.2.2 ol sz n g s lm p h1 h2 h3 h4 h0 hn hg hs hgs hl hlm ⟨nI_le (Nat.zero_le _) (by omega), nI_le hp (by omega)⟩ hp hno), rfl, mHp g0 h3 h4 h5 h6 hL rfl rfl rfl rfl⟩
theorem k_addSubB (h0 : mT M 0 0 = nI n) (hn : n ≤ 12) {g lm p : Nat} (hg : g < n) (hl : mT M 3 g = nI lm) (hlm : lm ≤ 4) : zX l (dC, dI) z yX9_addSubstitute wsX9_addSubstitute [.int (nI g), .int (nI g), .int (nI p)] M M (-2) := l_X9_addSubstituteb l dC dI z.1.1 z.1.2.1 z.1.2.2.1 z.1.1 z.1.2.2.2.1 z.1.2.2.2.2 z.2.1 z.2.2.1 z.2.2.2.1 z.2.2.2.2.1 z.2.2.2.2.2 M.1 M.2.1 M.2.2.1 M.2.2.2.1 M.2.2.2.2.1 M.2.2.2.2.2.1 M.2.2.2.2.2.2 n g g lm (nI p) h0 hn hg hg hl hlm (Or.inl rfl)
theorem k_addSubN (h0 : mT M 0 0 = nI n) (hn : n ≤ 12) {g s lm p : Nat} (hg : g < n) (hs : s < n) (hgs : ¬ g = s) (hl : mT M 3 g = nI lm) (hlm : lm ≤ 4) (hp : p ≤ lm) (hex : ∃ j, j < lm ∧ mT M 4 (g * 4 + j) = nI s) : zX l (dC, dI) z yX9_addSubstitute wsX9_addSubstitute [.int (nI g), .int (nI s), .int (nI p)] M M (-4) := l_X9_addSubstituten l dC dI z.1.1 z.1.2.1 z.1.2.2.1 z.1.1 z.1.2.2.2.1 z.1.2.2.2.2 z.2.1 z.2.2.1 z.2.2.2.1 z.2.2.2.2.1 z.2.2.2.2.2 M.1 M.2.1 M.2.2.1 M.2.2.2.1 M.2.2.2.2.1 M.2.2.2.2.2.1 M.2.2.2.2.2.2 n g s lm p h0 hn hg hs hl hlm hgs ⟨nI_le (Nat.zero_le _) (by omega), nI_le hp (by omega)⟩ hex
theorem k_addSubF (h0 : mT M 0 0 = nI n) (hn : n ≤ 12) {g s p : Nat} (hg : g < n) (hs : s < n) (hgs : ¬ g = s) (hl : mT M 3 g = nI 4) (hp : p ≤ 4) (hex : ¬ ∃ j, j < 4 ∧ mT M 4 (g * 4 + j) = nI s) : zX l (dC, dI) z yX9_addSubstitute wsX9_addSubstitute [.int (nI g), .int (nI s), .int (nI p)] M M (-3) := l_X9_addSubstitutef l dC dI z.1.1 z.1.2.1 z.1.2.2.1 z.1.1 z.1.2.2.2.1 z.1.2.2.2.2 z.2.1 z.2.2.1 z.2.2.2.1 z.2.2.2.2.1 z.2.2.2.2.2 M.1 M.2.1 M.2.2.1 M.2.2.2.1 M.2.2.2.2.1 M.2.2.2.2.2.1 M.2.2.2.2.2.2 n g s 4 p h0 hn hg hs hl (Nat.le_refl _) hgs ⟨nI_le (Nat.zero_le _) (by omega), nI_le hp (by omega)⟩ hex rfl
theorem k_sin0 (h : Iv n bz oz tk lz nx dy (mT M)) {b g d s : Nat} (hb : b < bz) (hg : mT M 6 b = nI g) (hgn : g < n) (hd : mT M 8 b = nI d) (hd9 : d ≤ 20) (hs : 1 ≤ s ∧ s ≤ 3) (h9 : mT M 9 b = 0) : zX l (dC, dI) z yX9_stageIn wsX9_stageIn [.int (nI b), .int (nI s)] M M (-5) := l_X9_stageInn l dC dI z.1.1 z.1.2.1 z.1.2.2.1 z.1.1 z.1.2.2.2.1 z.1.2.2.2.2 z.2.1 z.2.2.1 z.2.2.2.1 z.2.2.2.2.1 z.2.2.2.2.2 M.1 M.2.1 M.2.2.1 M.2.2.2.1 M.2.2.2.2.1 M.2.2.2.2.2.1 M.2.2.2.2.2.2 bz b g d s (h.t5 0) (by have := h.n1; omega) hb hg (by have := h.n1; omega) hd (by omega) ⟨nI_le hs.1 (by omega), nI_le hs.2 (by omega)⟩ hs h9
theorem k_sin (h : Iv n bz oz tk lz nx dy (mT M)) {b g d s : Nat} (hb : b < bz) (hg : mT M 6 b = nI g) (hgn : g < n) (hd : mT M 8 b = nI d) (hd9 : d ≤ 20) (hs : 1 ≤ s ∧ s ≤ 3) (h9 : ¬ mT M 9 b = 0) : zX l (dC, dI) z yX9_stageIn wsX9_stageIn [.int (nI b), .int (nI s)] M M (xfst (fun j => xreach (mT M 30 1) (mT M 30 2) (mT M 30 3) (nI (d - j)) (mT M 2 g)) s 0 d) := l_X9_stageIns l dC dI z.1.1 z.1.2.1 z.1.2.2.1 z.1.1 z.1.2.2.2.1 z.1.2.2.2.2 z.2.1 z.2.2.1 z.2.2.2.1 z.2.2.2.2.1 z.2.2.2.2.2 M.1 M.2.1 M.2.2.1 M.2.2.2.1 M.2.2.2.2.1 M.2.2.2.2.2.1 M.2.2.2.2.2.2 bz b g d s (h.t5 0) (by have := h.n1; omega) hb hg (by have := h.n1; omega) hd (by omega) ⟨nI_le hs.1 (by omega), nI_le hs.2 (by omega)⟩ hs h9
/-- what an order would get, said of the state alone -/
def zwF (T : Nat → Nat → Int32) (bz g lm : Nat) (un le sb : Int32) : XF := xF2 T le un sb g bz lm (fun _ => nI 0) (fun _ => nI 0) (fun _ => nI 0) (fun _ => 0)
def zwG (T : Nat → Nat → Int32) (bz g : Nat) (un le : Int32) : XF := xF1 T le un g bz (fun _ => nI 0) (fun _ => nI 0) (fun _ => nI 0) (fun _ => 0)
def zwA (w : Int32) (T : Nat → Nat → Int32) (F G : XF) : Int32 := tWg w F.2.1 (F.2.1 - G.2.1) (nI F.1) (xdue (xsum F.2.2.2.2.1 F.1) (xf1 (T 39 0)))
theorem zwA_same {w : Int32} {T : Nat → Nat → Int32} {F F' G G' : XF} (h1 : zR F F') (h2 : zR G G') : zwA w T F G = zwA w T F' G' := by
  unfold zwA
  rw [h1.2.1, h2.2.1, h1.1, zs_congr (f := F.2.2.2.2.1) (g := F'.2.2.2.2.1) F'.1 fun j hj => (h1.2.2.2 j (by rw [h1.1]; exact hj)).2.2]
theorem k_would (h : Iv n bz oz tk lz nx dy (mT M)) {g W d lm w : Nat} {sb : Int32} (hg : g < n) (hW : 1 ≤ W ∧ W ≤ 400) (hd : d ≤ 60) (hl : mT M 3 g = nI lm) (hlm : lm ≤ 4) (hw : w ≤ 3) : ∃ M' : XM, zX l (dC, dI) z yX9_wouldGet wsX9_wouldGet [.int (nI g), .int (nI W), .int (nI d), .int sb, .int (nI w)] M M' (zwA (nI w) (mT M) (zwF (mT M) bz g lm (nI W) (nI d) sb) (zwG (mT M) bz g (nI W) (nI d))) ∧ mT M' = mT M ∧ ∀ L, mH M L → mH M' L := by
  have hn := h.n1
  have hf := h.fits hg hW.2 (le := nI d) (sb := sb) (lm := lm) (fb := M.2.1 1) (fu := M.2.1 2) (fc := M.2.1 3) (P := M.2.2.1)
  refine ⟨_, zX.r (zX_of (l_X9_wouldGets l dC dI z.1.1 z.1.2.1 z.1.2.2.1 z.1.1 z.1.2.2.2.1 z.1.2.2.2.2 z.2.1 z.2.2.1 z.2.2.2.1 z.2.2.2.2.1 z.2.2.2.2.2 M.1 M.2.1 M.2.2.1 M.2.2.2.1 M.2.2.2.2.1 M.2.2.2.2.2.1 M.2.2.2.2.2.2 n bz g (nI W) (nI d) sb lm (nI w) (h.t0 0) (h.t5 0) (by omega) hg (by omega) h.idx hl hlm ⟨⟨nI_le hW.1 (by omega), nI_le (by omega) (by omega)⟩, nI_le (Nat.zero_le _) (by omega), nI_le hd (by omega)⟩ h.md h.nn hf.1 h.rb ⟨nI_le (Nat.zero_le _) (by omega), nI_le hw (by omega)⟩)) (zwA_same (zF2_same (P' := fun _ => 0)) (zF1_same (P' := fun _ => 0))), rfl, fun L hH => hH.same rfl rfl rfl rfl⟩
theorem k_order (h : Iv n bz oz tk lz nx dy (mT M)) (hH : mH M L) (hL : L.length ≤ 3) {g W d lm : Nat} {sb : Int32} (hg : g < n) (hW : 1 ≤ W ∧ W ≤ 400) (hd : d ≤ 60) (hl : mT M 3 g = nI lm) (hlm : lm ≤ 4) (ho : oz < 16) : ∃ (M' : XM) (F G : XF), zX l (dC, dI) z yX9_order wsX9_order [.int (nI g), .int (nI W), .int (nI d), .int sb] M M' F.2.1 ∧ F = xF2 (mT M) (nI d) (nI W) sb g bz lm (M.2.1 1) (M.2.1 2) (M.2.1 3) M.2.2.1 ∧ G = xF1 (mT M) (nI d) (nI W) g bz (M.2.1 1) (M.2.1 2) (M.2.1 3) M.2.2.1 ∧ mT M' = odT (mT M) n bz oz tk g (nI W) (nI d) sb F G (odQ (mT M) oz tk lz nx F) ∧ mH M' (mT M :: L) := by
  obtain ⟨tl, ol, sz, h0, h1, h2, h3, h4, h5, h6⟩ := hH
  have hn := h.n1
  have hf := h.fits hg hW.2 (le := nI d) (sb := sb) (lm := lm) (fb := M.2.1 1) (fu := M.2.1 2) (fc := M.2.1 3) (P := M.2.2.1)
  exact ⟨_, _, _, zX_of (l_X9_orders l dC dI z.1.1 z.1.2.1 z.1.2.2.1 z.1.1 z.1.2.2.2.1 z.1.2.2.2.2 z.2.1 z.2.2.1 z.2.2.2.1 z.2.2.2.2.1 z.2.2.2.2.2 M.1 M.2.1 M.2.2.1 M.2.2.2.1 M.2.2.2.2.1 M.2.2.2.2.2.1 M.2.2.2.2.2.2 ol sz n bz oz tk lz nx g (nI W) (nI d) sb lm h1 h2 h3 h4 (h.t0 0) (h.t5 0) (h.t16 0) (h.t17 0) (h.t32 0) (h.t33 0) (by omega) hg (by omega) h.idx hl hlm ⟨⟨nI_le hW.1 (by omega), nI_le (by omega) (by omega)⟩, nI_le (Nat.zero_le _) (by omega), nI_le hd (by omega)⟩ h.md h.nn hf.1 (by omega) hf.2.2 hf.2.1 h.rb (by omega) (by omega)), rfl, rfl, rfl, mHp h0 h3 h4 h5 h6 hL rfl rfl rfl rfl⟩
end KACTS
