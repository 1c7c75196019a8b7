/-! What the acts do, over a state told apart. -/
section TWRAP
variable {n bz oz tk lz nx dy : Nat} (l : Launch) (dC : Nat → ClassId) (dI : Nat → Nat → Nat) (z : XK) {M : XM} {L : List (Nat → Nat → Int32)} {T : Nat → Nat → Int32}
theorem ua_bring (e : mT M = T) (h : Iv n bz oz tk lz nx dy (T)) (hH : mH M L) (hL : L.length ≤ 3) {g u d lf : Nat} (hg : g < n) (hu : 1 ≤ u ∧ u ≤ 90) (hf : T 2 g = nI lf) (hlf : lf ≤ 20) (hd : 1 ≤ d ∧ d ≤ lf) : ∃ M' : XM, zX l (dC, dI) z yX9_bring wsX9_bring [.int (nI g), .int (nI u), .int (nI d)] M M' (nI bz) ∧ mT M' = brT (T) n bz lz nx g (nI u) (nI d) ∧ mH M' (T :: L) := by
  subst e
  exact k_bring l dC dI z h hH hL hg hu hf hlf hd
theorem ua_pass (e : mT M = T) (h : Iv n bz oz tk lz nx dy (T)) (hH : mH M L) (hL : L.length ≤ 3) {dn : Nat} (hd : 1 ≤ dn ∧ dn ≤ 60) : ∃ M' : XM, zX l (dC, dI) z yX9_pass wsX9_pass [.int (nI dn)] M M' (psQ (T) bz lz nx dn).1 ∧ mT M' = psT (T) bz (psQ (T) bz lz nx dn) ∧ mH M' (T :: L) := by
  subst e
  exact k_pass l dC dI z h hH hL hd
theorem ua_exp (e : mT M = T) (h : Iv n bz oz tk lz nx dy (T)) {b dn : Nat} (hb : b < bz) (hd : 1 ≤ dn ∧ dn ≤ 60) : ∃ M' : XM, zX l (dC, dI) z yX9_wouldExpire wsX9_wouldExpire [.int (nI b), .int (nI dn)] M M' ((psQ (T) bz lz nx dn).2.2.2.2.1 b - T 13 b) ∧ mT M' = T ∧ ∀ L, mH M L → mH M' L := by
  subst e
  exact k_exp l dC dI z h hb hd
theorem ua_recall0 (e : mT M = T) (h : Iv n bz oz tk lz nx dy (T)) {g : Nat} (hg : g < n) (h0 : xsumIf (T 6) (nI g) (T 9) bz = nI 0) : zX l (dC, dI) z yX9_recall wsX9_recall [.int (nI g)] M M (-5) := by
  subst e
  exact k_recall0 l dC dI z h hg h0
theorem ua_recall (e : mT M = T) (h : Iv n bz oz tk lz nx dy (T)) (hH : mH M L) (hL : L.length ≤ 3) {g : Nat} (hg : g < n) (h9 : ¬ xsumIf (T 6) (nI g) (T 9) bz = 0) : ∃ M' : XM, zX l (dC, dI) z yX9_recall wsX9_recall [.int (nI g)] M M' (xsumIf (T 6) (nI g) (T 9) bz) ∧ mT M' = rcT (T) n bz (rcQ (T) bz lz nx g) ∧ mH M' (T :: L) := by
  subst e
  exact k_recall l dC dI z h hH hL hg h9
theorem ua_undo (e : mT M = T) {X : Nat → Nat → Int32} (hH : mH M (X :: L)) : ∃ (M' : XM) (k : Nat), zX l (dC, dI) z yX9_undo wsX9_undo [] M M' (nI k) ∧ k ≤ 3 ∧ mT M' = X ∧ mH M' L := by
  subst e
  exact k_undo l dC dI z hH
theorem ua_set (e : mT M = T) (hH : mH M L) (hL : L.length ≤ 3) {w v : Nat} (hw : w < 3) (hs : ¬ xisset (nI w) (nI v) = 0) (hv : ¬ T 38 w = nI v) : ∃ M' : XM, zX l (dC, dI) z yX9_set wsX9_set [.int (nI w), .int (nI v)] M M' (T 38 w) ∧ mT M' = xT (T) 38 (upd (T 38) w (nI v)) ∧ mH M' (T :: L) := by
  subst e
  exact k_set l dC dI z hH hL hw hs hv
theorem ua_setN (e : mT M = T) {w v : Nat} (hw : w < 3) (hs : ¬ xisset (nI w) (nI v) = 0) (hv : T 38 w = nI v) : zX l (dC, dI) z yX9_set wsX9_set [.int (nI w), .int (nI v)] M M (-5) := by
  subst e
  exact k_setN l dC dI z hw hs hv
theorem ua_reb (e : mT M = T) (hH : mH M L) (hL : L.length ≤ 3) (hr : T 39 0 = nI 0) : ∃ M' : XM, zX l (dC, dI) z yX9_setRebate wsX9_setRebate [.int (nI 1092616192)] M M' (nI 1) ∧ mT M' = xT (T) 39 (fun _ => nI 1092616192) ∧ mH M' (T :: L) := by
  subst e
  exact k_reb l dC dI z hH hL hr
theorem ua_rebN (e : mT M = T) (hr : T 39 0 = nI 0) : zX l (dC, dI) z yX9_setRebate wsX9_setRebate [.int (nI 0)] M M (-5) := by
  subst e
  exact k_rebN l dC dI z hr
theorem ua_addGood (e : mT M = T) (h0 : T 0 0 = nI n) (hH : mH M L) (hL : L.length ≤ 3) (hn : n < 12) {p m : Nat} (hp : 1 ≤ p ∧ p ≤ 9999) (hm : 1 ≤ m ∧ m ≤ 60) : ∃ M' : XM, zX l (dC, dI) z yX9_addGood wsX9_addGood [.int (nI p), .int (nI m)] M M' (nI n) ∧ mT M' = xT (xT (xT (T) 0 (fun _ => nI (n + 1))) 1 (upd (T 1) n (nI p))) 2 (upd (T 2) n (nI m)) ∧ mH M' (T :: L) := by
  subst e
  exact k_addGood l dC dI z h0 hH hL hn hp hm
theorem ua_addSub (e : mT M = T) (h0 : T 0 0 = nI n) (hH : mH M L) (hL : L.length ≤ 3) (hn : n ≤ 12) {g s lm p : Nat} (hg : g < n) (hs : s < n) (hgs : ¬ g = s) (hl : T 3 g = nI lm) (hlm : lm < 4) (hp : p ≤ lm) (hno : ¬ ∃ j, j < lm ∧ T 4 (g * 4 + j) = nI s) : ∃ M' : XM, zX l (dC, dI) z yX9_addSubstitute wsX9_addSubstitute [.int (nI g), .int (nI s), .int (nI p)] M M' (nI (lm + 1)) ∧ mT M' = xT (xT (xT (T) 0 (fun _ => nI n)) 3 (upd (T 3) g (nI (lm + 1)))) 4 (xins (T 4) (g * 4) lm p (nI s)) ∧ mH M' (T :: L) := by
  subst e
  exact k_addSub l dC dI z h0 hH hL hn hg hs hgs hl hlm hp hno
theorem ua_addSubB (e : mT M = T) (h0 : T 0 0 = nI n) (hn : n ≤ 12) {g lm p : Nat} (hg : g < n) (hl : T 3 g = nI lm) (hlm : lm ≤ 4) : zX l (dC, dI) z yX9_addSubstitute wsX9_addSubstitute [.int (nI g), .int (nI g), .int (nI p)] M M (-2) := by
  subst e
  exact k_addSubB l dC dI z h0 hn hg hl hlm
theorem ua_addSubN (e : mT M = T) (h0 : T 0 0 = nI n) (hn : n ≤ 12) {g s lm p : Nat} (hg : g < n) (hs : s < n) (hgs : ¬ g = s) (hl : T 3 g = nI lm) (hlm : lm ≤ 4) (hp : p ≤ lm) (hex : ∃ j, j < lm ∧ T 4 (g * 4 + j) = nI s) : zX l (dC, dI) z yX9_addSubstitute wsX9_addSubstitute [.int (nI g), .int (nI s), .int (nI p)] M M (-4) := by
  subst e
  exact k_addSubN l dC dI z h0 hn hg hs hgs hl hlm hp hex
theorem ua_addSubF (e : mT M = T) (h0 : T 0 0 = nI n) (hn : n ≤ 12) {g s p : Nat} (hg : g < n) (hs : s < n) (hgs : ¬ g = s) (hl : T 3 g = nI 4) (hp : p ≤ 4) (hex : ¬ ∃ j, j < 4 ∧ T 4 (g * 4 + j) = nI s) : zX l (dC, dI) z yX9_addSubstitute wsX9_addSubstitute [.int (nI g), .int (nI s), .int (nI p)] M M (-3) := by
  subst e
  exact k_addSubF l dC dI z h0 hn hg hs hgs hl hp hex
theorem ua_sin0 (e : mT M = T) (h : Iv n bz oz tk lz nx dy (T)) {b g d s : Nat} (hb : b < bz) (hg : T 6 b = nI g) (hgn : g < n) (hd : T 8 b = nI d) (hd9 : d ≤ 20) (hs : 1 ≤ s ∧ s ≤ 3) (h9 : T 9 b = 0) : zX l (dC, dI) z yX9_stageIn wsX9_stageIn [.int (nI b), .int (nI s)] M M (-5) := by
  subst e
  exact k_sin0 l dC dI z h hb hg hgn hd hd9 hs h9
theorem ua_sin (e : mT M = T) (h : Iv n bz oz tk lz nx dy (T)) {b g d s : Nat} (hb : b < bz) (hg : T 6 b = nI g) (hgn : g < n) (hd : T 8 b = nI d) (hd9 : d ≤ 20) (hs : 1 ≤ s ∧ s ≤ 3) (h9 : ¬ T 9 b = 0) : zX l (dC, dI) z yX9_stageIn wsX9_stageIn [.int (nI b), .int (nI s)] M M (xfst (fun j => xreach (T 30 1) (T 30 2) (T 30 3) (nI (d - j)) (T 2 g)) s 0 d) := by
  subst e
  exact k_sin l dC dI z h hb hg hgn hd hd9 hs h9
theorem ua_would (e : mT M = T) (h : Iv n bz oz tk lz nx dy (T)) {g W d lm w : Nat} {sb : Int32} (hg : g < n) (hW : 1 ≤ W ∧ W ≤ 400) (hd : d ≤ 60) (hl : T 3 g = nI lm) (hlm : lm ≤ 4) (hw : w ≤ 3) : ∃ M' : XM, zX l (dC, dI) z yX9_wouldGet wsX9_wouldGet [.int (nI g), .int (nI W), .int (nI d), .int sb, .int (nI w)] M M' (zwA (nI w) (T) (zwF (T) bz g lm (nI W) (nI d) sb) (zwG (T) bz g (nI W) (nI d))) ∧ mT M' = T ∧ ∀ L, mH M L → mH M' L := by
  subst e
  exact k_would l dC dI z h hg hW hd hl hlm hw
theorem ua_order (e : mT M = T) (h : Iv n bz oz tk lz nx dy (T)) (hH : mH M L) (hL : L.length ≤ 3) {g W d lm : Nat} {sb : Int32} (hg : g < n) (hW : 1 ≤ W ∧ W ≤ 400) (hd : d ≤ 60) (hl : T 3 g = nI lm) (hlm : lm ≤ 4) (ho : oz < 16) : ∃ (M' : XM) (F G : XF), zX l (dC, dI) z yX9_order wsX9_order [.int (nI g), .int (nI W), .int (nI d), .int sb] M M' F.2.1 ∧ F = xF2 (T) (nI d) (nI W) sb g bz lm (M.2.1 1) (M.2.1 2) (M.2.1 3) M.2.2.1 ∧ G = xF1 (T) (nI d) (nI W) g bz (M.2.1 1) (M.2.1 2) (M.2.1 3) M.2.2.1 ∧ mT M' = odT (T) n bz oz tk g (nI W) (nI d) sb F G (odQ (T) oz tk lz nx F) ∧ mH M' (T :: L) := by
  subst e
  exact k_order l dC dI z h hH hL hg hW hd hl hlm ho
end TWRAP
