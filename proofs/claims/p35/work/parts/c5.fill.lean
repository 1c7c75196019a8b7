/-! What an order gets: its numbers, its end. -/
section FILL2
variable {good left : Nat → Int32} {pric : Nat → UInt32} {price : Nat → Int32} {rule le : Int32} {og n : Nat}
theorem zN.take {W : Nat} {sh : Nat → Int32} {F : XF} (hW : W ≤ 1000) (h : zN W sh n F) (hg : F.2.1 < nI W) {b : Nat} (hb : b < n) (hr : ¬ F.2.2.2.2.2 b ≤ 0) : ∃ G t r : Nat, F.2.1 = nI G ∧ G < W ∧ F.2.2.2.2.2 b = nI r ∧ r ≤ 90 ∧ 1 ≤ t ∧ t ≤ r ∧ G + t ≤ W ∧ (t = r ∨ G + t = W) ∧ xtkn (nI W) F b = nI t := by
  obtain ⟨G, C, h1, h2, -, -, h5, -⟩ := h
  obtain ⟨u, r, a1, a2, a3, a4⟩ := h5 b hb
  rw [h1] at hg
  have hG := (nI_lt_iff (by omega) (by omega)).mp hg
  have r0 : r ≠ 0 := fun q => hr (by rw [a4, q]; decide)
  refine ⟨G, min (W - G) r, r, h1, hG, a4, by omega, by omega, Nat.min_le_right _ _, by omega, by omega, ?_⟩
  unfold xtkn
  rw [a4, h1, nI_sub (by omega), nI_min (by omega) (by omega)]
theorem zN.start {W : Nat} {sh fb fu fc : Nat → Int32} (h : ∀ b, b < n → ∃ u : Nat, u ≤ 90 ∧ sh b = nI u) : zN W sh n (0, nI 0, fb, fu, fc, sh) :=
  ⟨0, 0, rfl, Nat.zero_le _, Nat.le_refl _, Nat.le_refl _, fun b hb => by
    obtain ⟨u, h1, h2⟩ := h b hb
    exact ⟨u, u, Nat.le_refl _, h1, h2, h2⟩, fun b _ => rfl, by show 0 + zopn sh n ≤ _; omega, fun j hj => absurd hj (Nat.not_lt_zero j), rfl, rfl, fun _ => rfl⟩
theorem zN.step {W : Nat} {sh : Nat → Int32} (hW : W ≤ 1000) (hc : ∀ b t : Nat, b < n → 1 ≤ t → t ≤ 90 → ∃ c : Nat, c ≤ 9999 * t ∧ FP.f2i (FP.fmul (FP.i2f (nI t)) (xcharge (price og) (price (good b).toNatClampNeg) (pric b))) = nI c)
    {w : Int32} (F : XF) (b : Nat) (h : zN W sh n F) (hg : F.2.1 < nI W) (hb : b < n) (ho : xopen good left F.2.2.2.2.2 le w b) : zN W sh n (xft good pric price (nI W) og F b) := by
  obtain ⟨G, t, r, t1, t2, t3, t4, t5, t6, t7, t8, t9⟩ := h.take hW hg hb ho.2.1
  obtain ⟨G', C, h1, h2, h3, h4, h5, h6, h7, h8, h9, h10, -⟩ := h
  have eG : G' = G := nI_inj (by omega) (by omega) (h1.symm.trans t1)
  subst eG
  obtain ⟨c, c1, c2⟩ := hc b t hb t5 (by omega)
  have ex : xft good pric price (nI W) og F b = (F.1 + 1, nI (G' + t), upd F.2.2.1 F.1 (nI b), upd F.2.2.2.1 F.1 (nI t), upd F.2.2.2.2.1 F.1 (nI c), upd F.2.2.2.2.2 b (nI (r - t))) := by
    unfold xft
    rw [t9, c2, t3, nI_sub t6, h1, nI_add]
  rw [ex]
  refine ⟨G' + t, C + c, rfl, t7, by show F.1 + 1 ≤ _; omega, by omega, fun j hj => ?_, fun j hj => ?_, ?_, fun j hj => ?_, ?_, ?_, fun q => absurd q (Nat.succ_ne_zero _)⟩
  · obtain ⟨u, r', a1, a2, a3, a4⟩ := h5 j hj
    by_cases e : j = b
    · subst e
      have : r' = r := nI_inj (by omega) (by omega) (a4.symm.trans t3)
      subst this
      exact ⟨u, r' - t, by omega, a2, a3, upd_at _ _ _⟩
    · exact ⟨u, r', a1, a2, a3, (upd_ne _ _ e).trans a4⟩
  · show upd F.2.2.2.2.2 b _ j = _
    rw [upd_ne _ _ (by omega)]
    exact h6 j hj
  · show F.1 + 1 + zopn (upd F.2.2.2.2.2 b (nI (r - t))) n ≤ _
    have hz := zopn_upd (f := F.2.2.2.2.2) (b := b) (v := nI (r - t)) n
    rw [if_pos ⟨hb, fun q => ho.2.1 (by rw [q]; decide)⟩] at hz
    rw [if_pos t2] at h7
    by_cases e : r - t = 0
    · rw [if_neg fun q => q.2 (by rw [e])] at hz
      omega
    · have : ¬ G' + t < W := by omega
      rw [if_neg this]
      have : (if b < n ∧ nI (r - t) ≠ nI 0 then 1 else 0) ≤ 1 := by split <;> omega
      omega
  · have hj : j < F.1 + 1 := hj
    by_cases e : j = F.1
    · subst e
      exact ⟨b, t, hb, upd_at _ _ _, upd_at _ _ _⟩
    · obtain ⟨b', u', q1, q2, q3⟩ := h8 j (by omega)
      exact ⟨b', u', q1, (upd_ne _ _ e).trans q2, (upd_ne _ _ e).trans q3⟩
  · show xsum (upd F.2.2.2.1 F.1 (nI t)) F.1 + upd F.2.2.2.1 F.1 (nI t) F.1 = _
    rw [zs_upd_out _ _ _ _ (Nat.le_refl _), upd_at, h9, nI_add]
  · show xsum (upd F.2.2.2.2.1 F.1 (nI c)) F.1 + upd F.2.2.2.2.1 F.1 (nI c) F.1 = _
    rw [zs_upd_out _ _ _ _ (Nat.le_refl _), upd_at, h10, nI_add]
theorem zcl.step {w w' wa : Int32} {F : XF} {b : Nat} (h : zcl good left le n w' F.2.2.2.2.2) (ho : xopen good left F.2.2.2.2.2 le w b) : zcl good left le n w' (xft good pric price wa og F b).2.2.2.2.2 := by
  intro j hj hx
  refine h j hj ⟨hx.1, ?_, hx.2.2⟩
  by_cases e : j = b
  · subst e; exact ho.2.1
  · have h2 : ¬ upd F.2.2.2.2.2 b (F.2.2.2.2.2 b - xtkn wa F b) j ≤ 0 := hx.2.1
    rw [upd_ne _ _ e] at h2
    exact h2
/-- what is short is nowhere -/
theorem zu_end {list : Nat → Int32} {base : Nat} {wa w0 : Int32} (hn : n ≤ 16) {F0 : XF} (hi : xfi n wa F0) : ∀ k : Nat,
    (xsubs good left pric price rule le wa og n list base (xtk good left pric price rule le wa og n w0 40 F0) k).2.1 < wa →
    zcl good left le n w0 (xsubs good left pric price rule le wa og n list base (xtk good left pric price rule le wa og n w0 40 F0) k).2.2.2.2.2 ∧
    ∀ j, j < k → zcl good left le n (list (base + j)) (xsubs good left pric price rule le wa og n list base (xtk good left pric price rule le wa og n w0 40 F0) k).2.2.2.2.2
  | 0 => fun h => ⟨zk_end hn 40 F0 hi (by omega) h, fun j hj => absurd hj (Nat.not_lt_zero j)⟩
  | k + 1 => fun h => by
    have h : (xtk good left pric price rule le wa og n (list (base + k)) 40 (xsubs good left pric price rule le wa og n list base (xtk good left pric price rule le wa og n w0 40 F0) k)).2.1 < wa := h
    have key : ∀ w', ((xsubs good left pric price rule le wa og n list base (xtk good left pric price rule le wa og n w0 40 F0) k).2.1 < wa → zcl good left le n w' (xsubs good left pric price rule le wa og n list base (xtk good left pric price rule le wa og n w0 40 F0) k).2.2.2.2.2) → zcl good left le n w' (xtk good left pric price rule le wa og n (list (base + k)) 40 (xsubs good left pric price rule le wa og n list base (xtk good left pric price rule le wa og n w0 40 F0) k)).2.2.2.2.2 := fun w' hq =>
      zk_ind (Q := fun F => F.2.1 < wa → zcl good left le n w' F.2.2.2.2.2) (fun F b q hg _ ho _ => (q hg).step ho) 40 _ hq h
    refine ⟨key w0 fun q => (zu_end hn hi k q).1, fun j hj => ?_⟩
    by_cases e : j = k
    · subst e
      exact zk_end hn 40 _ (zu_fi (by omega) (xfi_xtk (by omega) hi) j) (by omega) h
    · exact key _ fun q => (zu_end hn hi k q).2 j (by omega)
/-- the first takes are among all -/
theorem zu_more {list : Nat → Int32} {base W G1 : Nat} {sh : Nat → Int32} (hW : W ≤ 1000) (hc : ∀ b t : Nat, b < n → 1 ≤ t → t ≤ 90 → ∃ c : Nat, c ≤ 9999 * t ∧ FP.f2i (FP.fmul (FP.i2f (nI t)) (xcharge (price og) (price (good b).toNatClampNeg) (pric b))) = nI c) {F : XF} (h : zN W sh n F) (hG : F.2.1 = nI G1) (hG1 : G1 ≤ W) (k : Nat) :
    zN W sh n (xsubs good left pric price rule le (nI W) og n list base F k) ∧ ∃ G : Nat, G1 ≤ G ∧ G ≤ W ∧ (xsubs good left pric price rule le (nI W) og n list base F k).2.1 = nI G := by
  refine zu_ind (Q := fun F => zN W sh n F ∧ ∃ G : Nat, G1 ≤ G ∧ G ≤ W ∧ F.2.1 = nI G) (fun w F b q hg hb ho => ?_) ⟨h, G1, Nat.le_refl _, hG1, hG⟩ k
  obtain ⟨q1, G, q2, q4, q3⟩ := q
  obtain ⟨G', t, r, t1, t2, t3, t4, t5, t6, t7, t8, t9⟩ := q1.take hW hg hb ho.2.1
  have eG : G' = G := nI_inj (by omega) (by omega) (t1.symm.trans q3)
  refine ⟨zN.step hW hc F b q1 hg hb ho, G' + t, by omega, t7, ?_⟩
  · show F.2.1 + xtkn (nI W) F b = _
    rw [t1, t9, nI_add]
end FILL2
/-! Selling. -/
section SELL
variable {day : Int32} {m : Nat}
theorem zx_sell_congr {fb fu fc fb' fu' fc' : Nat → Int32} {q0 : XS} : ∀ k : Nat, (∀ j, j < k → fb j = fb' j ∧ fu j = fu' j ∧ fc j = fc' j) → xsell day m fb fu fc q0 k = xsell day m fb' fu' fc' q0 k
  | 0, _ => rfl
  | k + 1, h => by
    obtain ⟨h1, h2, h3⟩ := h k (by omega)
    show xsell1 day m (xsell day m fb fu fc q0 k) (fb k).toNatClampNeg (fu k) (fc k) = xsell1 day m (xsell day m fb' fu' fc' q0 k) (fb' k).toNatClampNeg (fu' k) (fc' k)
    rw [zx_sell_congr k fun j hj => h j (by omega), h1, h2, h3]
/-- a shelf behind selling is what rests -/
def zSR (day : Int32) (m : Nat) (q0 : XS) (F : XF) : Prop := (xsell day m F.2.2.1 F.2.2.2.1 F.2.2.2.2.1 q0 F.1).1 = F.2.2.2.2.2
theorem zSR.step {good : Nat → Int32} {pric : Nat → UInt32} {price : Nat → Int32} {wa : Int32} {og : Nat} {q0 : XS} {F : XF} {b : Nat} (hb : b < 40) (h : zSR day m q0 F) : zSR day m q0 (xft good pric price wa og F b) := by
  unfold zSR
  show (xsell1 day m (xsell day m (upd F.2.2.1 F.1 (nI b)) (upd F.2.2.2.1 F.1 (xtkn wa F b)) (upd F.2.2.2.2.1 F.1 _) q0 F.1) (upd F.2.2.1 F.1 (nI b) F.1).toNatClampNeg (upd F.2.2.2.1 F.1 (xtkn wa F b) F.1) _).1 = upd F.2.2.2.2.2 b (F.2.2.2.2.2 b - xtkn wa F b)
  rw [upd_at, upd_at, nI_clamp (by omega), zx_sell_congr (fb' := F.2.2.1) (fu' := F.2.2.2.1) (fc' := F.2.2.2.2.1) F.1 fun j hj => ⟨upd_ne _ _ (by omega), upd_ne _ _ (by omega), upd_ne _ _ (by omega)⟩]
  show upd (xsell day m F.2.2.1 F.2.2.2.1 F.2.2.2.2.1 q0 F.1).1 b _ = _
  rw [h]
/-- what selling k parts does -/
def zSell (q0 q : XS) (m k : Nat) (fb fu fc : Nat → Int32) : Prop :=
  (∀ b, q.1 b + q.2.1 b = q0.1 b + q0.2.1 b) ∧ (q.2.2.2.1 (m - 1) = q0.2.2.2.1 (m - 1) + nI k) ∧ (∀ o, o ≠ m - 1 → q.2.2.2.1 o = q0.2.2.2.1 o) ∧ q.2.2.2.2.2.2.1 = q0.2.2.2.2.2.2.1 + k ∧
  (∀ j, j < q0.2.2.2.2.2.2.1 → q.2.2.2.2.2.1 j = q0.2.2.2.2.2.1 j) ∧ (∀ j, j < k → q.2.2.2.2.1 (q0.2.2.2.2.2.2.1 + j) = nI (fb j).toNatClampNeg ∧ q.2.2.2.2.2.1 (q0.2.2.2.2.2.2.1 + j) = fu j) ∧
  (q.2.2.2.2.2.2.2.1 ≤ 10 ∧ q.2.2.2.2.2.2.2.2.1 < 10) ∧ (1 ≤ k → 1 ≤ q.2.2.2.2.2.2.2.1 ∧ q.2.2.2.2.2.2.2.2.2.1 ((q.2.2.2.2.2.2.2.2.1 + 9) % 10) = nI 1 ∧ q.2.2.2.2.2.2.2.2.2.2.1 ((q.2.2.2.2.2.2.2.2.1 + 9) % 10) = nI (fb (k - 1)).toNatClampNeg ∧ q.2.2.2.2.2.2.2.2.2.2.2.1 ((q.2.2.2.2.2.2.2.2.1 + 9) % 10) = fu (k - 1)) ∧
  (∀ n, (∀ j, j < k → (fb j).toNatClampNeg < n) → xsum q.2.1 n = xsum q0.2.1 n + xsum fu k ∧ xsum q.2.2.1 n = xsum q0.2.2.1 n + xsum fc k ∧ ∀ b, n ≤ b → q.1 b = q0.1 b ∧ q.2.1 b = q0.2.1 b ∧ q.2.2.1 b = q0.2.2.1 b)
theorem zx_sell {fb fu fc : Nat → Int32} {q0 : XS} (hl : q0.2.2.2.2.2.2.2.1 ≤ 10 ∧ q0.2.2.2.2.2.2.2.2.1 < 10) : ∀ k : Nat, zSell q0 (xsell day m fb fu fc q0 k) m k fb fu fc
  | 0 => ⟨fun b => rfl, (Int32.add_zero _).symm, fun o _ => rfl, rfl, fun j _ => rfl, fun j hj => absurd hj (Nat.not_lt_zero j), hl, fun q => by omega, fun n _ => ⟨(Int32.add_zero _).symm, (Int32.add_zero _).symm, fun b _ => ⟨rfl, rfl, rfl⟩⟩⟩
  | k + 1 => by
    obtain ⟨h1, h2, h3, h4, h5, h6, h7, -, h9⟩ := zx_sell (fb := fb) (fu := fu) (fc := fc) hl k
    obtain ⟨q, hq⟩ : ∃ q, q = xsell day m fb fu fc q0 k := ⟨_, rfl⟩
    rw [← hq] at h1 h2 h3 h4 h5 h6 h7 h9
    have e : xsell day m fb fu fc q0 (k + 1) = xsell1 day m q (fb k).toNatClampNeg (fu k) (fc k) := by rw [hq]; rfl
    rw [e]
    refine ⟨fun b => ?_, ?_, fun o ho => ?_, ?_, fun j hj => ?_, fun j hj => ?_, ⟨Nat.min_le_right _ _, Nat.mod_lt _ (by decide)⟩, fun _ => ?_, fun n hn => ?_⟩
    · show upd q.1 (fb k).toNatClampNeg (q.1 (fb k).toNatClampNeg - fu k) b + upd q.2.1 (fb k).toNatClampNeg (q.2.1 (fb k).toNatClampNeg + fu k) b = _
      by_cases eb : b = (fb k).toNatClampNeg
      · rw [← eb, upd_at, upd_at, ← h1 b, Int32.sub_eq_add_neg]
        have : q.1 b + -fu k + (q.2.1 b + fu k) = q.1 b + q.2.1 b + (-fu k + fu k) := by ac_rfl
        rw [this, Int32.add_left_neg, Int32.add_zero]
      · rw [upd_ne _ _ eb, upd_ne _ _ eb, h1 b]
    · show upd q.2.2.2.1 (m - 1) (q.2.2.2.1 (m - 1) + nI 1) (m - 1) = _
      rw [upd_at, h2, Int32.add_assoc, nI_add]
    · show upd q.2.2.2.1 (m - 1) _ o = _
      rw [upd_ne _ _ ho, h3 o ho]
    · show q.2.2.2.2.2.2.1 + 1 = _
      rw [h4]
      rfl
    · show upd q.2.2.2.2.2.1 q.2.2.2.2.2.2.1 (fu k) j = _
      rw [upd_ne _ _ (by omega), h5 j hj]
    · show upd q.2.2.2.2.1 q.2.2.2.2.2.2.1 (nI (fb k).toNatClampNeg) _ = _ ∧ upd q.2.2.2.2.2.1 q.2.2.2.2.2.2.1 (fu k) _ = _
      by_cases ej : j = k
      · subst ej
        rw [h4, upd_at, upd_at]
        exact ⟨rfl, rfl⟩
      · rw [upd_ne _ _ (by omega), upd_ne _ _ (by omega)]
        exact h6 j (by omega)
    · show 1 ≤ min (q.2.2.2.2.2.2.2.1 + 1) 10 ∧ upd q.2.2.2.2.2.2.2.2.2.1 q.2.2.2.2.2.2.2.2.1 (nI 1) (((q.2.2.2.2.2.2.2.2.1 + 1) % 10 + 9) % 10) = _ ∧ upd q.2.2.2.2.2.2.2.2.2.2.1 q.2.2.2.2.2.2.2.2.1 (nI (fb k).toNatClampNeg) (((q.2.2.2.2.2.2.2.2.1 + 1) % 10 + 9) % 10) = _ ∧ upd q.2.2.2.2.2.2.2.2.2.2.2.1 q.2.2.2.2.2.2.2.2.1 (fu k) (((q.2.2.2.2.2.2.2.2.1 + 1) % 10 + 9) % 10) = _
      rw [show ((q.2.2.2.2.2.2.2.2.1 + 1) % 10 + 9) % 10 = q.2.2.2.2.2.2.2.2.1 by omega, upd_at, upd_at, upd_at]
      exact ⟨by omega, rfl, rfl, rfl⟩
    · obtain ⟨a1, a2, a3⟩ := h9 n fun j hj => hn j (by omega)
      have hk := hn k (by omega)
      refine ⟨?_, ?_, fun b hb => ?_⟩
      · show xsum (upd q.2.1 (fb k).toNatClampNeg (q.2.1 (fb k).toNatClampNeg + fu k)) n = _ + (xsum fu k + fu k)
        rw [zs_upd _ _ _ n hk, a1, Int32.add_assoc]
      · show xsum (upd q.2.2.1 (fb k).toNatClampNeg (q.2.2.1 (fb k).toNatClampNeg + fc k)) n = _ + (xsum fc k + fc k)
        rw [zs_upd _ _ _ n hk, a2, Int32.add_assoc]
      · show upd q.1 (fb k).toNatClampNeg _ b = _ ∧ upd q.2.1 (fb k).toNatClampNeg _ b = _ ∧ upd q.2.2.1 (fb k).toNatClampNeg _ b = _
        rw [upd_ne _ _ (by omega), upd_ne _ _ (by omega), upd_ne _ _ (by omega)]
        exact a3 b hb
end SELL
