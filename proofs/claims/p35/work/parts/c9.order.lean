/-! An order. -/
theorem zi_cancel {a s g t : Int32} (h : a + (s + g) = t + s) : a = t - g := by
  have e : a + g + s = t + s := by rw [← h]; ac_rfl
  have e2 : a + g = t := by
    have := congrArg (fun x => x - s) e
    simpa only [Int32.add_sub_cancel] using this
  rw [← e2, Int32.add_sub_cancel]
section ORDER
variable {n bz oz tk lz nx dy : Nat} {T : Nat → Nat → Int32} {kg W lm : Nat} {le sb : Int32} {fb fu fc fb' fu' fc' : Nat → Int32} {P P' : Nat → UInt32}
theorem Iv.p1 (h : Iv n bz oz tk lz nx dy T) {g : Nat} (hg : g < n) : ∃ p : Nat, (1 ≤ p ∧ p ≤ 9999) ∧ T 1 g = nI p := (h.G hg).1
theorem Iv.s31 (h : Iv n bz oz tk lz nx dy T) {s : Nat} (hs : s < 4) : T 31 s = xT0 31 s := (h.2.1.2.2 s hs).2
theorem Iv.pr (h : Iv n bz oz tk lz nx dy T) {b : Nat} (hb : b < bz) : zQ (xpr T b) (9999 * 2 ^ 149) := by
  obtain ⟨g1, -⟩ := h.gb hb
  obtain ⟨p, p1, p2⟩ := h.p1 g1
  have hs := xstg_lt (T 30) (T 8) (T 2) (T 6) b
  show zQ (xprice (T 1 (T 6 b).toNatClampNeg) (xf1 (T 31 (xstg (T 30) (T 8) (T 2) (T 6) b)))) _
  rw [p2, h.s31 hs]
  exact zQ_price p1.2 hs
theorem Iv.hc (h : Iv n bz oz tk lz nx dy T) (hk : kg < n) : ∀ b t : Nat, b < bz → 1 ≤ t → t ≤ 90 → ∃ c : Nat, c ≤ 9999 * t ∧ FP.f2i (FP.fmul (FP.i2f (nI t)) (xcharge (T 1 kg) (T 1 (T 6 b).toNatClampNeg) (xfu (xpr T) P bz b))) = nI c := fun b t hb _ ht => by
  obtain ⟨a, a1, a2⟩ := h.p1 hk
  rw [a2]
  refine zQ_cents (by omega) (zQ_charge a1.2 ?_)
  show zQ (if b < bz then xpr T b else P b) _
  rw [if_pos hb]
  exact h.pr hb
theorem Iv.md (h : Iv n bz oz tk lz nx dy T) : ∀ j, j < 4 → xmd (xfl (T 31) j) := fun j hj => by
  obtain ⟨m, m1, m2⟩ := z31 hj
  show xmd (xf1 (T 31 j))
  rw [h.s31 hj, m2]
  exact xmd_bits m1
theorem Iv.nn (h : Iv n bz oz tk lz nx dy T) : xnn (T 6) (xfu (xpr T) P bz) (T 1) kg bz := fun b hb t => by
  have hs := xstg_lt (T 30) (T 8) (T 2) (T 6) b
  obtain ⟨m, m1, m2⟩ := z31 hs
  refine xfmul_n (xcharge_mag ?_)
  show (if b < bz then xpr T b else P b).toNat % 2 ^ 31 < _
  rw [if_pos hb]
  show (xprice _ (xf1 (T 31 _))).toNat % 2 ^ 31 < _
  rw [h.s31 hs, m2]
  exact xprice_mag m1 _
theorem Iv.rbt (h : Iv n bz oz tk lz nx dy T) : ∃ rb : Nat, (rb = 0 ∨ rb = 1092616192) ∧ ∀ k, T 39 k = nI rb := h.2.1.1
theorem Iv.rb (h : Iv n bz oz tk lz nx dy T) : xrb (xf1 (T 39 0)) := by
  obtain ⟨rb, r1, r2⟩ := h.rbt
  rw [r2]
  exact xrb_bits (by omega)
theorem Iv.f1 (h : Iv n bz oz tk lz nx dy T) (hk : kg < n) (hW : W ≤ 400) : zN W (T 9) bz (xF1 T le (nI W) kg bz fb fu fc P) :=
  zk_ind (Q := zN W (T 9) bz) (fun F b q hg hb ho => zN.step (by omega) (h.hc hk) F b q hg hb ho) 40 _ (zN.start fun b hb => h.u hb)
theorem Iv.f2 (h : Iv n bz oz tk lz nx dy T) (hk : kg < n) (hW : W ≤ 400) : ∃ G1 G : Nat, (xF1 T le (nI W) kg bz fb fu fc P).2.1 = nI G1 ∧ (xF2 T le (nI W) sb kg bz lm fb fu fc P).2.1 = nI G ∧ G1 ≤ G ∧ G ≤ W ∧ zN W (T 9) bz (xF2 T le (nI W) sb kg bz lm fb fu fc P) := by
  have z := h.f1 hk hW (le := le) (fb := fb) (fu := fu) (fc := fc) (P := P)
  obtain ⟨G1, C, g1, g2, -⟩ := id z
  obtain ⟨a, G, b1, b2, b3⟩ := zu_more (good := T 6) (left := T 8) (pric := xfu (xpr T) P bz) (price := T 1) (rule := T 38 0) (le := le) (og := kg) (list := T 4) (base := kg * 4) (by omega) (h.hc hk) z g1 g2 (if sb = 0 then 0 else lm)
  exact ⟨G1, G, g1, b3, b1, b2, a⟩
/-- the same, whatever stood in the filling's rows -/
theorem zF1_same : zR (xF1 T le (nI W) kg bz fb fu fc P) (xF1 T le (nI W) kg bz fb' fu' fc' P') :=
  zR.tk (fun b hb => by
    show (if b < bz then xpr T b else P b) = (if b < bz then xpr T b else P' b)
    rw [if_pos hb, if_pos hb]) 40 _ _ ⟨rfl, rfl, rfl, fun j hj => absurd hj (Nat.not_lt_zero j)⟩
theorem zF2_same : zR (xF2 T le (nI W) sb kg bz lm fb fu fc P) (xF2 T le (nI W) sb kg bz lm fb' fu' fc' P') :=
  zR.subs (fun b hb => by
    show (if b < bz then xpr T b else P b) = (if b < bz then xpr T b else P' b)
    rw [if_pos hb, if_pos hb]) zF1_same _
theorem Iv.fend (h : Iv n bz oz tk lz nx dy T) (hg : (xF2 T le (nI W) sb kg bz lm fb fu fc P).2.1 < nI W) : zcl (T 6) (T 8) le bz (nI kg) (xF2 T le (nI W) sb kg bz lm fb fu fc P).2.2.2.2.2 ∧ (¬ sb = 0 → ∀ j, j < lm → zcl (T 6) (T 8) le bz (T 4 (kg * 4 + j)) (xF2 T le (nI W) sb kg bz lm fb fu fc P).2.2.2.2.2) := by
  obtain ⟨a, b⟩ := zu_end (good := T 6) (left := T 8) (pric := xfu (xpr T) P bz) (price := T 1) (rule := T 38 0) (le := le) (og := kg) (list := T 4) (base := kg * 4) (wa := nI W) (w0 := nI kg) h.n1.2.1 (F0 := (0, nI 0, fb, fu, fc, T 9)) (xfi_0 _ _ _ rfl) (if sb = 0 then 0 else lm) hg
  exact ⟨a, fun hs j hj => b j (by rw [if_neg hs]; exact hj)⟩
/-- nothing to get -/
theorem zno {T' : Nat → Nat → Int32} {rest : Nat → Int32} (h1 : T' 6 = T 6) (h2 : T' 8 = T 8) (h3 : T' 4 = T 4) (h4 : T' 9 = rest) (a : zcl (T 6) (T 8) le bz (nI kg) rest) (b : ¬ sb = 0 → ∀ j, j < lm → zcl (T 6) (T 8) le bz (T 4 (kg * 4 + j)) rest) : (xF2 T' le (nI W) sb kg bz lm fb fu fc P).2.1 = nI 0 := by
  unfold xF2 xF1
  rw [h1, h2, h3, h4, zk_none (F := (0, nI 0, fb, fu, fc, rest)) a 40, zu_none]
  intro j hj
  by_cases hs : sb = 0
  · rw [if_pos hs] at hj
    exact absurd hj (Nat.not_lt_zero j)
  · rw [if_neg hs] at hj
    exact b hs j hj
/-- what an order leaves -/
def zOrd (n bz oz tk : Nat) (T T' : Nat → Nat → Int32) (kg : Nat) (un le : Int32) (dy lz' nx' : Nat) (F G : XF) : Prop :=
  T' 20 oz = F.2.1 ∧ T' 21 oz = F.2.1 - G.2.1 ∧ T' 24 oz = nI F.1 ∧ T' 25 oz = xdue (xsum F.2.2.2.2.1 F.1) (xf1 (T 39 0)) ∧ T' 18 oz = nI kg ∧ T' 19 oz = un ∧ T' 22 oz = le ∧ T' 26 oz = nI dy ∧ T' 27 oz = nI tk ∧
  xsum (T' 9) bz = xsum (T 9) bz - F.2.1 ∧ T' 9 = F.2.2.2.2.2 ∧ (F.1 ≠ 0 → 1 ≤ lz' ∧ T' 34 ((nx' + 9) % 10) = nI 1 ∧ T' 35 ((nx' + 9) % 10) = T' 28 (tk + (F.1 - 1)) ∧ T' 36 ((nx' + 9) % 10) = T' 29 (tk + (F.1 - 1)))
theorem Iv.fits (h : Iv n bz oz tk lz nx dy T) (hk : kg < n) (hW : W ≤ 400) : (xF2 T le (nI W) sb kg bz lm fb fu fc P).1 ≤ 40 ∧ tk + (xF2 T le (nI W) sb kg bz lm fb fu fc P).1 ≤ 70 ∧ xidx (xF2 T le (nI W) sb kg bz lm fb fu fc P).2.2.1 40 (xF2 T le (nI W) sb kg bz lm fb fu fc P).1 := by
  obtain ⟨G1, G, -, -, -, -, z⟩ := h.f2 hk hW (le := le) (sb := sb) (lm := lm) (fb := fb) (fu := fu) (fc := fc) (P := P)
  obtain ⟨G', C, -, -, -, -, -, -, z7, z8, -⟩ := z
  have hn := h.n1
  have := h.1.2.1
  have := zopn_all (T 9) bz
  have : (if G' < W then 0 else 1) ≤ 1 := by split <;> omega
  refine ⟨by omega, by omega, fun j hj => ?_⟩
  obtain ⟨b, u, b1, b2, -⟩ := z8 j hj
  rw [b2, nI_clamp (by omega)]
  exact ⟨by omega, rfl⟩
theorem Iv.order (h : Iv n bz oz tk lz nx dy T) (ho : oz < 16) (hk : kg < n) (hW : W ≤ 400) {F G : XF} {q : XS} (hF : F = xF2 T le (nI W) sb kg bz lm fb fu fc P) (hG : G = xF1 T le (nI W) kg bz fb fu fc P) (hq : q = odQ T oz tk lz nx F) :
    Iv n bz (oz + 1) (tk + F.1) q.2.2.2.2.2.2.2.1 q.2.2.2.2.2.2.2.2.1 dy (odT T n bz oz tk kg (nI W) le sb F G q) ∧ zOrd n bz oz tk T (odT T n bz oz tk kg (nI W) le sb F G q) kg (nI W) le dy q.2.2.2.2.2.2.2.1 q.2.2.2.2.2.2.2.2.1 F G := by
  have hn := h.n1
  have hz := h.1.2.1
  obtain ⟨G1, Gx, e1, e2, e3, e4, z⟩ := h.f2 hk hW (le := le) (sb := sb) (lm := lm) (fb := fb) (fu := fu) (fc := fc) (P := P)
  rw [← hG] at e1
  rw [← hF] at e2 z
  -- the shelf behind the sale
  have hR : zSR (T 40 0) (oz + 1) (T 9, T 10, T 12, T 24, T 28, T 29, tk, lz, nx, T 34, T 35, T 36, T 37) F := by
    rw [hF]
    refine zu_ind (Q := zSR (T 40 0) (oz + 1) (T 9, T 10, T 12, T 24, T 28, T 29, tk, lz, nx, T 34, T 35, T 36, T 37)) (fun w F b q hg hb ho => q.step (by omega)) ?_ _
    exact zk_ind (Q := zSR (T 40 0) (oz + 1) (T 9, T 10, T 12, T 24, T 28, T 29, tk, lz, nx, T 34, T 35, T 36, T 37)) (fun F b q hg hb ho => q.step (by omega)) 40 _ rfl
  have q1 : q.1 = F.2.2.2.2.2 := by rw [hq]; exact hR
  obtain ⟨s1, s2, s3, s4, s5, s6, s7, s8, s9⟩ := zx_sell (day := T 40 0) (m := oz + 1) (fb := F.2.2.1) (fu := F.2.2.2.1) (fc := F.2.2.2.2.1) (q0 := (T 9, T 10, T 12, T 24, T 28, T 29, tk, lz, nx, T 34, T 35, T 36, T 37)) ⟨hn.2.2.2.1, hn.2.2.2.2.1⟩ F.1
  rw [show xsell (T 40 0) (oz + 1) F.2.2.1 F.2.2.2.1 F.2.2.2.2.1 (T 9, T 10, T 12, T 24, T 28, T 29, tk, lz, nx, T 34, T 35, T 36, T 37) F.1 = q from hq.symm] at s1 s2 s3 s4 s5 s6 s7 s8 s9
  have s1 : ∀ b, q.1 b + q.2.1 b = T 9 b + T 10 b := s1
  have s2 : q.2.2.2.1 oz = T 24 oz + nI F.1 := s2
  have s3 : ∀ o, o ≠ oz → q.2.2.2.1 o = T 24 o := s3
  have s4 : q.2.2.2.2.2.2.1 = tk + F.1 := s4
  have s5 : ∀ j, j < tk → q.2.2.2.2.2.1 j = T 29 j := s5
  have s6 : ∀ j, j < F.1 → q.2.2.2.2.1 (tk + j) = nI (F.2.2.1 j).toNatClampNeg ∧ q.2.2.2.2.2.1 (tk + j) = F.2.2.2.1 j := s6
  obtain ⟨G', C, z1, z2, z3, z4, z5, z6, z7, z8, z9, z10, z11⟩ := z
  have eG : G' = Gx := nI_inj (by omega) (by omega) (z1.symm.trans e2)
  subst eG
  obtain ⟨t1, t2, t3⟩ := s9 bz fun j hj => by
    obtain ⟨b, u, b1, b2, -⟩ := z8 j hj
    rw [b2, nI_clamp (by omega)]
    exact b1
  have t1 : xsum q.2.1 bz = xsum (T 10) bz + nI G' := by rw [t1, z9]
  have t2 : xsum q.2.2.1 bz = xsum (T 12) bz + nI C := by rw [t2, z10]
  have t3 : ∀ b, bz ≤ b → q.1 b = T 9 b ∧ q.2.1 b = T 10 b ∧ q.2.2.1 b = T 12 b := t3
  have hp0 : T 24 oz = nI 0 := h.2.2.2.2.2.2.1 oz (Nat.le_refl _) (by omega)
  have s2 : q.2.2.2.1 oz = nI F.1 := by rw [s2, hp0, nI_add, Nat.zero_add]
  obtain ⟨rb, r1, r2⟩ := h.rbt
  obtain ⟨dd, d1, d2⟩ := zdue (s := C) (rb := rb) (by omega) r1
  have hdue : xdue (xsum F.2.2.2.2.1 F.1) (xf1 (T 39 0)) = nI dd := by rw [z10, r2]; exact d2
  have hsum : xsum q.1 bz = xsum (T 9) bz - nI G' := by
    refine zi_cancel (s := xsum (T 10) bz) ?_
    rw [← t1, ← zs_add, ← zs_add]
    exact zs_congr bz fun b _ => s1 b
  obtain ⟨i1, iC, iG, iB, iZ, iO, iP, X, C0, D, ⟨x0, x1, x2⟩, x3, x4, x5, x6⟩ := h
  refine ⟨⟨⟨⟨hn.1, hn.2.1, by omega, s7.1, s7.2, hn.2.2.2.2.2⟩, ?_, fun k => ⟨rfl, rfl, rfl, by rw [← s4]; rfl, rfl, rfl, (i1.2.2 k).2.2.2.2.2.2⟩⟩, iC, iG, fun b hb => ?_, fun b h4 h5 => ?_, fun o ho9 => ?_, fun o h4 h5 => ?_, X + G', C0 + C, D + dd, by omega, ?_, ?_, ?_, ?_⟩, ?_⟩
  · show tk + F.1 + zopn q.1 bz ≤ bz + (oz + 1)
    rw [q1]
    have : (if G' < W then 0 else 1) ≤ 1 := by split <;> omega
    omega
  · obtain ⟨b1, ⟨d, d3, d4, d5⟩, -, b4⟩ := iB b hb
    obtain ⟨u, r, u1, u2, u3, u4⟩ := z5 b hb
    show (∃ g : Nat, g < n ∧ T 6 b = nI g) ∧ (∃ d' : Nat, d' ≤ 20 ∧ T 8 b = nI d' ∧ (q.1 b ≠ nI 0 → 1 ≤ d')) ∧ (∃ u' : Nat, u' ≤ 90 ∧ q.1 b = nI u') ∧ T 7 b = q.1 b + q.2.1 b + T 11 b + (T 13 b + T 14 b + T 15 b)
    refine ⟨b1, ⟨d, d3, d4, fun z => d5 fun e => z ?_⟩, ⟨r, by omega, by rw [q1]; exact u4⟩, by rw [s1 b]; exact b4⟩
    rw [u3] at e
    have := nI_inj (by omega) (by omega) e
    rw [q1, u4, show r = 0 by omega]
  · obtain ⟨a9, a10, a11, a12, a13, a14, a15⟩ := iZ b h4 h5
    obtain ⟨k1, k2, k3⟩ := t3 b h4
    exact ⟨k1.trans a9, k2.trans a10, a11, k3.trans a12, a13, a14, a15⟩
  · show (∃ g : Nat, g < n ∧ upd (T 18) oz (nI kg) o = nI g) ∧ (∃ w G rp : Nat, (rp ≤ G ∧ G ≤ w ∧ w ≤ 400) ∧ upd (T 19) oz (nI W) o = nI w ∧ upd (T 20) (oz + 1 - 1) F.2.1 o = nI G ∧ upd (T 21) (oz + 1 - 1) (F.2.1 - _) o = nI rp) ∧ ∃ ft pt : Nat, ft + pt ≤ tk + F.1 ∧ upd (T 27) oz (nI tk) o = nI ft ∧ q.2.2.2.1 o = nI pt ∧ xsum (fun p => q.2.2.2.2.2.1 (ft + p)) pt = upd (T 20) (oz + 1 - 1) F.2.1 o
    rw [Nat.add_sub_cancel]
    by_cases e : o = oz
    · subst e
      rw [upd_at, upd_at, upd_at, upd_at, upd_at, s2, e1, e2, nI_sub e3]
      refine ⟨⟨kg, hk, rfl⟩, ⟨W, G', G' - G1, by omega, rfl, rfl, rfl⟩, tk, F.1, Nat.le_refl _, rfl, rfl, ?_⟩
      rw [← z9]
      exact zs_congr F.1 fun j hj => (s6 j hj).2
    · rw [upd_ne _ _ e, upd_ne _ _ e, upd_ne _ _ e, upd_ne _ _ e, upd_ne _ _ e, s3 o e]
      obtain ⟨o1, o2, ft, pt, o3, o4, o5, o6⟩ := iO o (by omega)
      refine ⟨o1, o2, ft, pt, by omega, o4, o5, ?_⟩
      rw [← o6]
      exact zs_congr pt fun p hp => s5 _ (by omega)
  · show q.2.2.2.1 o = nI 0
    rw [s3 o (by omega)]
    exact iP o (by omega) h5
  · show xsum q.2.1 bz = _
    rw [t1, x3, nI_add]
  · show xsum (upd (T 20) (oz + 1 - 1) F.2.1) oz + upd (T 20) (oz + 1 - 1) F.2.1 oz = _
    rw [Nat.add_sub_cancel, upd_at, zs_upd_out _ _ _ oz (Nat.le_refl _), x4, e2, nI_add]
  · show xsum q.2.2.1 bz = _
    rw [t2, x5, nI_add]
  · show xsum (upd (T 25) (oz + 1 - 1) (xdue (xsum F.2.2.2.2.1 F.1) (xf1 (T 39 0)))) oz + upd (T 25) (oz + 1 - 1) (xdue (xsum F.2.2.2.2.1 F.1) (xf1 (T 39 0))) oz = _
    rw [Nat.add_sub_cancel, upd_at, zs_upd_out _ _ _ oz (Nat.le_refl _), x6, hdue, nI_add]
  · refine ⟨upd_at _ _ _, upd_at _ _ _, s2, upd_at _ _ _, upd_at _ _ _, upd_at _ _ _, upd_at _ _ _, (upd_at _ _ _).trans (i1.2.2 0).2.2.2.2.2.2, upd_at _ _ _, ?_, q1, fun hf => ?_⟩
    · show xsum q.1 bz = _
      rw [hsum, e2]
    · obtain ⟨l1, l2, l3, l4⟩ := s8 (by omega)
      obtain ⟨m1, m2⟩ := s6 (F.1 - 1) (by omega)
      exact ⟨l1, l2, l3.trans m1.symm, l4.trans m2.symm⟩
end ORDER
