/-! Days that pass. -/
theorem zx_exp (left : Nat → Int32) (day : Int32) (q0 : XW) : ∀ j : Nat, (∀ b, (xexp left day q0 j).2.1 b = if b < j ∧ ¬ q0.1 b ≤ 0 ∧ ¬ 0 < left b then nI 0 else q0.1 b) ∧ (∀ b, (xexp left day q0 j).2.2.1 b = if b < j ∧ ¬ q0.1 b ≤ 0 ∧ ¬ 0 < left b then q0.2.1 b + q0.1 b else q0.2.1 b) ∧ (∀ n, j ≤ n → (xexp left day q0 j).1 + xsum q0.2.1 n = xsum (xexp left day q0 j).2.2.1 n)
  | 0 => ⟨fun b => (if_neg fun q => Nat.not_lt_zero b q.1).symm, fun b => (if_neg fun q => Nat.not_lt_zero b q.1).symm, fun n _ => Int32.zero_add _⟩
  | j + 1 => by
    obtain ⟨h1, h2, h3⟩ := zx_exp left day q0 j
    have e1 : (xexp left day q0 j).2.1 j = q0.1 j := by rw [h1 j, if_neg fun q => Nat.lt_irrefl j q.1]
    have e2 : (xexp left day q0 j).2.2.1 j = q0.2.1 j := by rw [h2 j, if_neg fun q => Nat.lt_irrefl j q.1]
    by_cases c : ¬ q0.1 j ≤ 0 ∧ ¬ 0 < left j
    · have c9 : ¬ (xexp left day q0 j).2.1 j ≤ 0 ∧ ¬ 0 < left j := by rw [e1]; exact c
      have e : xexp left day q0 (j + 1) = ((xexp left day q0 j).1 + (xexp left day q0 j).2.1 j, xww (nI 3) (xexp left day q0 j).2 j ((xexp left day q0 j).2.1 j) day) := if_pos c9
      rw [e]
      refine ⟨fun b => ?_, fun b => ?_, fun n hn => ?_⟩
      · show upd (xexp left day q0 j).2.1 j ((xexp left day q0 j).2.1 j - (xexp left day q0 j).2.1 j) b = _
        by_cases eb : b = j
        · subst eb
          rw [upd_at, Int32.sub_self, if_pos ⟨Nat.lt_succ_self _, c⟩]
          rfl
        · rw [upd_ne _ _ eb, h1 b]
          by_cases hb : b < j
          · by_cases c2 : ¬ q0.1 b ≤ 0 ∧ ¬ 0 < left b
            · rw [if_pos ⟨hb, c2⟩, if_pos ⟨by omega, c2⟩]
            · rw [if_neg fun q => c2 q.2, if_neg fun q => c2 q.2]
          · rw [if_neg fun q => hb q.1, if_neg fun q => by have := q.1; omega]
      · show upd (xexp left day q0 j).2.2.1 j ((xexp left day q0 j).2.2.1 j + (xexp left day q0 j).2.1 j) b = _
        by_cases eb : b = j
        · subst eb
          rw [upd_at, e1, e2, if_pos ⟨Nat.lt_succ_self _, c⟩]
        · rw [upd_ne _ _ eb, h2 b]
          by_cases hb : b < j
          · by_cases c2 : ¬ q0.1 b ≤ 0 ∧ ¬ 0 < left b
            · rw [if_pos ⟨hb, c2⟩, if_pos ⟨by omega, c2⟩]
            · rw [if_neg fun q => c2 q.2, if_neg fun q => c2 q.2]
          · rw [if_neg fun q => hb q.1, if_neg fun q => by have := q.1; omega]
      · show (xexp left day q0 j).1 + (xexp left day q0 j).2.1 j + xsum q0.2.1 n = xsum (upd (xexp left day q0 j).2.2.1 j ((xexp left day q0 j).2.2.1 j + (xexp left day q0 j).2.1 j)) n
        rw [zs_upd _ _ _ n (by omega), ← h3 n (by omega)]
        ac_rfl
    · have c9 : ¬ (¬ (xexp left day q0 j).2.1 j ≤ 0 ∧ ¬ 0 < left j) := by rw [e1]; exact c
      have e : xexp left day q0 (j + 1) = xexp left day q0 j := if_neg c9
      rw [e]
      refine ⟨fun b => ?_, fun b => ?_, fun n hn => h3 n (by omega)⟩
      · rw [h1 b]
        by_cases c2 : ¬ q0.1 b ≤ 0 ∧ ¬ 0 < left b
        · by_cases hb : b < j
          · rw [if_pos ⟨hb, c2⟩, if_pos ⟨by omega, c2⟩]
          · rw [if_neg fun q => hb q.1, if_neg fun q => by
              have h9 := q.1
              have : b = j := by omega
              subst this
              exact c c2]
        · rw [if_neg fun q => c2 q.2, if_neg fun q => c2 q.2]
      · rw [h2 b]
        by_cases c2 : ¬ q0.1 b ≤ 0 ∧ ¬ 0 < left b
        · by_cases hb : b < j
          · rw [if_pos ⟨hb, c2⟩, if_pos ⟨by omega, c2⟩]
          · rw [if_neg fun q => hb q.1, if_neg fun q => by
              have h9 := q.1
              have : b = j := by omega
              subst this
              exact c c2]
        · rw [if_neg fun q => c2 q.2, if_neg fun q => c2 q.2]
/-- gifts of one day: m are left that may be given -/
theorem zx_don {stg : Nat → Nat} {dst day : Int32} {q0 : Int32 × XW} {m0 n : Nat} (hm : q0.1 = nI m0) (hm0 : m0 ≤ 60) (hu : ∀ b, b < n → ∃ u : Nat, u ≤ 90 ∧ q0.2.1 b = nI u) : ∀ j : Nat, j ≤ n →
    (∃ m : Nat, m ≤ m0 ∧ (xdon stg dst day q0 j).1 = nI m ∧ xsum (xdon stg dst day q0 j).2.2.1 n = xsum q0.2.2.1 n + nI (m0 - m)) ∧
    (∀ b, b < n → ∃ u t : Nat, u ≤ 90 ∧ q0.2.1 b = nI u ∧ t ≤ u ∧ (m0 = 0 → t = 0) ∧ (j ≤ b → t = 0) ∧ (xdon stg dst day q0 j).2.1 b = nI (u - t) ∧ (xdon stg dst day q0 j).2.2.1 b = q0.2.2.1 b + nI t) ∧
    (∀ b, n ≤ b → (xdon stg dst day q0 j).2.1 b = q0.2.1 b ∧ (xdon stg dst day q0 j).2.2.1 b = q0.2.2.1 b)
  | 0, _ => ⟨⟨m0, Nat.le_refl _, hm, by rw [Nat.sub_self]; exact (Int32.add_zero _).symm⟩, fun b hb => by
      obtain ⟨u, h1, h2⟩ := hu b hb
      exact ⟨u, 0, h1, h2, Nat.zero_le _, fun _ => rfl, fun _ => rfl, h2, (Int32.add_zero _).symm⟩, fun b _ => ⟨rfl, rfl⟩⟩
  | j + 1, hj => by
    obtain ⟨⟨m, a1, a2, a3⟩, a4, a5⟩ := zx_don hm hm0 hu (stg := stg) (dst := dst) (day := day) j (by omega)
    obtain ⟨u, t, b1, b2, b3, b4, b5, b6, b7⟩ := a4 j (by omega)
    have t0 := b5 (Nat.le_refl _)
    subst t0
    by_cases c : ¬ (xdon stg dst day q0 j).1 ≤ 0 ∧ ¬ (xdon stg dst day q0 j).2.1 j ≤ 0 ∧ ¬ nI (stg j) < dst
    · have e : xdon stg dst day q0 (j + 1) = ((xdon stg dst day q0 j).1 - (if (xdon stg dst day q0 j).1 < (xdon stg dst day q0 j).2.1 j then (xdon stg dst day q0 j).1 else (xdon stg dst day q0 j).2.1 j), xww (nI 2) (xdon stg dst day q0 j).2 j (if (xdon stg dst day q0 j).1 < (xdon stg dst day q0 j).2.1 j then (xdon stg dst day q0 j).1 else (xdon stg dst day q0 j).2.1 j) day) := if_pos c
      have ev : (if (xdon stg dst day q0 j).1 < (xdon stg dst day q0 j).2.1 j then (xdon stg dst day q0 j).1 else (xdon stg dst day q0 j).2.1 j) = nI (min u m) := by
        rw [a2, b6, Nat.sub_zero, nI_min (by omega) (by omega)]
      rw [ev] at e
      rw [e]
      have hmin1 := Nat.min_le_left u m
      have hmin2 := Nat.min_le_right u m
      refine ⟨⟨m - min u m, by omega, ?_, ?_⟩, fun b hb => ?_, fun b hb => ?_⟩
      · show (xdon stg dst day q0 j).1 - nI (min u m) = _
        rw [a2, nI_sub hmin2]
      · show xsum (upd (xdon stg dst day q0 j).2.2.1 j ((xdon stg dst day q0 j).2.2.1 j + nI (min u m))) n = _
        rw [zs_upd _ _ _ n (by omega), a3, Int32.add_assoc, nI_add, show m0 - m + min u m = m0 - (m - min u m) by omega]
      · by_cases eb : b = j
        · subst eb
          refine ⟨u, min u m, b1, b2, hmin1, fun q => by omega, fun q => by omega, ?_, ?_⟩
          · show upd (xdon stg dst day q0 b).2.1 b ((xdon stg dst day q0 b).2.1 b - nI (min u m)) b = _
            rw [upd_at, b6, Nat.sub_zero, nI_sub hmin1]
          · show upd (xdon stg dst day q0 b).2.2.1 b ((xdon stg dst day q0 b).2.2.1 b + nI (min u m)) b = _
            rw [upd_at, b7, show (nI 0 : Int32) = 0 from rfl, Int32.add_zero]
        · obtain ⟨u', t', c1, c2, c3, c4, c5, c6, c7⟩ := a4 b hb
          refine ⟨u', t', c1, c2, c3, c4, fun q => c5 (by omega), ?_, ?_⟩
          · show upd (xdon stg dst day q0 j).2.1 j _ b = _
            rw [upd_ne _ _ eb, c6]
          · show upd (xdon stg dst day q0 j).2.2.1 j _ b = _
            rw [upd_ne _ _ eb, c7]
      · have eb : b ≠ j := by omega
        refine ⟨?_, ?_⟩
        · show upd (xdon stg dst day q0 j).2.1 j _ b = _
          rw [upd_ne _ _ eb, (a5 b hb).1]
        · show upd (xdon stg dst day q0 j).2.2.1 j _ b = _
          rw [upd_ne _ _ eb, (a5 b hb).2]
    · have e : xdon stg dst day q0 (j + 1) = xdon stg dst day q0 j := if_neg c
      rw [e]
      refine ⟨⟨m, a1, a2, a3⟩, fun b hb => ?_, a5⟩
      obtain ⟨u', t', c1, c2, c3, c4, c5, c6, c7⟩ := a4 b hb
      exact ⟨u', t', c1, c2, c3, c4, fun q => c5 (by omega), c6, c7⟩
/-- a batch behind k days -/
def pB (k mx : Nat) (shelf0 left0 was0 giv0 shelf left was giv : Nat → Int32) (b : Nat) : Prop :=
  ∃ u0 l0 u y v l : Nat, (u0 ≤ 90 ∧ l0 ≤ 20 ∧ u + y + v = u0 ∧ l ≤ 20) ∧ (u ≠ 0 → 1 ≤ l ∧ l + k = l0) ∧ (y ≠ 0 → l0 ≤ k) ∧ (mx = 0 → v = 0) ∧ shelf0 b = nI u0 ∧ left0 b = nI l0 ∧ shelf b = nI u ∧ left b = nI l ∧ was b = was0 b + nI y ∧ giv b = giv0 b + nI v
/-- all batches behind k days -/
def pJ (bz k mx dy : Nat) (q0 q : XP) : Prop :=
  q.2.1 = nI (dy + k) ∧ (∀ b, b < bz → pB k mx q0.2.2.2.1 q0.2.2.1 q0.2.2.2.2.1 q0.2.2.2.2.2.1 q.2.2.2.1 q.2.2.1 q.2.2.2.2.1 q.2.2.2.2.2.1 b) ∧
  (∀ b, bz ≤ b → q.2.2.2.1 b = q0.2.2.2.1 b ∧ q.2.2.2.2.1 b = q0.2.2.2.2.1 b ∧ q.2.2.2.2.2.1 b = q0.2.2.2.2.2.1 b) ∧
  q.1 + xsum q0.2.2.2.2.1 bz = xsum q.2.2.2.2.1 bz ∧ (∃ gs : Nat, gs ≤ k * mx ∧ xsum q.2.2.2.2.2.1 bz = xsum q0.2.2.2.2.2.1 bz + nI gs) ∧
  (q.2.2.2.2.2.2.1 ≤ 10 ∧ q.2.2.2.2.2.2.2.1 < 10)
theorem zx_age {bz k mx : Nat} {shelf0 left0 was0 giv0 shelf left was giv : Nat → Int32} {b : Nat} (hb : b < bz) (h : pB k mx shelf0 left0 was0 giv0 shelf left was giv b) :
    ∃ u0 l0 u y v l : Nat, (u0 ≤ 90 ∧ l0 ≤ 20 ∧ u + y + v = u0 ∧ l ≤ 20) ∧ (u ≠ 0 → l + (k + 1) = l0) ∧ (y ≠ 0 → l0 ≤ k) ∧ (mx = 0 → v = 0) ∧ shelf0 b = nI u0 ∧ left0 b = nI l0 ∧ shelf b = nI u ∧ xage shelf left bz b = nI l ∧ was b = was0 b + nI y ∧ giv b = giv0 b + nI v := by
  obtain ⟨u0, l0, u, y, v, l, ⟨a1, a2, a3, a4⟩, a5, a6, a7, a8, a9, b1, b2, b3, b4⟩ := h
  by_cases e : u = 0
  · refine ⟨u0, l0, u, y, v, l, ⟨a1, a2, a3, a4⟩, fun q => absurd e q, a6, a7, a8, a9, b1, ?_, b3, b4⟩
    unfold xage
    rw [if_neg fun q => q.2 (by rw [b1, e]; decide), b2]
  · have := a5 e
    refine ⟨u0, l0, u, y, v, l - 1, ⟨a1, a2, a3, by omega⟩, fun _ => by omega, a6, a7, a8, a9, b1, ?_, b3, b4⟩
    unfold xage
    rw [if_pos ⟨hb, by rw [b1]; exact nI_nle (by omega) (by omega)⟩, b2, nI_sub this.1]
theorem pJ.step {bz k mx dy : Nat} {q0 q : XP} {good life share : Nat → Int32} {dst : Int32} (hmx : mx ≤ 60) (h : pJ bz k mx dy q0 q) : pJ bz (k + 1) mx dy q0 (xday bz good life share dst (nI mx) q) := by
  obtain ⟨h1, h2, h3, h4, ⟨gs, h5, h6⟩, h7, h8⟩ := h
  obtain ⟨ex, hex⟩ : ∃ ex, ex = xdayE bz q := ⟨_, rfl⟩
  obtain ⟨dx, hdx⟩ : ∃ dx, dx = xdayD bz good life share dst (nI mx) q := ⟨_, rfl⟩
  have hx : xday bz good life share dst (nI mx) q = (q.1 + ex.1, q.2.1 + nI 1, xage q.2.2.2.1 q.2.2.1 bz, dx.2.1, ex.2.2.1, dx.2.2.1, dx.2.2.2) := by rw [hex, hdx]; rfl
  rw [hx]
  obtain ⟨e1, e2, e3⟩ := zx_exp (xage q.2.2.2.1 q.2.2.1 bz) (q.2.1 + nI 1) (q.2.2.2.1, q.2.2.2.2.1, q.2.2.2.2.2.2) bz
  have e1 : ∀ b, ex.2.1 b = if b < bz ∧ ¬ q.2.2.2.1 b ≤ 0 ∧ ¬ 0 < xage q.2.2.2.1 q.2.2.1 bz b then nI 0 else q.2.2.2.1 b := by rw [hex]; exact e1
  have e2 : ∀ b, ex.2.2.1 b = if b < bz ∧ ¬ q.2.2.2.1 b ≤ 0 ∧ ¬ 0 < xage q.2.2.2.1 q.2.2.1 bz b then q.2.2.2.2.1 b + q.2.2.2.1 b else q.2.2.2.2.1 b := by rw [hex]; exact e2
  have e3 : ex.1 + xsum q.2.2.2.2.1 bz = xsum ex.2.2.1 bz := by rw [hex]; exact e3 bz (Nat.le_refl _)
  have hL : ex.2.2.2.1 ≤ 10 ∧ ex.2.2.2.2.1 < 10 := xexp_log (q0 := (q.2.2.2.1, q.2.2.2.2.1, q.2.2.2.2.2.2)) hex ⟨h7, h8⟩
  have hL2 : dx.2.2.2.1 ≤ 10 ∧ dx.2.2.2.2.1 < 10 := xdon_log hdx (by rw [← hex]; exact hL)
  -- behind ageing and expiring
  have hE : ∀ b, b < bz → ∃ u0 l0 u y v l : Nat, (u0 ≤ 90 ∧ l0 ≤ 20 ∧ u + y + v = u0 ∧ l ≤ 20) ∧ (u ≠ 0 → 1 ≤ l ∧ l + (k + 1) = l0) ∧ (y ≠ 0 → l0 ≤ k + 1) ∧ (mx = 0 → v = 0) ∧ q0.2.2.2.1 b = nI u0 ∧ q0.2.2.1 b = nI l0 ∧ ex.2.1 b = nI u ∧ xage q.2.2.2.1 q.2.2.1 bz b = nI l ∧ ex.2.2.1 b = q0.2.2.2.2.1 b + nI y ∧ q.2.2.2.2.2.1 b = q0.2.2.2.2.2.1 b + nI v := fun b hb => by
    obtain ⟨u0, l0, u, y, v, l, ⟨a1, a2, a3, a4⟩, a5, a6, a7, a8, a9, b1, b2, b3, b4⟩ := zx_age hb (h2 b hb)
    by_cases c : u ≠ 0 ∧ l = 0
    · obtain ⟨c1, c2⟩ := c
      subst c2
      have hc : b < bz ∧ ¬ q.2.2.2.1 b ≤ 0 ∧ ¬ 0 < xage q.2.2.2.1 q.2.2.1 bz b := ⟨hb, by rw [b1]; exact nI_nle (by omega) (by omega), by rw [b2]; decide⟩
      have := a5 c1
      refine ⟨u0, l0, 0, y + u, v, 0, ⟨a1, a2, by omega, by omega⟩, fun q => absurd rfl q, fun _ => by omega, a7, a8, a9, ?_, b2, ?_, b4⟩
      · rw [e1 b, if_pos hc]
      · rw [e2 b, if_pos hc, b3, b1, Int32.add_assoc, nI_add]
    · have hc : ¬ (b < bz ∧ ¬ q.2.2.2.1 b ≤ 0 ∧ ¬ 0 < xage q.2.2.2.1 q.2.2.1 bz b) := by
        rintro ⟨-, x1, x2⟩
        rw [b1] at x1
        rw [b2] at x2
        refine c ⟨fun z => x1 (by rw [z]; decide), ?_⟩
        by_cases z : l = 0
        · exact z
        · exact absurd (show (0 : Int32) < nI l from nI_lt (a := 0) (by omega) (by omega)) x2
      refine ⟨u0, l0, u, y, v, l, ⟨a1, a2, a3, a4⟩, fun z => ⟨?_, a5 z⟩, fun z => by have := a6 z; omega, a7, a8, a9, ?_, b2, ?_, b4⟩
      · rcases Nat.eq_zero_or_pos l with z2 | z2
        · exact absurd ⟨z, z2⟩ c
        · exact z2
      · rw [e1 b, if_neg hc, b1]
      · rw [e2 b, if_neg hc, b3]
  have hdx' : dx = xdon (xstg share (xage q.2.2.2.1 q.2.2.1 bz) life good) dst (q.2.1 + nI 1) (nI mx, ex.2.1, q.2.2.2.2.2.1, ex.2.2.2) bz := by rw [hdx, hex]; rfl
  obtain ⟨⟨m, d1, d2, d3⟩, d4, d5⟩ := zx_don (stg := xstg share (xage q.2.2.2.1 q.2.2.1 bz) life good) (dst := dst) (day := q.2.1 + nI 1) (q0 := (nI mx, ex.2.1, q.2.2.2.2.2.1, ex.2.2.2)) (m0 := mx) (n := bz) rfl hmx (fun b hb => by
    obtain ⟨u0, l0, u, y, v, l, ⟨a1, a2, a3, a4⟩, a5, a6, a7, a8, a9, b1, -⟩ := hE b hb
    exact ⟨u, by omega, b1⟩) bz (Nat.le_refl _)
  rw [← hdx'] at d2 d3 d4 d5
  refine ⟨?_, fun b hb => ?_, fun b hb => ?_, ?_, ⟨gs + (mx - m), ?_, ?_⟩, hL2⟩
  · show q.2.1 + nI 1 = _
    rw [h1, nI_add, Nat.add_assoc]
  · obtain ⟨u0, l0, u, y, v, l, ⟨a1, a2, a3, a4⟩, a5, a6, a7, a8, a9, b1, b2, b3, b4⟩ := hE b hb
    obtain ⟨u', t, c1, c2, c3, c4, -, c6, c7⟩ := d4 b hb
    have c2 : ex.2.1 b = nI u' := c2
    have hu : u = u' := nI_inj (by omega) (by omega) (b1.symm.trans c2)
    subst hu
    refine ⟨u0, l0, u - t, y, v + t, l, ⟨a1, a2, by omega, a4⟩, fun z => a5 (by omega), a6, fun z => by have := a7 z; have := c4 z; omega, a8, a9, c6, b2, b3, ?_⟩
    show dx.2.2.1 b = _
    rw [c7]
    show q.2.2.2.2.2.1 b + nI t = _
    rw [b4, Int32.add_assoc, nI_add]
  · have a := h3 b hb
    have nb : ¬ b < bz := by omega
    refine ⟨?_, ?_, ?_⟩
    · show dx.2.1 b = _
      rw [(d5 b hb).1]
      show ex.2.1 b = _
      rw [e1 b, if_neg fun z => nb z.1, a.1]
    · show ex.2.2.1 b = _
      rw [e2 b, if_neg fun z => nb z.1, a.2.1]
    · show dx.2.2.1 b = _
      rw [(d5 b hb).2]
      exact a.2.2
  · show q.1 + ex.1 + xsum q0.2.2.2.2.1 bz = xsum ex.2.2.1 bz
    rw [← e3, ← h4]
    ac_rfl
  · rw [Nat.succ_mul]
    omega
  · show xsum dx.2.2.1 bz = _
    rw [d3]
    show xsum q.2.2.2.2.2.1 bz + nI (mx - m) = _
    rw [h6, Int32.add_assoc, nI_add]
theorem pJ.all {bz mx dy : Nat} {q0 : XP} {good life share : Nat → Int32} {dst : Int32} (hmx : mx ≤ 60) (h : pJ bz 0 mx dy q0 q0) : ∀ k, pJ bz k mx dy q0 (xpass bz good life share dst (nI mx) q0 k)
  | 0 => h
  | k + 1 => (pJ.all hmx h k).step hmx
