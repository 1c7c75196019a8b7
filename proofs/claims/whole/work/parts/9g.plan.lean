/-! What both plan for an order. -/
theorem nI_subi {a b : Nat} (ha : a < 2 ^ 30) (hb : b < 2 ^ 30) : (nI a - nI b).toInt = (a : Int) - (b : Int) := by
  rw [Int32.toInt_sub, nI_toInt (by omega), nI_toInt (by omega)]
  exact Int.bmod_eq_of_le_mul_two (by omega) (by omega)
theorem xnb_congr {P P' : Nat → Bool} {bf bf' : Nat → Nat → Bool} : ∀ {n : Nat}, (∀ b, b < n → P b = P' b) → (∀ b f, b < n → f < n → bf b f = bf' b f) → xnb P bf n = xnb P' bf' n
  | 0, _, _ => rfl
  | k + 1, hp, hb => by
    have ih := xnb_congr (n := k) (fun b h => hp b (by omega)) (fun b f h1 h2 => hb b f (by omega) (by omega))
    show (if P k = true then xpick bf k (xnb P bf k) else xnb P bf k) = if P' k = true then xpick bf' k (xnb P' bf' k) else xnb P' bf' k
    rw [ih, hp k (by omega)]
    cases hx : xnb P' bf' k with
    | none => rfl
    | some f =>
      have hf := xnb_lt hx
      show (if P' k = true then (if bf k f = true then some k else some f) else some f) = if P' k = true then (if bf' k f = true then some k else some f) else some f
      rw [hb k f (by omega) (by omega)]
theorem qBefore {lo gz bz oz tk lz nx : Nat} {T : Nat → Nat → Int32} {z : Nat → Int32} (h : RelN lo gz bz oz tk lz nx T z) {b f : Nat} (hb : b < bz) (hf : f < bz) (pric : Nat → UInt32) :
    decide (xbefore (T 38 0) (T 8) (xfu (xpr T) pric bz) b f) = decide (zsooner z b f) := by
  have hbz := h.1.1.2.1
  obtain ⟨⟨-, -, b3, -⟩, -, b11, -⟩ := h.2.2.1 b (by omega)
  obtain ⟨⟨-, -, f3, -⟩, -, f11, -⟩ := h.2.2.1 f (by omega)
  obtain ⟨-, ⟨d, d1, d2, -⟩, -⟩ := b11 hb
  obtain ⟨-, ⟨e, e1, e2, -⟩, -⟩ := f11 hf
  obtain ⟨r, r1, r2⟩ := h.1.2.2.2.2
  have z4 : z 4 = nI r := (h.2.2.2.2.2.2.2 0 (by omega)).symm.trans r2
  have p1 : xfu (xpr T) pric bz b = zprice z b := (if_pos hb : xfu (xpr T) pric bz b = xpr T b).trans (qPrice h hb)
  have p2 : xfu (xpr T) pric bz f = zprice z f := (if_pos hf : xfu (xpr T) pric bz f = xpr T f).trans (qPrice h hf)
  have s : (nI d - nI e).toInt = (d : Int) - e := nI_subi (by omega) (by omega)
  refine decide_eq_decide.mpr ?_
  show (if T 38 0 = nI 1 then T 8 f < T 8 b else if T 38 0 = nI 2 then Op.cmpValue (FP.fcmp (xfu (xpr T) pric bz b) (xfu (xpr T) pric bz f)) .g < 0 else T 8 b < T 8 f) ↔ (if z 4 = nI 2 then Op.cmpValue (FP.fcmp (zprice z b) (zprice z f)) .g < 0 else if z 4 = 0 then zB z b 2 - zB z f 2 < 0 else 0 < zB z b 2 - zB z f 2)
  rw [p1, p2, ← b3, ← f3, r2, z4, d2, e2]
  rcases (show r = 0 ∨ r = 1 ∨ r = 2 by omega) with rfl | rfl | rfl
  · rw [if_neg (by decide : ¬ nI 0 = nI 1), if_neg (by decide : ¬ nI 0 = nI 2), if_neg (by decide : ¬ nI 0 = nI 2), if_pos (by decide : nI 0 = 0), nI_lt_iff (by omega) (by omega), Int32.lt_iff_toInt_lt, s, Int32.toInt_zero]
    omega
  · rw [if_pos rfl, if_neg (by decide : ¬ nI 1 = nI 2), if_neg (by decide : ¬ nI 1 = 0), nI_lt_iff (by omega) (by omega), Int32.lt_iff_toInt_lt, s, Int32.toInt_zero]
    omega
  · rw [if_neg (by decide : ¬ nI 2 = nI 1), if_pos rfl, if_pos rfl]
theorem xopn_dec (f : Nat → Int32) {b : Nat} (h : f b ≠ nI 0) : ∀ {n : Nat}, b < n → xopn (upd f b (nI 0)) n + 1 = xopn f n
  | 0, hb => absurd hb (Nat.not_lt_zero _)
  | n + 1, hb => by
    show xopn (upd f b (nI 0)) n + (if upd f b (nI 0) n = nI 0 then 0 else 1) + 1 = xopn f n + (if f n = nI 0 then 0 else 1)
    by_cases e : n = b
    · subst e
      rw [upd_at, if_pos rfl, if_neg h, xopn_ge f (nI 0) (Nat.le_refl _)]
    · have ih := xopn_dec f h (n := n) (by omega)
      rw [upd_ne _ _ e]
      omega
/-- the class's filling F against the reference's plan G: n0 batches were open -/
def rPlan (T : Nat → Nat → Int32) (bz n0 un : Nat) (F : XF) (G : ZF) : Prop :=
  (F.1 = G.1 ∧ F.2.1 = G.2.1 ∧ (∃ gm : Nat, gm ≤ un ∧ F.2.1 = nI gm) ∧ zcu G.2.2.2.1 bz = G.1) ∧
  F.1 + xopn F.2.2.2.2.2 bz ≤ n0 + (if F.2.1 < nI un then 0 else 1) ∧
  (∀ b, b < bz → (G.2.2.2.1 b = 0 → F.2.2.2.2.2 b = T 9 b) ∧ (G.2.2.2.1 b ≠ 0 → F.2.1 < nI un → F.2.2.2.2.2 b = nI 0)) ∧
  (∀ k, k < F.1 → (F.2.2.1 k = G.2.2.2.2.1 k ∧ F.2.2.2.1 k = G.2.2.2.2.2.1 k ∧ F.2.2.2.2.1 k = G.2.2.2.2.2.2 k) ∧
    ∃ b m us : Nat, b < bz ∧ m ≤ us ∧ us ≤ 999 ∧ us ≠ 0 ∧ F.2.2.1 k = nI b ∧ F.2.2.2.1 k = nI m ∧ T 9 b = nI us ∧ G.2.2.2.1 b ≠ 0 ∧ (F.2.1 < nI un ∨ k + 1 < F.1 → m = us) ∧ ∀ j, j < k → F.2.2.1 j ≠ nI b)
theorem rPlan.step {gz bz oz tk lz nx n0 un kg b : Nat} {T : Nat → Nat → Int32} {z : Nat → Int32} {F : XF} {G : ZF} (h : RelN 1 gz bz oz tk lz nx T z) (hP : rPlan T bz n0 un F G) (hun : un ≤ 999) (hg : F.2.1 < nI un) (w : Int32) (hb : b < bz) (hu : G.2.2.2.1 b = 0) (hr : ¬ zB z b 3 ≤ 0) (hkg : kg < gz) (pric : Nat → UInt32) :
    rPlan T bz n0 un (xft (T 6) (xfu (xpr T) pric bz) (T 1) (nI un) kg F b) (zstep z (nI un) w kg G b) := by
  have hbz := h.1.1.2.1
  have hgz := h.1.1.1
  obtain ⟨⟨b0, -, -, b3, -⟩, -, b11, -⟩ := h.2.2.1 b (by omega)
  obtain ⟨⟨g, g1, g2⟩, -, us, u1, u2⟩ := b11 hb
  obtain ⟨⟨p1, p2, ⟨gm, p3, p4⟩, p5⟩, p6, p7, p8⟩ := hP
  have hgm : gm < un := (nI_lt_iff (by omega) (by omega)).mp (by rw [← p4]; exact hg)
  have hus0 : us ≠ 0 := fun e => hr (by rw [← b3, u2, e]; decide)
  have r9 : F.2.2.2.2.2 b = nI us := ((p7 b hb).1 hu).trans u2
  have hus1 : nI us ≠ nI 0 := fun q => hus0 (nI_inj (by omega) (by omega) q)
  obtain ⟨m, m1⟩ : ∃ m, m = min us (un - gm) := ⟨_, rfl⟩
  have ht : xtkn (nI un) F b = nI m := by
    unfold xtkn
    rw [r9, p4, nI_sub (by omega)]
    by_cases q : us < un - gm
    · rw [if_pos ((nI_lt_iff (by omega) (by omega)).mpr q), m1, Nat.min_eq_left (by omega)]
    · rw [if_neg (fun q2 => q ((nI_lt_iff (by omega) (by omega)).mp q2)), m1, Nat.min_eq_right (by omega)]
  have ht2 : ztake z (nI un) G b = nI m := by
    rw [← ht]
    unfold ztake xtkn
    rw [r9, ← b3, u2, ← p2]
  have hgot : F.2.1 + nI m = nI (gm + m) := by rw [p4, nI_add]
  refine ⟨⟨?_, ?_, ⟨gm + m, by omega, ?_⟩, ?_⟩, ?_, fun c hc => ?_, fun k hk => ?_⟩
  · show F.1 + 1 = G.1 + 1
    omega
  · show F.2.1 + xtkn (nI un) F b = G.2.1 + ztake z (nI un) G b
    rw [ht, ht2, p2]
  · show F.2.1 + xtkn (nI un) F b = nI (gm + m)
    rw [ht, hgot]
  · show zcu (upd G.2.2.2.1 b (nI 1)) bz = G.1 + 1
    rw [zcu_upd hu, if_pos hb, p5]
  · show F.1 + 1 + xopn (upd F.2.2.2.2.2 b (F.2.2.2.2.2 b - xtkn (nI un) F b)) bz ≤ n0 + (if F.2.1 + xtkn (nI un) F b < nI un then 0 else 1)
    rw [ht, r9, hgot, nI_sub (by omega)]
    rw [if_pos hg] at p6
    by_cases q : us ≤ un - gm
    · have e0 : us - m = 0 := by omega
      rw [e0]
      have := xopn_dec F.2.2.2.2.2 (b := b) (by rw [r9]; exact hus1) hb
      split <;> omega
    · have e0 : gm + m = un := by omega
      have := xopn_le F.2.2.2.2.2 (v := nI (us - m)) (b := b) (Or.inr (by rw [r9]; exact hus1)) bz
      rw [if_neg (fun q2 => by have := (nI_lt_iff (by omega) (by omega)).mp q2; omega)]
      omega
  · show (upd G.2.2.2.1 b (nI 1) c = 0 → upd F.2.2.2.2.2 b (F.2.2.2.2.2 b - xtkn (nI un) F b) c = T 9 c) ∧ (upd G.2.2.2.1 b (nI 1) c ≠ 0 → F.2.1 + xtkn (nI un) F b < nI un → upd F.2.2.2.2.2 b (F.2.2.2.2.2 b - xtkn (nI un) F b) c = nI 0)
    by_cases e : c = b
    · subst e
      rw [upd_at, upd_at]
      refine ⟨fun q => absurd q (by decide), fun _ q => ?_⟩
      rw [ht, hgot] at q
      have := (nI_lt_iff (by omega) (by omega)).mp q
      rw [ht, r9, nI_sub (by omega)]
      congr 1
      omega
    · rw [upd_ne _ _ e, upd_ne _ _ e]
      exact ⟨(p7 c hc).1, fun q1 _ => (p7 c hc).2 q1 hg⟩
  · have hcents : FP.f2i (FP.fmul (FP.i2f (nI m)) (xcharge (T 1 kg) (T 1 (T 6 b).toNatClampNeg) (xfu (xpr T) pric bz b))) = zcents z b (nI m) kg := by
      unfold zcents
      rw [show xfu (xpr T) pric bz b = xpr T b from if_pos hb, qPrice h hb, ← b0, g2, nI_clamp (by omega), (h.2.1 kg (by omega)).1, (h.2.1 g (by omega)).1]
    show (upd F.2.2.1 F.1 (nI b) k = upd G.2.2.2.2.1 G.1 (nI b) k ∧ upd F.2.2.2.1 F.1 (xtkn (nI un) F b) k = upd G.2.2.2.2.2.1 G.1 (ztake z (nI un) G b) k ∧
        upd F.2.2.2.2.1 F.1 (FP.f2i (FP.fmul (FP.i2f (xtkn (nI un) F b)) (xcharge (T 1 kg) (T 1 (T 6 b).toNatClampNeg) (xfu (xpr T) pric bz b)))) k = upd G.2.2.2.2.2.2 G.1 (zcents z b (ztake z (nI un) G b) kg) k) ∧
      ∃ b' m' us' : Nat, b' < bz ∧ m' ≤ us' ∧ us' ≤ 999 ∧ us' ≠ 0 ∧ upd F.2.2.1 F.1 (nI b) k = nI b' ∧ upd F.2.2.2.1 F.1 (xtkn (nI un) F b) k = nI m' ∧ T 9 b' = nI us' ∧ upd G.2.2.2.1 b (nI 1) b' ≠ 0 ∧ (F.2.1 + xtkn (nI un) F b < nI un ∨ k + 1 < F.1 + 1 → m' = us') ∧ ∀ j, j < k → upd F.2.2.1 F.1 (nI b) j ≠ nI b'
    rw [ht, ht2, hcents, ← p1, hgot]
    have hk1 : k < F.1 + 1 := hk
    by_cases e : k = F.1
    · rw [e, upd_at, upd_at, upd_at, upd_at, upd_at, upd_at]
      refine ⟨⟨rfl, rfl, rfl⟩, b, m, us, hb, by omega, u1, hus0, rfl, rfl, u2, by rw [upd_at]; decide, fun q => ?_, fun j hj => ?_⟩
      · rcases q with q | q
        · have := (nI_lt_iff (by omega) (by omega)).mp q
          omega
        · omega
      · rw [upd_ne _ _ (by omega)]
        obtain ⟨-, b', m', us', q1, q2, q3, q4, q5, q6, q7, q8, q9, q10⟩ := p8 j hj
        rw [q5]
        intro q
        have : b' = b := nI_inj (by omega) (by omega) q
        exact q8 (by rw [this]; exact hu)
    · have hk2 : k < F.1 := by omega
      rw [upd_ne _ _ e, upd_ne _ _ e, upd_ne _ _ e, upd_ne _ _ e, upd_ne _ _ e, upd_ne _ _ e]
      obtain ⟨q, b', m', us', q1, q2, q3, q4, q5, q6, q7, q8, q9, q10⟩ := p8 k hk2
      refine ⟨q, b', m', us', q1, q2, q3, q4, q5, q6, q7, ?_, fun _ => q9 (Or.inl hg), fun j hj => by rw [upd_ne _ _ (by omega)]; exact q10 j hj⟩
      by_cases e2 : b' = b
      · rw [e2, upd_at]
        decide
      · rw [upd_ne _ _ e2]
        exact q8
theorem rPlan.tk {gz bz oz tk lz nx n0 un kg : Nat} {T : Nat → Nat → Int32} {z : Nat → Int32} {le : Int32} (h : RelN 1 gz bz oz tk lz nx T z) (hun : un ≤ 999) (w : Int32) (hkg : kg < gz) (pric : Nat → UInt32) : ∀ (fx fz : Nat) (F : XF) (G : ZF), rPlan T bz n0 un F G → bz ≤ F.1 + fx → bz < G.1 + fz →
    rPlan T bz n0 un (xtk (T 6) (T 8) (xfu (xpr T) pric bz) (T 1) (T 38 0) le (nI un) kg bz w fx F) (ztk z le (nI un) w kg bz fz G)
  | _, 0, F, G, hP, _, h2 => by
    have h3 := hP.1.2.2.2
    have := zcu_le G.2.2.2.1 bz
    omega
  | 0, fz + 1, F, G, hP, h1, _ => by
    have h3 := hP.1.2.2.2
    have h4 := hP.1.1
    have hn : znb z le w bz G.2.2.2.1 = none := by
      cases hb : znb z le w bz G.2.2.2.1 with
      | none => rfl
      | some b =>
        have := zcu_lt (of_decide_eq_true (xnb_p hb)).1 (xnb_lt hb)
        omega
    have e : ztk z le (nI un) w kg bz (fz + 1) G = G := by
      unfold ztk
      rw [hn]
    rw [e]
    exact hP
  | fx + 1, fz + 1, F, G, hP, h1, h2 => by
    have hbz := h.1.1.2.1
    obtain ⟨⟨p1, p2, p3, p5⟩, p6, p7, p8⟩ := id hP
    by_cases hg : F.2.1 < nI un
    · have hnb : xnbF (T 6) (T 8) (xfu (xpr T) pric bz) (T 38 0) le bz w F = znb z le w bz G.2.2.2.1 := by
        refine xnb_congr (fun b hb => decide_eq_decide.mpr ?_) (fun b f hb hf => qBefore h hb hf pric)
        obtain ⟨⟨b0, -, b2, b3, -⟩, -, -, -⟩ := h.2.2.1 b (by omega)
        show (T 6 b = w ∧ ¬ F.2.2.2.2.2 b ≤ 0 ∧ ¬ T 8 b < le) ↔ (G.2.2.2.1 b = 0 ∧ zB z b 0 = w ∧ ¬ zB z b 3 ≤ 0 ∧ ¬ zB z b 2 < le)
        rw [← b0, ← b2, ← b3]
        by_cases hu : G.2.2.2.1 b = 0
        · rw [(p7 b hb).1 hu]
          exact ⟨fun q => ⟨hu, q⟩, fun q => q.2⟩
        · rw [(p7 b hb).2 hu hg]
          exact ⟨fun q => absurd (by decide) q.2.1, fun q => absurd q.1 hu⟩
      cases hb : znb z le w bz G.2.2.2.1 with
      | none =>
        have e1 : xtk (T 6) (T 8) (xfu (xpr T) pric bz) (T 1) (T 38 0) le (nI un) kg bz w (fx + 1) F = F := by
          show (if F.2.1 < nI un then xtks (T 6) (xfu (xpr T) pric bz) (T 1) (nI un) kg F (xnbF (T 6) (T 8) (xfu (xpr T) pric bz) (T 38 0) le bz w F) (xtk (T 6) (T 8) (xfu (xpr T) pric bz) (T 1) (T 38 0) le (nI un) kg bz w fx) else F) = F
          rw [if_pos hg, hnb, hb]
          rfl
        have e2 : ztk z le (nI un) w kg bz (fz + 1) G = G := by
          unfold ztk
          rw [hb]
        rw [e1, e2]
        exact hP
      | some b =>
        have hlt := xnb_lt hb
        have ho := of_decide_eq_true (xnb_p hb)
        have e1 : xtk (T 6) (T 8) (xfu (xpr T) pric bz) (T 1) (T 38 0) le (nI un) kg bz w (fx + 1) F = xtk (T 6) (T 8) (xfu (xpr T) pric bz) (T 1) (T 38 0) le (nI un) kg bz w fx (xft (T 6) (xfu (xpr T) pric bz) (T 1) (nI un) kg F b) := by
          show (if F.2.1 < nI un then xtks (T 6) (xfu (xpr T) pric bz) (T 1) (nI un) kg F (xnbF (T 6) (T 8) (xfu (xpr T) pric bz) (T 38 0) le bz w F) (xtk (T 6) (T 8) (xfu (xpr T) pric bz) (T 1) (T 38 0) le (nI un) kg bz w fx) else F) = _
          rw [if_pos hg, hnb, hb]
          rfl
        have e2 : ztk z le (nI un) w kg bz (fz + 1) G = ztk z le (nI un) w kg bz fz (zstep z (nI un) w kg G b) := by
          conv => lhs; unfold ztk
          rw [hb]
          exact if_neg (by rw [← p2]; exact Int32.not_le.mpr hg)
        rw [e1, e2]
        refine rPlan.tk h hun w hkg pric fx fz _ _ (hP.step h hun hg w hlt ho.1 ho.2.2.1 hkg pric) ?_ ?_
        · show bz ≤ F.1 + 1 + fx
          omega
        · show bz < G.1 + 1 + fz
          omega
    · have e1 : xtk (T 6) (T 8) (xfu (xpr T) pric bz) (T 1) (T 38 0) le (nI un) kg bz w (fx + 1) F = F := if_neg hg
      have e2 : ztk z le (nI un) w kg bz (fz + 1) G = G := by
        conv => lhs; unfold ztk
        cases hb : znb z le w bz G.2.2.2.1 with
        | none => rfl
        | some b => exact if_pos (by rw [← p2]; exact Int32.not_lt.mp hg)
      rw [e1, e2]
      exact hP
theorem ztk_sub0 {z : Nat → Int32} {le un : Int32} {gk bz : Nat} : ∀ (f : Nat) (G : ZF), (ztk z le un (nI gk) gk bz f G).2.2.1 = G.2.2.1
  | 0, _ => rfl
  | f + 1, G => by
    unfold ztk
    cases hb : znb z le (nI gk) bz G.2.2.2.1 with
    | none => rfl
    | some b =>
      show (ite _ _ _ : ZF).2.2.1 = _
      split
      · rfl
      · rw [ztk_sub0 f]
        show G.2.2.1 + (if nI gk = nI gk then nI 0 else ztake z un G b) = G.2.2.1
        rw [if_pos rfl]
        exact Int32.add_zero _
theorem ztk_sub1 {z : Nat → Int32} {le un w : Int32} {gk bz : Nat} (hw : w ≠ nI gk) : ∀ (f : Nat) (G : ZF), (ztk z le un w gk bz f G).2.1 - (ztk z le un w gk bz f G).2.2.1 = G.2.1 - G.2.2.1
  | 0, _ => rfl
  | f + 1, G => by
    unfold ztk
    cases hb : znb z le w bz G.2.2.2.1 with
    | none => rfl
    | some b =>
      show (ite _ _ _ : ZF).2.1 - (ite _ _ _ : ZF).2.2.1 = _
      split
      · rfl
      · rw [ztk_sub1 hw f]
        show G.2.1 + ztake z un G b - (G.2.2.1 + (if w = nI gk then nI 0 else ztake z un G b)) = G.2.1 - G.2.2.1
        rw [if_neg hw, Int32.add_comm G.2.2.1, ← Int32.sub_sub, Int32.add_sub_cancel]
theorem rPlan.subs {gz bz oz tk lz nx n0 un kg lm : Nat} {T : Nat → Nat → Int32} {z : Nat → Int32} {le : Int32} {F : XF} {G : ZF} (h : RelN 1 gz bz oz tk lz nx T z) (hun : un ≤ 999) (hkg : kg < gz) (pric : Nat → UInt32) (hlm : T 3 kg = nI lm) (hl4 : lm ≤ 4) (hP : rPlan T bz n0 un F G) : ∀ k, k ≤ lm →
    rPlan T bz n0 un (xsubs (T 6) (T 8) (xfu (xpr T) pric bz) (T 1) (T 38 0) le (nI un) kg bz (T 4) (kg * 4) F k) (zsubs z le (nI un) kg bz G k) ∧ (zsubs z le (nI un) kg bz G k).2.1 - (zsubs z le (nI un) kg bz G k).2.2.1 = G.2.1 - G.2.2.1
  | 0, _ => ⟨hP, rfl⟩
  | k + 1, hk => by
    have hbz := h.1.1.2.1
    have hgz := h.1.1.1
    obtain ⟨ih1, ih2⟩ := rPlan.subs (le := le) h hun hkg pric hlm hl4 hP k (by omega)
    obtain ⟨-, -, -, lm', l1, -, l2, -, l3⟩ := h.2.1 kg (by omega)
    have el : lm' = lm := nI_inj (by omega) (by omega) (l2.symm.trans hlm)
    subst el
    obtain ⟨e, e1, e2, e3, e4⟩ := l3 k (by omega)
    have ez : zG z kg (3 + k) = nI e := by
      unfold zG
      rw [show 10 + 7 * kg + (3 + k) = 10 + 7 * kg + 3 + k by omega]
      exact e4
    have hne : nI e ≠ nI kg := fun q => e2 (nI_inj (by omega) (by omega) q)
    have hle : (zsubs z le (nI un) kg bz G k).1 ≤ bz := by
      rw [← ih1.1.2.2.2]
      exact zcu_le _ _
    show rPlan T bz n0 un (xtk (T 6) (T 8) (xfu (xpr T) pric bz) (T 1) (T 38 0) le (nI un) kg bz (T 4 (kg * 4 + k)) 40 (xsubs (T 6) (T 8) (xfu (xpr T) pric bz) (T 1) (T 38 0) le (nI un) kg bz (T 4) (kg * 4) F k)) (ztk z le (nI un) (zG z kg (3 + k)) kg bz (41 - (zsubs z le (nI un) kg bz G k).1) (zsubs z le (nI un) kg bz G k)) ∧
      (ztk z le (nI un) (zG z kg (3 + k)) kg bz (41 - (zsubs z le (nI un) kg bz G k).1) (zsubs z le (nI un) kg bz G k)).2.1 - (ztk z le (nI un) (zG z kg (3 + k)) kg bz (41 - (zsubs z le (nI un) kg bz G k).1) (zsubs z le (nI un) kg bz G k)).2.2.1 = G.2.1 - G.2.2.1
    rw [e3, ez, ztk_sub1 hne]
    exact ⟨ih1.tk h hun (nI e) hkg pric 40 _ _ _ (by omega) (by omega), ih2⟩
theorem rPlan.start {gz bz oz tk lz nx un : Nat} {T : Nat → Nat → Int32} {z : Nat → Int32} (h : RelN 1 gz bz oz tk lz nx T z) (fb fu fc us pb pu pc : Nat → Int32) (hun : 1 ≤ un ∧ un ≤ 999) : rPlan T bz (xopn (T 9) bz) un (0, nI 0, fb, fu, fc, T 9) (0, nI 0, nI 0, zfill us 40, pb, pu, pc) := by
  have hbz := h.1.1.2.1
  refine ⟨⟨rfl, rfl, ⟨0, by omega, rfl⟩, zfill_cu us hbz⟩, ?_, fun b hb => ⟨fun _ => rfl, fun q => absurd (if_pos (by omega)) q⟩, fun k hk => absurd hk (Nat.not_lt_zero _)⟩
  show 0 + xopn (T 9) bz ≤ xopn (T 9) bz + _
  omega
/-- the whole plan of both -/
theorem qPlan {gz bz oz tk lz nx kg un lm : Nat} {T : Nat → Nat → Int32} {z : Nat → Int32} (h : RelN 1 gz bz oz tk lz nx T z) (hkg : kg < gz) (hun : 1 ≤ un ∧ un ≤ 999) (hlm : T 3 kg = nI lm) (hl4 : lm ≤ 4) (le sb : Int32) (fb fu fc us pb pu pc : Nat → Int32) (pric : Nat → UInt32) :
    rPlan T bz (xopn (T 9) bz) un (xF2 T le (nI un) sb kg bz lm fb fu fc pric) (zplan z le (nI un) sb kg bz lm us pb pu pc) ∧ (xF2 T le (nI un) sb kg bz lm fb fu fc pric).2.1 - (xF1 T le (nI un) kg bz fb fu fc pric).2.1 = (zplan z le (nI un) sb kg bz lm us pb pu pc).2.2.1 := by
  have hbz := h.1.1.2.1
  have h1 := (rPlan.start h fb fu fc us pb pu pc hun).tk (le := le) h hun.2 (nI kg) hkg pric 40 41 _ _ (by show bz ≤ 0 + 40; omega) (by show bz < 0 + 41; omega)
  have h2 := rPlan.subs (le := le) h hun.2 hkg pric hlm hl4 h1 (if sb = 0 then 0 else lm) (by split <;> omega)
  have h3 : (ztk z le (nI un) (nI kg) kg bz 41 (0, nI 0, nI 0, zfill us 40, pb, pu, pc)).2.2.1 = nI 0 := ztk_sub0 (z := z) (le := le) (un := nI un) (gk := kg) (bz := bz) 41 (0, nI 0, nI 0, zfill us 40, pb, pu, pc)
  refine ⟨h2.1, ?_⟩
  have e1 : (xF2 T le (nI un) sb kg bz lm fb fu fc pric).2.1 = (zplan z le (nI un) sb kg bz lm us pb pu pc).2.1 := h2.1.1.2.1
  have e2 : (xF1 T le (nI un) kg bz fb fu fc pric).2.1 = (ztk z le (nI un) (nI kg) kg bz 41 (0, nI 0, nI 0, zfill us 40, pb, pu, pc)).2.1 := h1.1.2.1
  have e3 : (zplan z le (nI un) sb kg bz lm us pb pu pc).2.1 - (zplan z le (nI un) sb kg bz lm us pb pu pc).2.2.1 = (ztk z le (nI un) (nI kg) kg bz 41 (0, nI 0, nI 0, zfill us 40, pb, pu, pc)).2.1 - nI 0 := h2.2.trans (by rw [h3])
  have e4 : (ztk z le (nI un) (nI kg) kg bz 41 (0, nI 0, nI 0, zfill us 40, pb, pu, pc)).2.1 - nI 0 = (ztk z le (nI un) (nI kg) kg bz 41 (0, nI 0, nI 0, zfill us 40, pb, pu, pc)).2.1 := Int32.sub_zero _
  rw [e1, e2, ← e4, ← e3, Int32.sub_eq_iff_eq_add, Int32.add_comm, Int32.sub_add_cancel]
theorem rPlan.sum {T : Nat → Nat → Int32} {bz n0 un : Nat} {F : XF} {G : ZF} (hP : rPlan T bz n0 un F G) : xsum F.2.2.2.2.1 F.1 = xsum G.2.2.2.2.2.2 G.1 := by
  obtain ⟨⟨p1, p2, p3, p5⟩, p6, p7, p8⟩ := hP
  have key : ∀ n, n ≤ F.1 → xsum F.2.2.2.2.1 n = xsum G.2.2.2.2.2.2 n := by
    intro n
    induction n with
    | zero => exact fun _ => rfl
    | succ k ih =>
      intro hn
      show xsum F.2.2.2.2.1 k + F.2.2.2.2.1 k = xsum G.2.2.2.2.2.2 k + G.2.2.2.2.2.2 k
      rw [ih (by omega), (p8 k (by omega)).1.2.2]
  rw [key _ (Nat.le_refl _), p1]
/-- what the contracts of an order ask of the plan -/
theorem rPlan.asks {gz bz oz tk lz nx un : Nat} {T : Nat → Nat → Int32} {z : Nat → Int32} {F : XF} {G : ZF} (h : RelN 1 gz bz oz tk lz nx T z) (hP : rPlan T bz (xopn (T 9) bz) un F G) (hoz : oz < 30) : F.1 ≤ 40 ∧ xidx F.2.2.1 40 F.1 ∧ tk + F.1 ≤ 70 ∧ xidx G.2.2.2.2.1 40 G.1 ∧ tk + G.1 ≤ 70 ∧ xsum F.2.2.2.2.1 F.1 = xsum G.2.2.2.2.2.2 G.1 := by
  have hbz := h.1.1.2.1
  have hn6 := h.1.1.2.2.2.2.2
  obtain ⟨⟨p1, p2, p3, p5⟩, p6, p7, p8⟩ := hP
  have h1 : F.1 ≤ 40 := by
    have := zcu_le G.2.2.2.1 bz
    omega
  have h2 : tk + F.1 ≤ 70 := by
    split at p6 <;> omega
  have h3 : xidx F.2.2.1 40 F.1 := fun k hk => by
    obtain ⟨-, b, m, us, q1, q2, q3, q4, q5, q6, q7, q8, q9, q10⟩ := p8 k hk
    rw [q5, nI_clamp (by omega)]
    exact ⟨by omega, rfl⟩
  refine ⟨h1, h3, h2, fun k hk => ?_, by omega, ?_⟩
  · rw [← (p8 k (by omega)).1.1]
    exact h3 k (by omega)
  · exact rPlan.sum ⟨⟨p1, p2, p3, p5⟩, p6, p7, p8⟩
