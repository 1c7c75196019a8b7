/-! The text of a delivery, read by both. -/
def xRch (text : Nat → Int32) (D0 : XD) (k : Nat) (D : XD) : Prop := xdRn text D0 k = (none, D)
theorem xRch.next {text : Nat → Int32} {D0 D D' : XD} {k : Nat} (h : xRch text D0 k D) (ha : xdAcc D (text k) = (true, D')) : xRch text D0 (k + 1) D' := by
  have h1 : xdRn text D0 k = (none, D) := h
  show (match xdRn text D0 k with
    | (none, D) => xdNext k (xdAcc D (text k))
    | (some f, D) => (some f, D)) = (none, D')
  rw [h1]
  show xdNext k (xdAcc D (text k)) = (none, D')
  rw [ha]
  rfl
theorem xRch.stop {text : Nat → Int32} {D0 D : XD} {k : Nat} (h : xRch text D0 k D) (ha : (xdAcc D (text k)).1 = false) : ∀ n, ∃ D', xdRn text D0 (k + 1 + n) = (some k, D')
  | 0 => by
    have h1 : xdRn text D0 k = (none, D) := h
    refine ⟨(xdAcc D (text k)).2, ?_⟩
    show (match xdRn text D0 k with
      | (none, D) => xdNext k (xdAcc D (text k))
      | (some f, D) => (some f, D)) = _
    rw [h1]
    show xdNext k (xdAcc D (text k)) = _
    unfold xdNext
    rw [if_neg (by rw [ha]; decide)]
  | n + 1 => by
    obtain ⟨D', e⟩ := xRch.stop h ha n
    refine ⟨D', ?_⟩
    show (match xdRn text D0 (k + 1 + n) with
      | (none, D) => xdNext (k + 1 + n) (xdAcc D (text (k + 1 + n)))
      | (some f, D) => (some f, D)) = _
    rw [e]
theorem xRch.fault {text : Nat → Int32} {D0 D : XD} {k tl : Nat} (h : xRch text D0 k D) (ha : (xdAcc D (text k)).1 = false) (hk : k < tl) : xdFault (xdRn text D0 tl) tl = nI k := by
  obtain ⟨D', e⟩ := h.stop ha (tl - (k + 1))
  rw [show k + 1 + (tl - (k + 1)) = tl by omega] at e
  rw [e]
  rfl
theorem xRch.done {text : Nat → Int32} {D0 D : XD} {tl : Nat} (h : xRch text D0 tl D) : xdFault (xdRn text D0 tl) tl = if D.2.1 = 0 ∨ D.2.2.1 = 0 then nI tl else -1 := by
  rw [show xdRn text D0 tl = (none, D) from h]
  rfl
theorem xlet_lt {text : Nat → Int32} {tl j : Nat} (h : j < tl) : xlet text tl j = text j := if_pos h
theorem xlet_ge {text : Nat → Int32} {tl j : Nat} (h : ¬ j < tl) : xlet text tl j = -1 := if_neg h
theorem xlet_d {text : Nat → Int32} {tl j : Nat} (h : nI 48 ≤ xlet text tl j ∧ xlet text tl j ≤ nI 57) : j < tl ∧ ∃ c : Nat, c ≤ 9 ∧ text j = nI (c + 48) := by
  by_cases q : j < tl
  · rw [xlet_lt q] at h
    obtain ⟨m, h1, h2, h3⟩ := xnat_in (by decide) (by decide) h
    exact ⟨q, m - 48, by omega, by rw [h3]; congr 1; omega⟩
  · rw [xlet_ge q] at h
    exact absurd h.1 (by decide)
theorem xupR_at (R : Nat → Nat → Int32) (p : Nat) (f : Nat → Int32) : xupR R p f p = f := if_pos rfl
theorem xupR_ne (R : Nat → Nat → Int32) {p q : Nat} (f : Nat → Int32) (h : q ≠ p) : xupR R p f q = R q := if_neg h
theorem xupR_2 (R : Nat → Nat → Int32) (p : Nat) (f g : Nat → Int32) : xupR (xupR R p f) p g = xupR R p g := by
  funext q
  by_cases h : q = p
  · rw [h, xupR_at, xupR_at]
  · rw [xupR_ne _ _ h, xupR_ne _ _ h, xupR_ne _ _ h]
theorem upd_2 (f : Nat → Int32) (k : Nat) (x y : Int32) : upd (upd f k x) k y = upd f k y := by
  funext q
  by_cases h : q = k
  · rw [h, upd_at, upd_at]
  · rw [upd_ne _ _ h, upd_ne _ _ h, upd_ne _ _ h]
/-- a part with m digits, which make v -/
def xDm (D : XD) (m : Nat) (v : Int32) : XD := (D.1, D.2.1, m, xupR D.2.2.2 D.2.1 (upd (D.2.2.2 D.2.1) (D.1 - 1) v))
theorem xdDig_1 {D : XD} (hd : D.2.2.1 = 0) (x : Int32) : xdDig D x = (true, xDm D 1 x) := by
  unfold xdDig xDm
  rw [if_neg (fun q => by rcases q with q | q <;> omega), if_pos hd, hd]
theorem xDm_v (D : XD) (m : Nat) (v : Int32) : (xDm D m v).2.2.2 (xDm D m v).2.1 ((xDm D m v).1 - 1) = v := by
  show xupR D.2.2.2 D.2.1 (upd (D.2.2.2 D.2.1) (D.1 - 1) v) D.2.1 (D.1 - 1) = v
  rw [xupR_at, upd_at]
theorem xdDig_n {D : XD} {m : Nat} {v x : Int32} (hm : (m = 1 ∧ v ≠ 0) ∨ m = 2) : xdDig (xDm D m v) x = (true, xDm D (m + 1) (v * nI 10 + x)) := by
  unfold xdDig
  rw [xDm_v]
  have hn : ¬ (((xDm D m v).2.2.1 = 1 ∧ v = 0) ∨ (xDm D m v).2.2.1 = 3) := by
    show ¬ ((m = 1 ∧ v = 0) ∨ m = 3)
    rintro (⟨q1, q2⟩ | q)
    · rcases hm with ⟨-, r⟩ | r
      · exact r q2
      · omega
    · omega
  rw [if_neg hn, if_neg (show ¬ (xDm D m v).2.2.1 = 0 from by show ¬ m = 0; omega)]
  show (true, D.1, D.2.1, m + 1, xupR (xupR D.2.2.2 D.2.1 (upd (D.2.2.2 D.2.1) (D.1 - 1) v)) D.2.1 (upd (xupR D.2.2.2 D.2.1 (upd (D.2.2.2 D.2.1) (D.1 - 1) v) D.2.1) (D.1 - 1) (v * nI 10 + x))) = _
  rw [xupR_2, xupR_at, upd_2]
  rfl
theorem xdDig_no {D : XD} {m : Nat} {v x : Int32} (hm : (m = 1 ∧ v = 0) ∨ m = 3) : (xdDig (xDm D m v) x).1 = false := by
  unfold xdDig
  rw [xDm_v, if_pos (show ((xDm D m v).2.2.1 = 1 ∧ v = 0) ∨ (xDm D m v).2.2.1 = 3 from hm)]
theorem xdAcc_d {D : XD} {ch : Int32} (h : nI 48 ≤ ch ∧ ch ≤ nI 57) : xdAcc D ch = xdDig D (ch - nI 48) := if_pos h
theorem xRzrl {text : Nat → Int32} {D0 D : XD} {tl : Nat} : ∀ (f m v a : Nat), m + f = 3 → ((m = 1 ∧ v ≤ 9) ∨ (m = 2 ∧ 1 ≤ v ∧ v ≤ 99) ∨ (m = 3 ∧ v ≤ 999)) → xRch text D0 a (xDm D m (nI v)) → a ≤ tl →
    ∃ m' v' : Nat, m ≤ m' ∧ m' ≤ 3 ∧ v' ≤ 999 ∧ zrl text tl f (nI v) a = (nI v', a + (m' - m)) ∧ a + (m' - m) ≤ tl ∧ xRch text D0 (a + (m' - m)) (xDm D m' (nI v')) ∧ (nI 48 ≤ xlet text tl (a + (m' - m)) ∧ xlet text tl (a + (m' - m)) ≤ nI 57 → (xdAcc (xDm D m' (nI v')) (text (a + (m' - m)))).1 = false)
  | 0, m, v, a, hm, hv, h, ha => by
    refine ⟨m, v, Nat.le_refl _, by omega, by omega, ?_, by omega, ?_, fun q => ?_⟩
    · rw [Nat.sub_self]; rfl
    · rw [Nat.sub_self]; exact h
    · rw [Nat.sub_self] at q ⊢
      have q : nI 48 ≤ xlet text tl a ∧ xlet text tl a ≤ nI 57 := q
      obtain ⟨h1, c, h2, h3⟩ := xlet_d q
      rw [xlet_lt h1] at q
      show (xdAcc (xDm D m (nI v)) (text a)).1 = false
      rw [xdAcc_d q]
      exact xdDig_no (Or.inr (by omega))
  | f + 1, m, v, a, hm, hv, h, ha => by
    by_cases hc : ¬ nI v ≤ 0 ∧ (nI 48 ≤ xlet text tl a ∧ xlet text tl a ≤ nI 57)
    · obtain ⟨hv0, hd⟩ := hc
      obtain ⟨h1, c, h2, h3⟩ := xlet_d hd
      have hv1 : v ≠ 0 := fun e => hv0 (by rw [e]; decide)
      have hn : xRch text D0 (a + 1) (xDm D (m + 1) (nI (v * 10 + c))) := by
        refine h.next ?_
        rw [xlet_lt h1] at hd
        rw [xdAcc_d hd, h3, nI_sub (by omega), xdDig_n (by
          by_cases e : m = 1
          · exact Or.inl ⟨e, fun q => hv1 (nI_inj (by omega) (by omega) q)⟩
          · exact Or.inr (by omega)), nI_mul, nI_add, Nat.add_sub_cancel]
      obtain ⟨m', v', r1, r2, r3, r4, r5, r6, r7⟩ := xRzrl (tl := tl) f (m + 1) (v * 10 + c) (a + 1) (by omega) (by omega) hn (by omega)
      have e1 : a + 1 + (m' - (m + 1)) = a + (m' - m) := by omega
      rw [e1] at r4 r5 r6 r7
      refine ⟨m', v', by omega, r2, r3, ?_, r5, r6, r7⟩
      rw [← r4]
      have e2 : zrl text tl (f + 1) (nI v) a = zrl text tl f ((nI 10 * nI v + xlet text tl a) - nI 48) (a + 1) := if_pos ⟨hv0, hd⟩
      rw [e2, xlet_lt h1, h3, nI_mul, nI_add, nI_sub (by omega)]
      congr 2
      omega
    · have e2 : zrl text tl (f + 1) (nI v) a = (nI v, a) := if_neg hc
      refine ⟨m, v, Nat.le_refl _, by omega, by omega, ?_, by omega, ?_, fun q => ?_⟩
      · rw [Nat.sub_self]; exact e2
      · rw [Nat.sub_self]; exact h
      · rw [Nat.sub_self] at q ⊢
        have q : nI 48 ≤ xlet text tl a ∧ xlet text tl a ≤ nI 57 := q
        have hv0 : v = 0 := by
          refine Classical.byContradiction fun e => hc ⟨fun q2 => e ?_, q⟩
          exact (nI_le0 (by omega)).mp q2
        obtain ⟨h1, c, h2, h3⟩ := xlet_d q
        rw [xlet_lt h1] at q
        show (xdAcc (xDm D m (nI v)) (text a)).1 = false
        rw [xdAcc_d q]
        exact xdDig_no (Or.inl ⟨by omega, by rw [hv0]; rfl⟩)
/-- a number, read by both -/
theorem xRnum {text : Nat → Int32} {D0 D : XD} {a tl : Nat} (h : xRch text D0 a D) (hd : D.2.2.1 = 0) (ha : a ≤ tl) (htl : tl ≤ 60) :
    ((zrn text tl a).2.2 = nI a ∧ xdFault (xdRn text D0 tl) tl = nI a) ∨
    ((zrn text tl a).2.2 = -5 ∧ ∃ m v : Nat, 1 ≤ m ∧ m ≤ 3 ∧ v ≤ 999 ∧ (zrn text tl a).1 = nI v ∧ (zrn text tl a).2.1 = a + m ∧ a + m ≤ tl ∧ xRch text D0 (a + m) (xDm D m (nI v)) ∧ (nI 48 ≤ xlet text tl (a + m) ∧ xlet text tl (a + m) ≤ nI 57 → (xdAcc (xDm D m (nI v)) (text (a + m))).1 = false)) := by
  by_cases hc : nI 48 ≤ xlet text tl a ∧ xlet text tl a ≤ nI 57
  · refine Or.inr ?_
    have e : zrn text tl a = ((zrl text tl 2 (xlet text tl a - nI 48) (a + 1)).1, (zrl text tl 2 (xlet text tl a - nI 48) (a + 1)).2, -5) := if_pos hc
    obtain ⟨h1, c, h2, h3⟩ := xlet_d hc
    have hn : xRch text D0 (a + 1) (xDm D 1 (nI c)) := by
      refine h.next ?_
      have hc2 := hc
      rw [xlet_lt h1] at hc2
      rw [xdAcc_d hc2, h3, nI_sub (by omega), Nat.add_sub_cancel, xdDig_1 hd]
    obtain ⟨m', v', r1, r2, r3, r4, r5, r6, r7⟩ := xRzrl (tl := tl) 2 1 c (a + 1) (by omega) (by omega) hn (by omega)
    have e1 : a + 1 + (m' - 1) = a + m' := by omega
    rw [e1] at r4 r5 r6 r7
    rw [e, xlet_lt h1, h3, nI_sub (by omega), Nat.add_sub_cancel, r4]
    exact ⟨rfl, m', v', r1, r2, r3, rfl, rfl, r5, r6, r7⟩
  · refine Or.inl ?_
    have e : zrn text tl a = (nI 0, a, nI a) := if_neg hc
    rw [e]
    refine ⟨rfl, ?_⟩
    by_cases hlt : a < tl
    · refine h.fault ?_ hlt
      rw [xlet_lt hlt] at hc
      unfold xdAcc
      rw [if_neg hc, if_pos hd]
    · have : a = tl := by omega
      subst this
      rw [h.done, if_pos (Or.inr hd)]
/-- the numbers of an entry, of both -/
def xRowE (R : Nat → Nat → Int32) (row : Nat → Int32) (e : Nat) : Prop := R 0 e = row (3 * e) ∧ R 1 e = row (3 * e + 1) ∧ ((R 2 e = -1 ∧ row (3 * e + 2) = -5) ∨ ∃ v : Nat, v ≤ 999 ∧ R 2 e = nI v ∧ row (3 * e + 2) = nI v)
theorem xRowE.congr {R R' : Nat → Nat → Int32} {row row' : Nat → Int32} {e : Nat} (h : xRowE R row e) (h1 : ∀ p, R' p e = R p e) (h2 : ∀ j, j < 3 * e + 3 → row' j = row j) : xRowE R' row' e := by
  unfold xRowE
  rw [h1, h1, h1, h2 _ (by omega), h2 _ (by omega), h2 _ (by omega)]
  exact h
theorem xdAcc_0 {D : XD} {ch : Int32} (hd : ¬ (nI 48 ≤ ch ∧ ch ≤ nI 57)) (h0 : ¬ D.2.2.1 = 0) (hp : D.2.1 = 0) : xdAcc D ch = if ch = nI 120 then (true, xdPart D 1) else (false, D) := by
  unfold xdAcc
  rw [if_neg hd, if_neg h0, if_pos hp]
theorem xdAcc_1 {D : XD} {ch : Int32} (hd : ¬ (nI 48 ≤ ch ∧ ch ≤ nI 57)) (h0 : ¬ D.2.2.1 = 0) (hp : D.2.1 = 1) : xdAcc D ch = if ch = nI 47 then (true, xdPart D 2) else if ch = nI 44 then xdEntry D else (false, D) := by
  unfold xdAcc
  rw [if_neg hd, if_neg h0, if_neg (by omega)]
  by_cases c : ch = nI 47
  · rw [if_pos ⟨hp, c⟩, if_pos c]
  · rw [if_neg (fun q => c q.2), if_neg c]
theorem xdAcc_2 {D : XD} {ch : Int32} (hd : ¬ (nI 48 ≤ ch ∧ ch ≤ nI 57)) (h0 : ¬ D.2.2.1 = 0) (hp : D.2.1 = 2) : xdAcc D ch = if ch = nI 44 then xdEntry D else (false, D) := by
  unfold xdAcc
  rw [if_neg hd, if_neg h0, if_neg (by omega), if_neg (fun q => by omega)]
/-- an entry, read by both -/
theorem xRent {text : Nat → Int32} {D0 : XD} {R : Nat → Nat → Int32} {a tl en : Nat} (h : xRch text D0 a (en + 1, 0, 0, R)) (h2 : R 2 en = -1) (ha : a ≤ tl) (htl : tl ≤ 60) (row : Nat → Int32) :
    (∃ k : Nat, k ≤ 60 ∧ (zrent text tl en a row).2.1 = nI k ∧ xdFault (xdRn text D0 tl) tl = nI k) ∨
    ((zrent text tl en a row).2.1 = -5 ∧ ∃ (p dg : Nat) (R' : Nat → Nat → Int32), p ≠ 0 ∧ dg ≠ 0 ∧ a + 3 ≤ (zrent text tl en a row).1 ∧ (zrent text tl en a row).1 ≤ tl ∧ xRch text D0 (zrent text tl en a row).1 (en + 1, p, dg, R') ∧
      xRowE R' (zrent text tl en a row).2.2 en ∧ (∀ e q, e ≠ en → R' q e = R q e) ∧ (∀ j, j < 3 * en → (zrent text tl en a row).2.2 j = row j) ∧
      ((zrent text tl en a row).1 < tl → (text (zrent text tl en a row).1 = nI 44 → xdAcc (en + 1, p, dg, R') (text (zrent text tl en a row).1) = xdEntry (en + 1, p, dg, R')) ∧ (text (zrent text tl en a row).1 ≠ nI 44 → (xdAcc (en + 1, p, dg, R') (text (zrent text tl en a row).1)).1 = false))) := by
  rcases xRnum h rfl ha htl with ⟨n1, n2⟩ | ⟨n1, m1, v1, m11, m12, hv1, n2, n3, n4, n5, n6⟩
  · refine Or.inl ⟨a, by omega, ?_, n2⟩
    unfold zrent
    rw [if_pos (by rw [n1]; exact nI_ne5 (by omega))]
    exact n1
  obtain ⟨R1, hR1⟩ : ∃ R1, R1 = xupR R 0 (upd (R 0) en (nI v1)) := ⟨_, rfl⟩
  have n5 : xRch text D0 (a + m1) (en + 1, 0, m1, R1) := by rw [hR1]; exact n5
  have n6 : nI 48 ≤ xlet text tl (a + m1) ∧ xlet text tl (a + m1) ≤ nI 57 → (xdAcc (en + 1, 0, m1, R1) (text (a + m1))).1 = false := by rw [hR1]; exact n6
  have d1 : ¬ ((en + 1, 0, m1, R1) : XD).2.2.1 = 0 := by show ¬ m1 = 0; omega
  by_cases c120 : xlet text tl (a + m1) = nI 120
  rotate_left
  · refine Or.inl ⟨a + m1, by omega, ?_, ?_⟩
    · unfold zrent
      rw [if_neg (fun q => q n1), if_pos (by rw [n3]; exact c120), n3]
    · by_cases hlt : a + m1 < tl
      · refine n5.fault ?_ hlt
        by_cases hd : nI 48 ≤ xlet text tl (a + m1) ∧ xlet text tl (a + m1) ≤ nI 57
        · exact n6 hd
        · rw [xlet_lt hlt] at hd c120
          rw [xdAcc_0 hd d1 rfl, if_neg c120]
      · have e : a + m1 = tl := by omega
        rw [e] at n5 ⊢
        exact n5.done.trans (if_pos (Or.inl rfl))
  have l1 : a + m1 < tl := Classical.byContradiction fun q => by
    rw [xlet_ge q] at c120
    exact absurd c120 (by decide)
  have t1 : text (a + m1) = nI 120 := (xlet_lt l1).symm.trans c120
  have s1 : xRch text D0 (a + m1 + 1) (en + 1, 1, 0, R1) := by
    refine n5.next ?_
    rw [t1, xdAcc_0 (by decide) d1 rfl, if_pos rfl]
    rfl
  rcases xRnum s1 rfl (by omega) htl with ⟨p1, p2⟩ | ⟨p1, m2, v2, m21, m22, hv2, p2, p3, p4, p5, p6⟩
  · refine Or.inl ⟨a + m1 + 1, by omega, ?_, p2⟩
    unfold zrent
    rw [if_neg (fun q => q n1), if_neg (by rw [n3]; exact fun q => q c120), n3, if_pos (by rw [p1]; exact nI_ne5 (by omega))]
    exact p1
  obtain ⟨R2, hR2⟩ : ∃ R2, R2 = xupR R1 1 (upd (R1 1) en (nI v2)) := ⟨_, rfl⟩
  have p5 : xRch text D0 (a + m1 + 1 + m2) (en + 1, 1, m2, R2) := by rw [hR2]; exact p5
  have p6 : nI 48 ≤ xlet text tl (a + m1 + 1 + m2) ∧ xlet text tl (a + m1 + 1 + m2) ≤ nI 57 → (xdAcc (en + 1, 1, m2, R2) (text (a + m1 + 1 + m2))).1 = false := by rw [hR2]; exact p6
  have d2 : ¬ ((en + 1, 1, m2, R2) : XD).2.2.1 = 0 := by show ¬ m2 = 0; omega
  have r20 : R2 0 en = nI v1 := by rw [hR2, xupR_ne _ _ (by decide), hR1, xupR_at, upd_at]
  have r21 : R2 1 en = nI v2 := by rw [hR2, xupR_at, upd_at]
  have r22 : R2 2 en = -1 := by rw [hR2, xupR_ne _ _ (by decide), hR1, xupR_ne _ _ (by decide), h2]
  have r2o : ∀ e q, e ≠ en → R2 q e = R q e := fun e q he => by
    have r1o : R1 q e = R q e := by
      rw [hR1]
      by_cases q0 : q = 0
      · rw [q0, xupR_at, upd_ne _ _ he]
      · rw [xupR_ne _ _ q0]
    rw [hR2, ← r1o]
    by_cases q1 : q = 1
    · rw [q1, xupR_at, upd_ne _ _ he]
    · rw [xupR_ne _ _ q1]
  by_cases c47 : xlet text tl (a + m1 + 1 + m2) = nI 47
  rotate_left
  · refine Or.inr ?_
    have e : zrent text tl en a row = (a + m1 + 1 + m2, -5, upd (upd (upd row (3 * en) (nI v1)) (3 * en + 1) (nI v2)) (3 * en + 2) (-5)) := by
      unfold zrent
      rw [if_neg (fun q => q n1), n3, if_neg (fun q => q c120), if_neg (fun q => q p1), p3, if_pos c47, p1, p2, n2]
    rw [e]
    refine ⟨rfl, 1, m2, R2, by decide, by omega, by show a + 3 ≤ a + m1 + 1 + m2; omega, p4, p5, ⟨?_, ?_, Or.inl ⟨r22, ?_⟩⟩, r2o, fun j hj => ?_, fun hlt => ?_⟩
    · show R2 0 en = upd (upd (upd row (3 * en) (nI v1)) (3 * en + 1) (nI v2)) (3 * en + 2) (-5) (3 * en)
      rw [r20, upd_ne _ _ (by omega), upd_ne _ _ (by omega), upd_at]
    · show R2 1 en = upd (upd (upd row (3 * en) (nI v1)) (3 * en + 1) (nI v2)) (3 * en + 2) (-5) (3 * en + 1)
      rw [r21, upd_ne _ _ (by omega), upd_at]
    · show upd (upd (upd row (3 * en) (nI v1)) (3 * en + 1) (nI v2)) (3 * en + 2) (-5) (3 * en + 2) = -5
      rw [upd_at]
    · show upd (upd (upd row (3 * en) (nI v1)) (3 * en + 1) (nI v2)) (3 * en + 2) (-5) j = row j
      rw [upd_ne _ _ (by omega), upd_ne _ _ (by omega), upd_ne _ _ (by omega)]
    · have hlt : a + m1 + 1 + m2 < tl := hlt
      show (text (a + m1 + 1 + m2) = nI 44 → xdAcc (en + 1, 1, m2, R2) (text (a + m1 + 1 + m2)) = xdEntry (en + 1, 1, m2, R2)) ∧ (text (a + m1 + 1 + m2) ≠ nI 44 → (xdAcc (en + 1, 1, m2, R2) (text (a + m1 + 1 + m2))).1 = false)
      refine ⟨fun q => ?_, fun q => ?_⟩
      · rw [q, xdAcc_1 (by decide) d2 rfl, if_neg (by decide), if_pos rfl]
      · by_cases hd : nI 48 ≤ xlet text tl (a + m1 + 1 + m2) ∧ xlet text tl (a + m1 + 1 + m2) ≤ nI 57
        · exact p6 hd
        · rw [xlet_lt hlt] at hd c47
          rw [xdAcc_1 hd d2 rfl, if_neg c47, if_neg q]
  have l2 : a + m1 + 1 + m2 < tl := Classical.byContradiction fun q => by
    rw [xlet_ge q] at c47
    exact absurd c47 (by decide)
  have t2 : text (a + m1 + 1 + m2) = nI 47 := (xlet_lt l2).symm.trans c47
  have s2 : xRch text D0 (a + m1 + 1 + m2 + 1) (en + 1, 2, 0, R2) := by
    refine p5.next ?_
    rw [t2, xdAcc_1 (by decide) d2 rfl, if_pos rfl]
    rfl
  rcases xRnum s2 rfl (by omega) htl with ⟨r1, r2⟩ | ⟨r1, m3, v3, m31, m32, hv3, r2, r3, r4, r5, r6⟩
  · refine Or.inl ⟨a + m1 + 1 + m2 + 1, by omega, ?_, r2⟩
    unfold zrent
    rw [if_neg (fun q => q n1), n3, if_neg (fun q => q c120), if_neg (fun q => q p1), p3, if_neg (fun q => q c47)]
    exact r1
  refine Or.inr ?_
  obtain ⟨R3, hR3⟩ : ∃ R3, R3 = xupR R2 2 (upd (R2 2) en (nI v3)) := ⟨_, rfl⟩
  have r5 : xRch text D0 (a + m1 + 1 + m2 + 1 + m3) (en + 1, 2, m3, R3) := by rw [hR3]; exact r5
  have r6 : nI 48 ≤ xlet text tl (a + m1 + 1 + m2 + 1 + m3) ∧ xlet text tl (a + m1 + 1 + m2 + 1 + m3) ≤ nI 57 → (xdAcc (en + 1, 2, m3, R3) (text (a + m1 + 1 + m2 + 1 + m3))).1 = false := by rw [hR3]; exact r6
  have d3 : ¬ ((en + 1, 2, m3, R3) : XD).2.2.1 = 0 := by show ¬ m3 = 0; omega
  have e : zrent text tl en a row = (a + m1 + 1 + m2 + 1 + m3, -5, upd (upd (upd (upd row (3 * en) (nI v1)) (3 * en + 1) (nI v2)) (3 * en + 2) (-5)) (3 * en + 2) (nI v3)) := by
    unfold zrent
    rw [if_neg (fun q => q n1), n3, if_neg (fun q => q c120), if_neg (fun q => q p1), p3, if_neg (fun q => q c47), r1, r2, r3, p2, n2]
  rw [e]
  refine ⟨rfl, 2, m3, R3, by decide, by omega, by show a + 3 ≤ a + m1 + 1 + m2 + 1 + m3; omega, r4, r5, ⟨?_, ?_, Or.inr ⟨v3, hv3, ?_, ?_⟩⟩, fun e q he => ?_, fun j hj => ?_, fun hlt => ?_⟩
  · show R3 0 en = upd (upd (upd (upd row (3 * en) (nI v1)) (3 * en + 1) (nI v2)) (3 * en + 2) (-5)) (3 * en + 2) (nI v3) (3 * en)
    rw [hR3, xupR_ne _ _ (by decide), r20, upd_ne _ _ (by omega), upd_ne _ _ (by omega), upd_ne _ _ (by omega), upd_at]
  · show R3 1 en = upd (upd (upd (upd row (3 * en) (nI v1)) (3 * en + 1) (nI v2)) (3 * en + 2) (-5)) (3 * en + 2) (nI v3) (3 * en + 1)
    rw [hR3, xupR_ne _ _ (by decide), r21, upd_ne _ _ (by omega), upd_ne _ _ (by omega), upd_at]
  · rw [hR3, xupR_at, upd_at]
  · show upd (upd (upd (upd row (3 * en) (nI v1)) (3 * en + 1) (nI v2)) (3 * en + 2) (-5)) (3 * en + 2) (nI v3) (3 * en + 2) = nI v3
    rw [upd_at]
  · rw [hR3, ← r2o e q he]
    by_cases q2 : q = 2
    · rw [q2, xupR_at, upd_ne _ _ he]
    · rw [xupR_ne _ _ q2]
  · show upd (upd (upd (upd row (3 * en) (nI v1)) (3 * en + 1) (nI v2)) (3 * en + 2) (-5)) (3 * en + 2) (nI v3) j = row j
    rw [upd_ne _ _ (by omega), upd_ne _ _ (by omega), upd_ne _ _ (by omega), upd_ne _ _ (by omega)]
  · have hlt : a + m1 + 1 + m2 + 1 + m3 < tl := hlt
    show (text (a + m1 + 1 + m2 + 1 + m3) = nI 44 → xdAcc (en + 1, 2, m3, R3) (text (a + m1 + 1 + m2 + 1 + m3)) = xdEntry (en + 1, 2, m3, R3)) ∧ (text (a + m1 + 1 + m2 + 1 + m3) ≠ nI 44 → (xdAcc (en + 1, 2, m3, R3) (text (a + m1 + 1 + m2 + 1 + m3))).1 = false)
    refine ⟨fun q => ?_, fun q => ?_⟩
    · rw [q, xdAcc_2 (by decide) d3 rfl, if_pos rfl]
    · by_cases hd : nI 48 ≤ xlet text tl (a + m1 + 1 + m2 + 1 + m3) ∧ xlet text tl (a + m1 + 1 + m2 + 1 + m3) ≤ nI 57
      · exact r6 hd
      · rw [xlet_lt hlt] at hd
        rw [xdAcc_2 hd d3 rfl, if_neg q]
/-- the whole text, read by both -/
theorem xRall {text : Nat → Int32} {D0 : XD} {tl : Nat} (htl : tl ≤ 60) : ∀ (f a en : Nat) (R : Nat → Nat → Int32) (row : Nat → Int32), xRch text D0 a (en + 1, 0, 0, R) → R 2 en = -1 → a ≤ tl → tl < a + 4 * f → 4 * en ≤ a → (∀ e, e < en → xRowE R row e) →
    (∃ k : Nat, k ≤ 60 ∧ (zrt text tl f a en row).2.1 = nI k ∧ xdFault (xdRn text D0 tl) tl = nI k) ∨
    ((zrt text tl f a en row).2.1 = -5 ∧ xdFault (xdRn text D0 tl) tl = -1 ∧ (xdRn text D0 tl).2.1 = (zrt text tl f a en row).2.2.1 ∧ ∀ e, e < (zrt text tl f a en row).2.2.1 → xRowE (xdRn text D0 tl).2.2.2.2 (zrt text tl f a en row).2.2.2 e)
  | 0, a, en, R, row, h, h2, ha, hf, h4, hr => by omega
  | f + 1, a, en, R, row, h, h2, ha, hf, h4, hr => by
    have hrn : ∀ {R' : Nat → Nat → Int32}, (∀ e q, e ≠ en → R' q e = R q e) → (∀ j, j < 3 * en → (zrent text tl en a row).2.2 j = row j) → xRowE R' (zrent text tl en a row).2.2 en → ∀ e, e < en + 1 → xRowE R' (zrent text tl en a row).2.2 e := fun {R'} q1 q2 q3 e he => by
      by_cases e1 : e = en
      · rw [e1]; exact q3
      · exact (hr e (by omega)).congr (fun p => q1 e p e1) (fun j hj => q2 j (by omega))
    rcases xRent h h2 ha htl row with ⟨k, k1, k2, k3⟩ | ⟨k1, p, dg, R', k2, k3, k4, k5, k6, k7, k8, k9, k10⟩
    · refine Or.inl ⟨k, k1, ?_, k3⟩
      have e : zrt text tl (f + 1) a en row = ((zrent text tl en a row).1 + 1, (zrent text tl en a row).2.1, en + 1, (zrent text tl en a row).2.2) := if_pos (fun q => by
        rw [k2] at q
        exact nI_ne5 (by omega) q.1)
      rw [e]
      exact k2
    by_cases hlt : (zrent text tl en a row).1 < tl
    rotate_left
    · refine Or.inr ?_
      have e : zrt text tl (f + 1) a en row = ((zrent text tl en a row).1 + 1, (zrent text tl en a row).2.1, en + 1, (zrent text tl en a row).2.2) := if_pos (fun q => hlt q.2)
      have e1 : (zrent text tl en a row).1 = tl := by omega
      rw [e1] at k6
      have e2 : xdRn text D0 tl = (none, en + 1, p, dg, R') := k6
      rw [e]
      refine ⟨k1, ?_, ?_, ?_⟩
      · rw [k6.done, if_neg (fun q => by
          have q : p = 0 ∨ dg = 0 := q
          omega)]
      · rw [e2]
      · rw [e2]
        exact hrn k8 k9 k7
    by_cases hc : text (zrent text tl en a row).1 = nI 44
    rotate_left
    · refine Or.inl ⟨(zrent text tl en a row).1, by omega, ?_, k6.fault ((k10 hlt).2 hc) hlt⟩
      have e : zrt text tl (f + 1) a en row = ((zrent text tl en a row).1 + 1, nI (zrent text tl en a row).1, en + 1, (zrent text tl en a row).2.2) := (if_neg (fun q => q ⟨k1, hlt⟩)).trans (if_pos (by rw [xlet_lt hlt]; exact hc))
      rw [e]
    have e : zrt text tl (f + 1) a en row = zrt text tl f ((zrent text tl en a row).1 + 1) (en + 1) (zrent text tl en a row).2.2 := (if_neg (fun q => q ⟨k1, hlt⟩)).trans (if_neg (by rw [xlet_lt hlt]; exact fun q => q hc))
    rw [e]
    have en16 : ¬ 16 ≤ en + 1 := by omega
    have e3 : xdEntry (en + 1, p, dg, R') = (true, en + 1 + 1, 0, 0, xupR R' 2 (upd (R' 2) (en + 1) (-1))) := if_neg en16
    have s3 := k6.next (((k10 hlt).1 hc).trans e3)
    refine xRall htl f _ (en + 1) _ _ s3 ?_ (by omega) (by omega) (by omega) (fun e he => ?_)
    · rw [xupR_at, upd_at]
    · refine (hrn k8 k9 k7 e he).congr (fun q => ?_) (fun _ _ => rfl)
      by_cases q2 : q = 2
      · rw [q2, xupR_at, upd_ne _ _ (by omega)]
      · rw [xupR_ne _ _ q2]
theorem qText {text : Nat → Int32} {tl dp dd : Nat} (htl : tl ≤ 60) (R : Nat → Nat → Int32) (row : Nat → Int32) :
    (∃ k : Nat, k ≤ 60 ∧ (zrt text tl 16 0 0 row).2.1 = nI k ∧ xdFault (xdRn text (xdEntry (0, dp, dd, R)).2 tl) tl = nI k) ∨
    ((zrt text tl 16 0 0 row).2.1 = -5 ∧ xdFault (xdRn text (xdEntry (0, dp, dd, R)).2 tl) tl = -1 ∧ (xdRn text (xdEntry (0, dp, dd, R)).2 tl).2.1 = (zrt text tl 16 0 0 row).2.2.1 ∧ ∀ e, e < (zrt text tl 16 0 0 row).2.2.1 → xRowE (xdRn text (xdEntry (0, dp, dd, R)).2 tl).2.2.2.2 (zrt text tl 16 0 0 row).2.2.2 e) := by
  have e : xdEntry (0, dp, dd, R) = (true, 0 + 1, 0, 0, xupR R 2 (upd (R 2) 0 (-1))) := if_neg (show ¬ 16 ≤ 0 by decide)
  rw [e]
  refine xRall htl 16 0 0 (xupR R 2 (upd (R 2) 0 (-1))) row (show xRch text (0 + 1, 0, 0, xupR R 2 (upd (R 2) 0 (-1))) 0 (0 + 1, 0, 0, xupR R 2 (upd (R 2) 0 (-1))) from rfl) ?_ (by omega) (by omega) (by omega) (fun e he => by omega)
  rw [xupR_at, upd_at]
