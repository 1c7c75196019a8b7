/-! One step of both: the log, goods, settings. -/
theorem znote_low (z : Nat → Int32) (k b u : Int32) {j : Nat} (h : j < 962) (h9 : j ≠ 9) : znote z k b u j = z j := by
  unfold znote znt
  rw [upd_ne _ _ h9, upd_ne _ _ (by omega), upd_ne _ _ (by omega), upd_ne _ _ (by omega), upd_ne _ _ (by omega)]
  unfold zshr
  rw [if_neg (by omega)]
theorem znote_9 (z : Nat → Int32) (k b u : Int32) {lz : Nat} (h : z 9 = nI lz) (hl : lz ≤ 10) : znote z k b u 9 = nI (min (lz + 1) 10) := by
  have e : znt z k b u 9 = nI lz := by
    unfold znt
    rw [upd_ne _ _ (by omega), upd_ne _ _ (by omega), upd_ne _ _ (by omega), upd_ne _ _ (by omega)]
    unfold zshr
    rw [if_neg (by omega), h]
  unfold znote
  rw [upd_at, e]
  by_cases h10 : lz < 10
  · rw [if_pos ((nI_lt_iff (by omega) (by omega)).mpr h10), nI_add, Nat.min_eq_left (by omega)]
  · rw [if_neg (fun q => h10 ((nI_lt_iff (by omega) (by omega)).mp q)), nI_add, Nat.min_eq_right (by omega)]
    congr 1
    omega
theorem znote_new (z : Nat → Int32) (k b u : Int32) : znote z k b u 962 = k ∧ znote z k b u 963 = b ∧ znote z k b u 964 = u ∧ znote z k b u 965 = z 0 := by
  unfold znote znt
  refine ⟨?_, ?_, ?_, ?_⟩
  · rw [upd_ne _ _ (by omega), upd_ne _ _ (by omega), upd_ne _ _ (by omega), upd_ne _ _ (by omega), upd_at]
  · rw [upd_ne _ _ (by omega), upd_ne _ _ (by omega), upd_ne _ _ (by omega), upd_at]
  · rw [upd_ne _ _ (by omega), upd_ne _ _ (by omega), upd_at]
  · rw [upd_ne _ _ (by omega), upd_at, upd_ne _ _ (by omega), upd_ne _ _ (by omega), upd_ne _ _ (by omega)]
    unfold zshr
    rw [if_neg (by omega)]
theorem znote_old (z : Nat → Int32) (k b u : Int32) {j : Nat} (h : 966 ≤ j) (h2 : j ≤ 1001) : znote z k b u j = z (j - 4) := by
  unfold znote znt
  rw [upd_ne _ _ (by omega), upd_ne _ _ (by omega), upd_ne _ _ (by omega), upd_ne _ _ (by omega), upd_ne _ _ (by omega)]
  unfold zshr
  rw [if_pos (by omega)]
/-- an event more -/
theorem rLog.step {nx : Nat} {T T' : Nat → Nat → Int32} {z : Nat → Int32} {kd b u : Int32} (hnx : nx < 10) (h : ∀ k, k < 10 → rLog nx T z k) (h4 : T' 34 = upd (T 34) nx kd) (h5 : T' 35 = upd (T 35) nx b) (h6 : T' 36 = upd (T 36) nx u) (h7 : T' 37 = upd (T 37) nx (z 0)) :
    ∀ k, k < 10 → rLog ((nx + 1) % 10) T' (znote z kd b u) k := by
  intro k hk
  unfold rLog
  rw [h4, h5, h6, h7]
  by_cases h0 : k = 0
  · subst h0
    rw [show ((nx + 1) % 10 + 9 - 0) % 10 = nx by omega, upd_at, upd_at, upd_at, upd_at]
    obtain ⟨a1, a2, a3, a4⟩ := znote_new z kd b u
    exact ⟨a1.symm, a2.symm, a3.symm, a4.symm⟩
  · obtain ⟨a1, a2, a3, a4⟩ := h (k - 1) (by omega)
    rw [show ((nx + 1) % 10 + 9 - k) % 10 = (nx + 9 - (k - 1)) % 10 by omega, upd_ne _ _ (by omega), upd_ne _ _ (by omega), upd_ne _ _ (by omega), upd_ne _ _ (by omega), znote_old z kd b u (by omega) (by omega), znote_old z kd b u (by omega) (by omega), znote_old z kd b u (by omega) (by omega), znote_old z kd b u (by omega) (by omega), a1, a2, a3, a4]
    exact ⟨by congr 1; omega, by congr 1; omega, by congr 1; omega, by congr 1; omega⟩
theorem rBat.congr {lo gz bz gz' : Nat} {T T' : Nat → Nat → Int32} {z z' : Nat → Int32} {b : Nat} (h : rBat lo gz bz T z b) (hb : b < 40) (hg : gz ≤ gz') (hT : ∀ k, 6 ≤ k → k ≤ 15 → T' k = T k) (hz : ∀ k, 94 ≤ k → k < 494 → z' k = z k) : rBat lo gz' bz T' z' b := by
  obtain ⟨⟨b1, b2, b3, b4, b5⟩, ⟨b6, b7, b8, b9, b10⟩, b11, b12⟩ := h
  unfold rBat zB
  rw [hT 6 (by omega) (by omega), hT 7 (by omega) (by omega), hT 8 (by omega) (by omega), hT 9 (by omega) (by omega), hT 10 (by omega) (by omega), hT 11 (by omega) (by omega), hT 12 (by omega) (by omega), hT 13 (by omega) (by omega), hT 14 (by omega) (by omega), hT 15 (by omega) (by omega),
    hz _ (by omega) (by omega), hz _ (by omega) (by omega), hz _ (by omega) (by omega), hz _ (by omega) (by omega), hz _ (by omega) (by omega), hz _ (by omega) (by omega), hz _ (by omega) (by omega), hz _ (by omega) (by omega), hz _ (by omega) (by omega), hz _ (by omega) (by omega)]
  refine ⟨⟨b1, b2, b3, b4, b5⟩, ⟨b6, b7, b8, b9, b10⟩, fun hq => ?_, b12⟩
  obtain ⟨⟨g, g1, g2⟩, d⟩ := b11 hq
  exact ⟨⟨g, by omega, g2⟩, d⟩
theorem rOrd.congr {oz tk : Nat} {T T' : Nat → Nat → Int32} {z z' : Nat → Int32} {o : Nat} (h : rOrd oz tk T z o) (ho : o < 30) (hT : ∀ k, 18 ≤ k → k ≤ 27 → T' k = T k) (hz : ∀ k, 494 ≤ k → k < 794 → z' k = z k) : rOrd oz tk T' z' o := by
  obtain ⟨⟨b1, b2, b3, b4, b5⟩, ⟨b6, b7, b8, b9, b10⟩, b11⟩ := h
  unfold rOrd zO
  rw [hT 18 (by omega) (by omega), hT 19 (by omega) (by omega), hT 20 (by omega) (by omega), hT 21 (by omega) (by omega), hT 22 (by omega) (by omega), hT 23 (by omega) (by omega), hT 24 (by omega) (by omega), hT 25 (by omega) (by omega), hT 26 (by omega) (by omega), hT 27 (by omega) (by omega),
    hz _ (by omega) (by omega), hz _ (by omega) (by omega), hz _ (by omega) (by omega), hz _ (by omega) (by omega), hz _ (by omega) (by omega), hz _ (by omega) (by omega), hz _ (by omega) (by omega), hz _ (by omega) (by omega), hz _ (by omega) (by omega), hz _ (by omega) (by omega)]
  exact ⟨⟨b1, b2, b3, b4, b5⟩, ⟨b6, b7, b8, b9, b10⟩, b11⟩
theorem rGood.congr {gz : Nat} {T T' : Nat → Nat → Int32} {z z' : Nat → Int32} {g : Nat} (h : rGood gz T z g) (hg : g < 12) (hT : ∀ k, 1 ≤ k → k ≤ 4 → T' k = T k) (hz : ∀ k, 10 ≤ k → k < 94 → z' k = z k) : rGood gz T' z' g := by
  obtain ⟨b1, b2, b3, lm, b4, b5, b6, b7, b8⟩ := h
  unfold rGood zG
  rw [hT 1 (by omega) (by omega), hT 2 (by omega) (by omega), hT 3 (by omega) (by omega), hT 4 (by omega) (by omega), hz _ (by omega) (by omega), hz _ (by omega) (by omega), hz _ (by omega) (by omega)]
  refine ⟨b1, b2, b3, lm, b4, b5, b6, b7, fun j hj => ?_⟩
  rw [hz _ (by omega) (by omega)]
  exact b8 j hj
theorem rStg.congr {T T' : Nat → Nat → Int32} {z z' : Nat → Int32} {s : Nat} (h : rStg T z s) (hs : s < 4) (h0 : T' 30 = T 30) (h1 : T' 31 = T 31) (hz : ∀ k, 954 ≤ k → k < 962 → z' k = z k) : rStg T' z' s := by
  unfold rStg
  rw [h0, h1, hz _ (by omega) (by omega), hz _ (by omega) (by omega)]
  exact h
theorem rLog.congr {nx : Nat} {T T' : Nat → Nat → Int32} {z z' : Nat → Int32} {k : Nat} (h : rLog nx T z k) (hk : k < 10) (hT : ∀ k, 34 ≤ k → k ≤ 37 → T' k = T k) (hz : ∀ k, 962 ≤ k → k < 1002 → z' k = z k) : rLog nx T' z' k := by
  unfold rLog
  rw [hT 34 (by omega) (by omega), hT 35 (by omega) (by omega), hT 36 (by omega) (by omega), hT 37 (by omega) (by omega), hz _ (by omega) (by omega), hz _ (by omega) (by omega), hz _ (by omega) (by omega), hz _ (by omega) (by omega)]
  exact h
theorem xT_ne (T : Nat → Nat → Int32) {k j : Nat} (f : Nat → Int32) (h : j ≠ k) : xT T k f j = T j := by
  show cond (Nat.beq j k) f (T j) = T j
  rw [show Nat.beq j k = false from by
    cases e : Nat.beq j k with
    | false => rfl
    | true => exact absurd (Nat.eq_of_beq_eq_true e) h]
  rfl
theorem zaddg_ne {z : Nat → Int32} {price life : Int32} {gz k : Nat} (h1 : k ≠ 1) (h2 : k ≠ 10 + 7 * gz) (h3 : k ≠ 10 + 7 * gz + 1) : zaddg z price life gz k = z k := by
  unfold zaddg
  rw [upd_ne _ _ h3, upd_ne _ _ (by omega), upd_ne _ _ h1]
theorem xnat_in {x : Int32} {lo hi : Nat} (hl : lo < 2 ^ 31) (hh : hi < 2 ^ 31) (h : nI lo ≤ x ∧ x ≤ nI hi) : ∃ m : Nat, lo ≤ m ∧ m ≤ hi ∧ x = nI m := by
  have e1 := Int32.le_iff_toInt_le.mp h.1
  have e2 := Int32.le_iff_toInt_le.mp h.2
  rw [nI_toInt hh] at e2
  rw [nI_toInt hl] at e1
  refine ⟨x.toInt.toNat, by omega, by omega, Int32.toInt_inj.mp ?_⟩
  rw [nI_toInt (by omega)]
  omega
theorem rAddGood {lo gz bz oz tk lz nx : Nat} {T : Nat → Nat → Int32} {z : Nat → Int32} {price life : Int32} (h : RelN lo gz bz oz tk lz nx T z) (hg : gz < 12) (hli : nI 1 ≤ life ∧ life ≤ nI 60) :
    RelN lo (gz + 1) bz oz tk lz nx (xT (xT (xT T 0 (fun _ => nI (gz + 1))) 1 (upd (T 1) gz price)) 2 (upd (T 2) gz life)) (zaddg z price life gz) := by
  obtain ⟨⟨⟨n1, n2, n3, n4, n5, n6⟩, ⟨c1, c2, c3, c4, c5, c6⟩, ⟨a1, a2, a3, a4, a5, a6, a7⟩, h4⟩, hG, hb, ho, ht, hs, hl, hw⟩ := h
  refine ⟨⟨⟨by omega, n2, n3, n4, n5, n6⟩, ⟨rfl, c2, c3, c4, c5, c6⟩, ?_, h4⟩, fun g hg1 => ?_, fun b hb1 => ?_, fun o ho1 => ?_, fun k hk => ?_, fun s hs1 => ?_, fun k hk => ?_, fun w hw1 => ?_⟩
  · refine ⟨?_, (zaddg_ne (by omega) (by omega) (by omega)).trans a2, (zaddg_ne (by omega) (by omega) (by omega)).trans a3, (zaddg_ne (by omega) (by omega) (by omega)).trans a4, (zaddg_ne (by omega) (by omega) (by omega)).trans a5, a6.trans (zaddg_ne (by omega) (by omega) (by omega)).symm, a7.trans (zaddg_ne (by omega) (by omega) (by omega)).symm⟩
    unfold zaddg
    rw [upd_ne _ _ (by omega), upd_ne _ _ (by omega), upd_at]
  · obtain ⟨b1, b2, b3, lm, b4, b5, b6, b7, b8⟩ := hG g hg1
    show upd (T 1) gz price g = zG (zaddg z price life gz) g 0 ∧ upd (T 2) gz life g = zG (zaddg z price life gz) g 1 ∧ (g < gz + 1 → ∃ m : Nat, (1 ≤ m ∧ m ≤ 60) ∧ upd (T 2) gz life g = nI m) ∧ ∃ lm : Nat, lm ≤ 4 ∧ (gz + 1 ≤ g → lm = 0) ∧ T 3 g = nI lm ∧ zG (zaddg z price life gz) g 2 = nI lm ∧ ∀ j, j < lm → ∃ e : Nat, e < gz + 1 ∧ e ≠ g ∧ T 4 (g * 4 + j) = nI e ∧ zaddg z price life gz (10 + 7 * g + 3 + j) = nI e
    have e2 : zG (zaddg z price life gz) g 2 = zG z g 2 := zaddg_ne (by omega) (by omega) (by omega)
    have hrest : ∃ lm : Nat, lm ≤ 4 ∧ (gz + 1 ≤ g → lm = 0) ∧ T 3 g = nI lm ∧ zG (zaddg z price life gz) g 2 = nI lm ∧ ∀ j, j < lm → ∃ e : Nat, e < gz + 1 ∧ e ≠ g ∧ T 4 (g * 4 + j) = nI e ∧ zaddg z price life gz (10 + 7 * g + 3 + j) = nI e := by
      refine ⟨lm, b4, fun h => b5 (by omega), b6, e2.trans b7, fun j hj => ?_⟩
      obtain ⟨e, q1, q2, q3, q4⟩ := b8 j hj
      exact ⟨e, by omega, q2, q3, by rw [zaddg_ne (by omega) (by omega) (by omega)]; exact q4⟩
    by_cases hgg : g = gz
    · subst hgg
      refine ⟨?_, ?_, fun _ => ?_, hrest⟩
      · rw [upd_at]
        unfold zaddg zG
        rw [upd_ne _ _ (by omega), upd_at]
      · rw [upd_at]
        unfold zaddg zG
        rw [upd_at]
      · rw [upd_at]
        obtain ⟨m, h1, h2, rfl⟩ := xnat_in (by decide) (by decide) hli
        exact ⟨m, ⟨h1, h2⟩, rfl⟩
    · rw [upd_ne _ _ hgg, upd_ne _ _ hgg]
      refine ⟨?_, ?_, fun h => b3 (by omega), hrest⟩
      · unfold zG
        rw [zaddg_ne (by omega) (by omega) (by omega)]
        exact b1
      · unfold zG
        rw [zaddg_ne (by omega) (by omega) (by omega)]
        exact b2
  · exact (hb b hb1).congr hb1 (by omega) (fun k h1 h2 => by rw [xT_ne _ _ (by omega), xT_ne _ _ (by omega), xT_ne _ _ (by omega)]) (fun k h1 h2 => zaddg_ne (by omega) (by omega) (by omega))
  · exact (ho o ho1).congr ho1 (fun k h1 h2 => by rw [xT_ne _ _ (by omega), xT_ne _ _ (by omega), xT_ne _ _ (by omega)]) (fun k h1 h2 => zaddg_ne (by omega) (by omega) (by omega))
  · rw [zaddg_ne (by omega) (by omega) (by omega), zaddg_ne (by omega) (by omega) (by omega)]
    exact ht k hk
  · exact (hs s hs1).congr hs1 rfl rfl (fun k h1 h2 => zaddg_ne (by omega) (by omega) (by omega))
  · exact (hl k hk).congr hk (fun k h1 h2 => by rw [xT_ne _ _ (by omega), xT_ne _ _ (by omega), xT_ne _ _ (by omega)]) (fun k h1 h2 => zaddg_ne (by omega) (by omega) (by omega))
  · rw [zaddg_ne (by omega) (by omega) (by omega)]
    exact hw w hw1
