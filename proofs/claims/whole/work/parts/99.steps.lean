/-! Steps of both: substitutes. -/
theorem xins_ne {f : Nat → Int32} {b n pl k : Nat} {sb : Int32} (hp : pl ≤ n) (h : k < b + pl ∨ b + n < k) : xins f b n pl sb k = f k := by
  unfold xins
  rw [if_neg (by omega), if_neg (by omega)]
theorem xins_at {f : Nat → Int32} {b n pl : Nat} {sb : Int32} : xins f b n pl sb (b + pl) = sb := if_pos rfl
theorem xins_old {f : Nat → Int32} {b n pl k : Nat} {sb : Int32} (h1 : b + pl < k) (h2 : k ≤ b + n) : xins f b n pl sb k = f (k - 1) := by
  unfold xins
  rw [if_neg (by omega), if_pos ⟨h1, h2⟩]
theorem xshl_ne {f : Nat → Int32} {b a e k : Nat} (h : k < b + a ∨ b + e ≤ k) : xshl f b a e k = f k := by
  unfold xshl
  rw [if_neg (by omega)]
theorem xshl_old {f : Nat → Int32} {b a e k : Nat} (h1 : b + a ≤ k) (h2 : k < b + e) : xshl f b a e k = f (k + 1) := by
  unfold xshl
  rw [if_pos ⟨h1, h2⟩]
theorem rAddSub {lo gz bz oz tk lz nx : Nat} {T : Nat → Nat → Int32} {z : Nat → Int32} {kg ks lm pl : Nat} (h : RelN lo gz bz oz tk lz nx T z) (hkg : kg < gz) (hks : ks < gz) (hkk : ks ≠ kg) (hlm : T 3 kg = nI lm) (hl4 : lm < 4) (hpl : pl ≤ lm) :
    RelN lo gz bz oz tk lz nx (xT (xT (xT T 0 (fun _ => nI gz)) 3 (upd (T 3) kg (nI (lm + 1)))) 4 (xins (T 4) (kg * 4) lm pl (nI ks))) (upd (xins z (10 + 7 * kg + 3) lm pl (nI ks)) (10 + 7 * kg + 2) (nI (lm + 1))) := by
  obtain ⟨⟨⟨n1, n2, n3, n4, n5, n6⟩, ⟨c1, c2, c3, c4, c5, c6⟩, ⟨a1, a2, a3, a4, a5, a6, a7⟩, hrb⟩, hG, hb, ho, ht, hs, hl, hw⟩ := h
  refine ⟨?_, fun g hg1 => ?_, fun b hb1 => ?_, fun o ho1 => ?_, fun k hk => ?_, fun s hs1 => ?_, fun k hk => ?_, fun w hw1 => ?_⟩
  · exact ⟨⟨n1, n2, n3, n4, n5, n6⟩, ⟨rfl, c2, c3, c4, c5, c6⟩, ⟨(((upd_ne _ _ (by omega)).trans (xins_ne (by omega) (by omega)))).trans a1, (((upd_ne _ _ (by omega)).trans (xins_ne (by omega) (by omega)))).trans a2, (((upd_ne _ _ (by omega)).trans (xins_ne (by omega) (by omega)))).trans a3, (((upd_ne _ _ (by omega)).trans (xins_ne (by omega) (by omega)))).trans a4, (((upd_ne _ _ (by omega)).trans (xins_ne (by omega) (by omega)))).trans a5, a6.trans (((upd_ne _ _ (by omega)).trans (xins_ne (by omega) (by omega)))).symm, a7.trans (((upd_ne _ _ (by omega)).trans (xins_ne (by omega) (by omega)))).symm⟩, hrb⟩
  · obtain ⟨b1, b2, b3, l0, b4, b5, b6, b7, b8⟩ := hG g hg1
    show T 1 g = zG (upd (xins z (10 + 7 * kg + 3) lm pl (nI ks)) (10 + 7 * kg + 2) (nI (lm + 1))) g 0 ∧ T 2 g = zG (upd (xins z (10 + 7 * kg + 3) lm pl (nI ks)) (10 + 7 * kg + 2) (nI (lm + 1))) g 1 ∧ (g < gz → ∃ m : Nat, (1 ≤ m ∧ m ≤ 60) ∧ T 2 g = nI m) ∧ ∃ l9 : Nat, l9 ≤ 4 ∧ (gz ≤ g → l9 = 0) ∧ upd (T 3) kg (nI (lm + 1)) g = nI l9 ∧ zG (upd (xins z (10 + 7 * kg + 3) lm pl (nI ks)) (10 + 7 * kg + 2) (nI (lm + 1))) g 2 = nI l9 ∧ ∀ j, j < l9 → ∃ e : Nat, e < gz ∧ e ≠ g ∧ xins (T 4) (kg * 4) lm pl (nI ks) (g * 4 + j) = nI e ∧ (upd (xins z (10 + 7 * kg + 3) lm pl (nI ks)) (10 + 7 * kg + 2) (nI (lm + 1))) (10 + 7 * g + 3 + j) = nI e
    have e0 : zG (upd (xins z (10 + 7 * kg + 3) lm pl (nI ks)) (10 + 7 * kg + 2) (nI (lm + 1))) g 0 = zG z g 0 := by
      unfold zG
      rw [upd_ne _ _ (by omega), xins_ne hpl (by omega)]
    have e1 : zG (upd (xins z (10 + 7 * kg + 3) lm pl (nI ks)) (10 + 7 * kg + 2) (nI (lm + 1))) g 1 = zG z g 1 := by
      unfold zG
      rw [upd_ne _ _ (by omega), xins_ne hpl (by omega)]
    rw [e0, e1]
    refine ⟨b1, b2, b3, ?_⟩
    by_cases hgg : g = kg
    · subst hgg
      have hll : l0 = lm := nI_inj (by omega) (by omega) (b6.symm.trans hlm)
      subst hll
      refine ⟨l0 + 1, by omega, fun h => by omega, upd_at _ _ _, upd_at _ _ _, fun j hj => ?_⟩
      rw [upd_ne _ _ (by omega)]
      by_cases hj1 : j = pl
      · subst hj1
        rw [xins_at, xins_at]
        exact ⟨ks, hks, hkk, rfl, rfl⟩
      · by_cases hj2 : j < pl
        · rw [xins_ne hpl (by omega), xins_ne hpl (by omega)]
          exact b8 j (by omega)
        · rw [xins_old (by omega) (by omega), xins_old (by omega) (by omega), show g * 4 + j - 1 = g * 4 + (j - 1) by omega, show 10 + 7 * g + 3 + j - 1 = 10 + 7 * g + 3 + (j - 1) by omega]
          exact b8 (j - 1) (by omega)
    · have e2 : zG (upd (xins z (10 + 7 * kg + 3) lm pl (nI ks)) (10 + 7 * kg + 2) (nI (lm + 1))) g 2 = zG z g 2 := by
        unfold zG
        rw [upd_ne _ _ (by omega), xins_ne hpl (by omega)]
      rw [e2, upd_ne _ _ hgg]
      refine ⟨l0, b4, b5, b6, b7, fun j hj => ?_⟩
      rw [xins_ne hpl (by omega), upd_ne _ _ (by omega), xins_ne hpl (by omega)]
      exact b8 j hj
  · exact (hb b hb1).congr hb1 (Nat.le_refl _) (fun k h1 h2 => by rw [xT_ne _ _ (by omega), xT_ne _ _ (by omega), xT_ne _ _ (by omega)]) (fun k h1 h2 => ((upd_ne _ _ (by omega)).trans (xins_ne (by omega) (by omega))))
  · exact (ho o ho1).congr ho1 (fun k h1 h2 => by rw [xT_ne _ _ (by omega), xT_ne _ _ (by omega), xT_ne _ _ (by omega)]) (fun k h1 h2 => ((upd_ne _ _ (by omega)).trans (xins_ne (by omega) (by omega))))
  · exact ⟨(ht k hk).1.trans (((upd_ne _ _ (by omega)).trans (xins_ne (by omega) (by omega)))).symm, (ht k hk).2.trans (((upd_ne _ _ (by omega)).trans (xins_ne (by omega) (by omega)))).symm⟩
  · exact (hs s hs1).congr hs1 rfl rfl (fun k h1 h2 => ((upd_ne _ _ (by omega)).trans (xins_ne (by omega) (by omega))))
  · exact (hl k hk).congr hk (fun k h1 h2 => by rw [xT_ne _ _ (by omega), xT_ne _ _ (by omega), xT_ne _ _ (by omega)]) (fun k h1 h2 => ((upd_ne _ _ (by omega)).trans (xins_ne (by omega) (by omega))))
  · exact (hw w hw1).trans (((upd_ne _ _ (by omega)).trans (xins_ne (by omega) (by omega)))).symm
theorem zrem_ne {z : Nat → Int32} {kg p lm k : Nat} (hp : p < lm) (h2 : k ≠ 10 + 7 * kg + 2) (h : k < 10 + 7 * kg + 3 + p ∨ 10 + 7 * kg + 3 + lm ≤ k) : zrem z kg p lm k = z k := by
  unfold zrem
  rw [upd_ne _ _ h2]
  unfold zremA
  rw [upd_ne _ _ (by omega)]
  unfold zsl
  rw [if_neg (by omega)]
theorem zrem_old {z : Nat → Int32} {kg p lm j : Nat} (h1 : p ≤ j) (h2 : j < lm - 1) : zrem z kg p lm (10 + 7 * kg + 3 + j) = z (10 + 7 * kg + 3 + (j + 1)) := by
  unfold zrem
  rw [upd_ne _ _ (by omega)]
  unfold zremA
  rw [upd_ne _ _ (by omega)]
  unfold zsl
  rw [if_pos (by omega)]
  congr 1
theorem zrem_2 {z : Nat → Int32} {kg p lm : Nat} (hp : p < lm) (h : zG z kg 2 = nI lm) : zG (zrem z kg p lm) kg 2 = nI (lm - 1) := by
  have h' : z (10 + 7 * kg + 2) = nI lm := h
  unfold zrem zG
  rw [upd_at]
  unfold zremA
  rw [upd_ne _ _ (by omega)]
  unfold zsl
  rw [if_neg (by omega), h']
  exact nI_sub (b := 1) (by omega)
theorem rRemSub {lo gz bz oz tk lz nx : Nat} {T : Nat → Nat → Int32} {z : Nat → Int32} {kg lm pl : Nat} (h : RelN lo gz bz oz tk lz nx T z) (hkg : kg < gz) (hlm : T 3 kg = nI lm) (hl4 : lm ≤ 4) (hpl : pl < lm) :
    RelN lo gz bz oz tk lz nx (xT (xT (xT T 0 (fun _ => nI gz)) 3 (upd (T 3) kg (nI (lm - 1)))) 4 (xshl (T 4) (kg * 4) pl (lm - 1))) (zrem z kg pl lm) := by
  obtain ⟨⟨⟨n1, n2, n3, n4, n5, n6⟩, ⟨c1, c2, c3, c4, c5, c6⟩, ⟨a1, a2, a3, a4, a5, a6, a7⟩, hrb⟩, hG, hb, ho, ht, hs, hl, hw⟩ := h
  refine ⟨?_, fun g hg1 => ?_, fun b hb1 => ?_, fun o ho1 => ?_, fun k hk => ?_, fun s hs1 => ?_, fun k hk => ?_, fun w hw1 => ?_⟩
  · exact ⟨⟨n1, n2, n3, n4, n5, n6⟩, ⟨rfl, c2, c3, c4, c5, c6⟩, ⟨((zrem_ne (by omega) (by omega) (by omega))).trans a1, ((zrem_ne (by omega) (by omega) (by omega))).trans a2, ((zrem_ne (by omega) (by omega) (by omega))).trans a3, ((zrem_ne (by omega) (by omega) (by omega))).trans a4, ((zrem_ne (by omega) (by omega) (by omega))).trans a5, a6.trans ((zrem_ne (by omega) (by omega) (by omega))).symm, a7.trans ((zrem_ne (by omega) (by omega) (by omega))).symm⟩, hrb⟩
  · obtain ⟨b1, b2, b3, l0, b4, b5, b6, b7, b8⟩ := hG g hg1
    show T 1 g = zG (zrem z kg pl lm) g 0 ∧ T 2 g = zG (zrem z kg pl lm) g 1 ∧ (g < gz → ∃ m : Nat, (1 ≤ m ∧ m ≤ 60) ∧ T 2 g = nI m) ∧ ∃ l9 : Nat, l9 ≤ 4 ∧ (gz ≤ g → l9 = 0) ∧ upd (T 3) kg (nI (lm - 1)) g = nI l9 ∧ zG (zrem z kg pl lm) g 2 = nI l9 ∧ ∀ j, j < l9 → ∃ e : Nat, e < gz ∧ e ≠ g ∧ xshl (T 4) (kg * 4) pl (lm - 1) (g * 4 + j) = nI e ∧ (zrem z kg pl lm) (10 + 7 * g + 3 + j) = nI e
    have e0 : zG (zrem z kg pl lm) g 0 = zG z g 0 := by
      unfold zG
      exact zrem_ne hpl (by omega) (by omega)
    have e1 : zG (zrem z kg pl lm) g 1 = zG z g 1 := by
      unfold zG
      exact zrem_ne hpl (by omega) (by omega)
    rw [e0, e1]
    refine ⟨b1, b2, b3, ?_⟩
    by_cases hgg : g = kg
    · subst hgg
      have hll : l0 = lm := nI_inj (by omega) (by omega) (b6.symm.trans hlm)
      subst hll
      refine ⟨l0 - 1, by omega, fun h => by omega, upd_at _ _ _, zrem_2 hpl b7, fun j hj => ?_⟩
      by_cases hj2 : j < pl
      · rw [xshl_ne (by omega), zrem_ne hpl (by omega) (by omega)]
        exact b8 j (by omega)
      · rw [xshl_old (by omega) (by omega), zrem_old (by omega) (by omega), show g * 4 + j + 1 = g * 4 + (j + 1) by omega]
        exact b8 (j + 1) (by omega)
    · have e2 : zG (zrem z kg pl lm) g 2 = zG z g 2 := by
        unfold zG
        exact zrem_ne hpl (by omega) (by omega)
      rw [e2, upd_ne _ _ hgg]
      refine ⟨l0, b4, b5, b6, b7, fun j hj => ?_⟩
      rw [xshl_ne (by omega), zrem_ne hpl (by omega) (by omega)]
      exact b8 j hj
  · exact (hb b hb1).congr hb1 (Nat.le_refl _) (fun k h1 h2 => by rw [xT_ne _ _ (by omega), xT_ne _ _ (by omega), xT_ne _ _ (by omega)]) (fun k h1 h2 => (zrem_ne (by omega) (by omega) (by omega)))
  · exact (ho o ho1).congr ho1 (fun k h1 h2 => by rw [xT_ne _ _ (by omega), xT_ne _ _ (by omega), xT_ne _ _ (by omega)]) (fun k h1 h2 => (zrem_ne (by omega) (by omega) (by omega)))
  · exact ⟨(ht k hk).1.trans ((zrem_ne (by omega) (by omega) (by omega))).symm, (ht k hk).2.trans ((zrem_ne (by omega) (by omega) (by omega))).symm⟩
  · exact (hs s hs1).congr hs1 rfl rfl (fun k h1 h2 => (zrem_ne (by omega) (by omega) (by omega)))
  · exact (hl k hk).congr hk (fun k h1 h2 => by rw [xT_ne _ _ (by omega), xT_ne _ _ (by omega), xT_ne _ _ (by omega)]) (fun k h1 h2 => (zrem_ne (by omega) (by omega) (by omega)))
  · exact (hw w hw1).trans ((zrem_ne (by omega) (by omega) (by omega))).symm
