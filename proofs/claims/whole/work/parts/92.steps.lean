/-! Steps of both: prices, settings, stages. -/
theorem rSetPrice {lo gz bz oz tk lz nx : Nat} {T : Nat → Nat → Int32} {z : Nat → Int32} {kg : Nat} {pv : Int32} (h : RelN lo gz bz oz tk lz nx T z) (hk9 : kg < gz) :
    RelN lo gz bz oz tk lz nx (xT (xT T 0 (fun _ => nI gz)) 1 (upd (T 1) kg pv)) (upd z (10 + 7 * kg + 0) pv) := by
  obtain ⟨⟨⟨n1, n2, n3, n4, n5, n6⟩, ⟨c1, c2, c3, c4, c5, c6⟩, ⟨a1, a2, a3, a4, a5, a6, a7⟩, hrb⟩, hG, hb, ho, ht, hs, hl, hw⟩ := h
  refine ⟨?_, fun g hg1 => ?_, fun b hb1 => ?_, fun o ho1 => ?_, fun k hk => ?_, fun s hs1 => ?_, fun k hk => ?_, fun w hw1 => ?_⟩
  · exact ⟨⟨n1, n2, n3, n4, n5, n6⟩, ⟨rfl, c2, c3, c4, c5, c6⟩, ⟨((upd_ne _ _ (by omega))).trans a1, ((upd_ne _ _ (by omega))).trans a2, ((upd_ne _ _ (by omega))).trans a3, ((upd_ne _ _ (by omega))).trans a4, ((upd_ne _ _ (by omega))).trans a5, a6.trans ((upd_ne _ _ (by omega))).symm, a7.trans ((upd_ne _ _ (by omega))).symm⟩, hrb⟩
  · obtain ⟨b1, b2, b3, lm, b4, b5, b6, b7, b8⟩ := hG g hg1
    show upd (T 1) kg pv g = zG (upd z (10 + 7 * kg + 0) pv) g 0 ∧ T 2 g = zG (upd z (10 + 7 * kg + 0) pv) g 1 ∧ (g < gz → ∃ m : Nat, (1 ≤ m ∧ m ≤ 60) ∧ T 2 g = nI m) ∧ ∃ lm : Nat, lm ≤ 4 ∧ (gz ≤ g → lm = 0) ∧ T 3 g = nI lm ∧ zG (upd z (10 + 7 * kg + 0) pv) g 2 = nI lm ∧ ∀ j, j < lm → ∃ e : Nat, e < gz ∧ e ≠ g ∧ T 4 (g * 4 + j) = nI e ∧ upd z (10 + 7 * kg + 0) pv (10 + 7 * g + 3 + j) = nI e
    refine ⟨?_, b2.trans (show upd z (10 + 7 * kg + 0) pv (10 + 7 * g + 1) = z (10 + 7 * g + 1) from upd_ne _ _ (by omega)).symm, b3, lm, b4, b5, b6, (show upd z (10 + 7 * kg + 0) pv (10 + 7 * g + 2) = z (10 + 7 * g + 2) from upd_ne _ _ (by omega)).trans b7, fun j hj => ?_⟩
    · by_cases hgg : g = kg
      · subst hgg
        unfold zG
        rw [upd_at, upd_at]
      · rw [upd_ne _ _ hgg, b1]
        exact (show upd z (10 + 7 * kg + 0) pv (10 + 7 * g + 0) = z (10 + 7 * g + 0) from upd_ne _ _ (by omega)).symm
    · obtain ⟨e, q1, q2, q3, q4⟩ := b8 j hj
      exact ⟨e, q1, q2, q3, by rw [upd_ne _ _ (by omega)]; exact q4⟩
  · exact (hb b hb1).congr hb1 (Nat.le_refl _) (fun k h1 h2 => by rw [xT_ne _ _ (by omega), xT_ne _ _ (by omega)]) (fun k h1 h2 => (upd_ne _ _ (by omega)))
  · exact (ho o ho1).congr ho1 (fun k h1 h2 => by rw [xT_ne _ _ (by omega), xT_ne _ _ (by omega)]) (fun k h1 h2 => (upd_ne _ _ (by omega)))
  · exact ⟨(ht k hk).1.trans ((upd_ne _ _ (by omega))).symm, (ht k hk).2.trans ((upd_ne _ _ (by omega))).symm⟩
  · exact (hs s hs1).congr hs1 rfl rfl (fun k h1 h2 => (upd_ne _ _ (by omega)))
  · exact (hl k hk).congr hk (fun k h1 h2 => by rw [xT_ne _ _ (by omega), xT_ne _ _ (by omega)]) (fun k h1 h2 => (upd_ne _ _ (by omega)))
  · exact (hw w hw1).trans ((upd_ne _ _ (by omega))).symm
theorem rSet {lo gz bz oz tk lz nx : Nat} {T : Nat → Nat → Int32} {z : Nat → Int32} {wn : Nat} {v : Int32} (h : RelN lo gz bz oz tk lz nx T z) (hwn : wn < 3) (hv : wn = 0 → ∃ m : Nat, m ≤ 2 ∧ v = nI m) :
    RelN lo gz bz oz tk lz nx (xT T 38 (upd (T 38) wn v)) (upd z (4 + wn) v) := by
  obtain ⟨⟨⟨n1, n2, n3, n4, n5, n6⟩, ⟨c1, c2, c3, c4, c5, c6⟩, ⟨a1, a2, a3, a4, a5, a6, a7⟩, hrb⟩, hG, hb, ho, ht, hs, hl, hw⟩ := h
  refine ⟨?_, fun g hg1 => ?_, fun b hb1 => ?_, fun o ho1 => ?_, fun k hk => ?_, fun s hs1 => ?_, fun k hk => ?_, fun w hw1 => ?_⟩
  · exact ⟨⟨n1, n2, n3, n4, n5, n6⟩, ⟨c1, c2, c3, c4, c5, c6⟩, ⟨((upd_ne _ _ (by omega))).trans a1, ((upd_ne _ _ (by omega))).trans a2, ((upd_ne _ _ (by omega))).trans a3, ((upd_ne _ _ (by omega))).trans a4, ((upd_ne _ _ (by omega))).trans a5, a6.trans ((upd_ne _ _ (by omega))).symm, a7.trans ((upd_ne _ _ (by omega))).symm⟩, hrb.1, by
      show ∃ m : Nat, m ≤ 2 ∧ upd (T 38) wn v 0 = nI m
      by_cases e : wn = 0
      · rw [e, upd_at]; exact hv e
      · rw [upd_ne _ _ (fun q => e q.symm)]; exact hrb.2⟩
  · exact (hG g hg1).congr hg1 (fun k h1 h2 => by rw [xT_ne _ _ (by omega)]) (fun k h1 h2 => (upd_ne _ _ (by omega)))
  · exact (hb b hb1).congr hb1 (Nat.le_refl _) (fun k h1 h2 => by rw [xT_ne _ _ (by omega)]) (fun k h1 h2 => (upd_ne _ _ (by omega)))
  · exact (ho o ho1).congr ho1 (fun k h1 h2 => by rw [xT_ne _ _ (by omega)]) (fun k h1 h2 => (upd_ne _ _ (by omega)))
  · exact ⟨(ht k hk).1.trans ((upd_ne _ _ (by omega))).symm, (ht k hk).2.trans ((upd_ne _ _ (by omega))).symm⟩
  · exact (hs s hs1).congr hs1 rfl rfl (fun k h1 h2 => (upd_ne _ _ (by omega)))
  · exact (hl k hk).congr hk (fun k h1 h2 => by rw [xT_ne _ _ (by omega)]) (fun k h1 h2 => (upd_ne _ _ (by omega)))
  · show upd (T 38) wn v w = upd z (4 + wn) v (4 + w)
    by_cases e : w = wn
    · subst e
      rw [upd_at, upd_at]
    · rw [upd_ne _ _ e, upd_ne _ _ (by omega)]
      exact hw w hw1
theorem rSetRebate {lo gz bz oz tk lz nx : Nat} {T : Nat → Nat → Int32} {z : Nat → Int32} {mb : Nat} (h : RelN lo gz bz oz tk lz nx T z) (hmb : mb ≤ 1106247680) :
    RelN lo gz bz oz tk lz nx (xT T 39 (fun _ => nI mb)) (upd z 7 (nI mb)) := by
  obtain ⟨⟨⟨n1, n2, n3, n4, n5, n6⟩, ⟨c1, c2, c3, c4, c5, c6⟩, ⟨a1, a2, a3, a4, a5, a6, a7⟩, hrb⟩, hG, hb, ho, ht, hs, hl, hw⟩ := h
  refine ⟨?_, fun g hg1 => ?_, fun b hb1 => ?_, fun o ho1 => ?_, fun k hk => ?_, fun s hs1 => ?_, fun k hk => ?_, fun w hw1 => ?_⟩
  · exact ⟨⟨n1, n2, n3, n4, n5, n6⟩, ⟨c1, c2, c3, c4, c5, c6⟩, ⟨(upd_ne _ _ (by omega)).trans a1, (upd_ne _ _ (by omega)).trans a2, (upd_ne _ _ (by omega)).trans a3, (upd_ne _ _ (by omega)).trans a4, (upd_ne _ _ (by omega)).trans a5, a6.trans (upd_ne _ _ (by omega)).symm, (upd_at _ _ _).symm⟩, ⟨mb, hmb, rfl⟩, hrb.2⟩
  · exact (hG g hg1).congr hg1 (fun k h1 h2 => by rw [xT_ne _ _ (by omega)]) (fun k h1 h2 => (upd_ne _ _ (by omega)))
  · exact (hb b hb1).congr hb1 (Nat.le_refl _) (fun k h1 h2 => by rw [xT_ne _ _ (by omega)]) (fun k h1 h2 => (upd_ne _ _ (by omega)))
  · exact (ho o ho1).congr ho1 (fun k h1 h2 => by rw [xT_ne _ _ (by omega)]) (fun k h1 h2 => (upd_ne _ _ (by omega)))
  · exact ⟨(ht k hk).1.trans ((upd_ne _ _ (by omega))).symm, (ht k hk).2.trans ((upd_ne _ _ (by omega))).symm⟩
  · exact (hs s hs1).congr hs1 rfl rfl (fun k h1 h2 => (upd_ne _ _ (by omega)))
  · exact (hl k hk).congr hk (fun k h1 h2 => by rw [xT_ne _ _ (by omega)]) (fun k h1 h2 => (upd_ne _ _ (by omega)))
  · exact (hw w hw1).trans ((upd_ne _ _ (by omega))).symm
theorem rSetStage {lo gz bz oz tk lz nx : Nat} {T : Nat → Nat → Int32} {z : Nat → Int32} {st mb : Nat} {mq : Int32} (h : RelN lo gz bz oz tk lz nx T z) (hst : 1 ≤ st ∧ st ≤ 3) (hmb : mb ≤ 1120403456) (hmq : ∃ m : Nat, m ≤ 100 ∧ mq = nI m) :
    RelN lo gz bz oz tk lz nx (xT (xT T 30 (upd (T 30) st mq)) 31 (upd (T 31) st (nI mb))) (upd (upd z (954 + st) mq) (958 + st) (nI mb)) := by
  obtain ⟨⟨⟨n1, n2, n3, n4, n5, n6⟩, ⟨c1, c2, c3, c4, c5, c6⟩, ⟨a1, a2, a3, a4, a5, a6, a7⟩, hrb⟩, hG, hb, ho, ht, hs, hl, hw⟩ := h
  refine ⟨?_, fun g hg1 => ?_, fun b hb1 => ?_, fun o ho1 => ?_, fun k hk => ?_, fun s hs1 => ?_, fun k hk => ?_, fun w hw1 => ?_⟩
  · exact ⟨⟨n1, n2, n3, n4, n5, n6⟩, ⟨c1, c2, c3, c4, c5, c6⟩, ⟨(((upd_ne _ _ (by omega)).trans (upd_ne _ _ (by omega)))).trans a1, (((upd_ne _ _ (by omega)).trans (upd_ne _ _ (by omega)))).trans a2, (((upd_ne _ _ (by omega)).trans (upd_ne _ _ (by omega)))).trans a3, (((upd_ne _ _ (by omega)).trans (upd_ne _ _ (by omega)))).trans a4, (((upd_ne _ _ (by omega)).trans (upd_ne _ _ (by omega)))).trans a5, a6.trans (((upd_ne _ _ (by omega)).trans (upd_ne _ _ (by omega)))).symm, a7.trans (((upd_ne _ _ (by omega)).trans (upd_ne _ _ (by omega)))).symm⟩, hrb⟩
  · exact (hG g hg1).congr hg1 (fun k h1 h2 => by rw [xT_ne _ _ (by omega), xT_ne _ _ (by omega)]) (fun k h1 h2 => ((upd_ne _ _ (by omega)).trans (upd_ne _ _ (by omega))))
  · exact (hb b hb1).congr hb1 (Nat.le_refl _) (fun k h1 h2 => by rw [xT_ne _ _ (by omega), xT_ne _ _ (by omega)]) (fun k h1 h2 => ((upd_ne _ _ (by omega)).trans (upd_ne _ _ (by omega))))
  · exact (ho o ho1).congr ho1 (fun k h1 h2 => by rw [xT_ne _ _ (by omega), xT_ne _ _ (by omega)]) (fun k h1 h2 => ((upd_ne _ _ (by omega)).trans (upd_ne _ _ (by omega))))
  · exact ⟨(ht k hk).1.trans (((upd_ne _ _ (by omega)).trans (upd_ne _ _ (by omega)))).symm, (ht k hk).2.trans (((upd_ne _ _ (by omega)).trans (upd_ne _ _ (by omega)))).symm⟩
  · obtain ⟨b1, b2, b3, b4⟩ := hs s hs1
    show upd (T 30) st mq s = upd (upd z (954 + st) mq) (958 + st) (nI mb) (954 + s) ∧ upd (T 31) st (nI mb) s = upd (upd z (954 + st) mq) (958 + st) (nI mb) (958 + s) ∧ (∃ m : Nat, m ≤ 1120403456 ∧ upd (T 31) st (nI mb) s = nI m) ∧ ∃ m : Nat, m ≤ 100 ∧ upd (T 30) st mq s = nI m
    by_cases e : s = st
    · subst e
      rw [upd_at, upd_at, upd_at, upd_ne _ _ (by omega), upd_at]
      exact ⟨rfl, rfl, ⟨mb, hmb, rfl⟩, hmq⟩
    · rw [upd_ne _ _ e, upd_ne _ _ e, upd_ne _ _ (by omega), upd_ne _ _ (by omega), upd_ne _ _ (by omega), upd_ne _ _ (by omega)]
      exact ⟨b1, b2, b3, b4⟩
  · exact (hl k hk).congr hk (fun k h1 h2 => by rw [xT_ne _ _ (by omega), xT_ne _ _ (by omega)]) (fun k h1 h2 => ((upd_ne _ _ (by omega)).trans (upd_ne _ _ (by omega))))
  · exact (hw w hw1).trans (((upd_ne _ _ (by omega)).trans (upd_ne _ _ (by omega)))).symm
