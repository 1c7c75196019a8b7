/-! Steps of both: a day. -/
theorem zage_ne {z : Nat → Int32} {j : Nat} : ∀ {n : Nat}, (∀ b, b < n → j ≠ 94 + 10 * b + 2) → zage z n j = z j
  | 0, _ => rfl
  | n + 1, h => by
    show zadd (zage z n) n 2 _ j = z j
    unfold zadd
    rw [upd_ne _ _ (h n (by omega))]
    exact zage_ne (fun b hb => h b (by omega))
theorem zage_at {z : Nat → Int32} {b : Nat} : ∀ {n : Nat}, b < n → zage z n (94 + 10 * b + 2) = z (94 + 10 * b + 2) + (if z (94 + 10 * b + 3) ≤ 0 then nI 0 else (-1))
  | 0, h => by omega
  | n + 1, h => by
    show zadd (zage z n) n 2 (if zB (zage z n) n 3 ≤ 0 then nI 0 else (-1)) (94 + 10 * b + 2) = _
    unfold zadd
    by_cases e : b = n
    · subst e
      rw [upd_at, zage_ne (j := 94 + 10 * b + 2) (fun c hc => by omega)]
      unfold zB
      rw [zage_ne (j := 94 + 10 * b + 3) (fun c hc => by omega)]
    · rw [upd_ne _ _ (by omega)]
      exact zage_at (by omega)
theorem rAge {gz bz oz tk lz nx : Nat} {T : Nat → Nat → Int32} {z : Nat → Int32}  (h : RelN 1 gz bz oz tk lz nx T z)  :
    RelN 0 gz bz oz tk lz nx (xT (xT T 8 (xage (T 9) (T 8) bz)) 40 (fun _ => T 40 0 + nI 1)) (zage (upd z 0 (z 0 + nI 1)) bz) := by
  obtain ⟨⟨⟨n1, n2, n3, n4, n5, n6⟩, ⟨c1, c2, c3, c4, c5, c6⟩, ⟨a1, a2, a3, a4, a5, a6, a7⟩, hrb⟩, hG, hb, ho, ht, hs, hl, hw⟩ := h
  refine ⟨?_, fun g hg1 => ?_, fun b hb1 => ?_, fun o ho1 => ?_, fun k hk => ?_, fun s hs1 => ?_, fun k hk => ?_, fun w hw1 => ?_⟩
  · refine ⟨⟨n1, n2, n3, n4, n5, n6⟩, ⟨c1, c2, c3, c4, c5, c6⟩, ⟨((zage_ne (fun c hc => by omega)).trans (upd_ne _ _ (by omega))).trans a1, ((zage_ne (fun c hc => by omega)).trans (upd_ne _ _ (by omega))).trans a2, ((zage_ne (fun c hc => by omega)).trans (upd_ne _ _ (by omega))).trans a3, ((zage_ne (fun c hc => by omega)).trans (upd_ne _ _ (by omega))).trans a4, ((zage_ne (fun c hc => by omega)).trans (upd_ne _ _ (by omega))).trans a5, ?_, a7.trans ((zage_ne (fun c hc => by omega)).trans (upd_ne _ _ (by omega))).symm⟩, hrb⟩
    show T 40 0 + nI 1 = _
    rw [zage_ne (fun c hc => by omega), upd_at, a6]
  · exact (hG g hg1).congr hg1 (fun k h1 h2 => by rw [xT_ne _ _ (by omega), xT_ne _ _ (by omega)]) (fun k h1 h2 => ((zage_ne (fun c hc => by omega)).trans (upd_ne _ _ (by omega))))
  · obtain ⟨⟨b1, b2, b3, b4, b5⟩, ⟨b6, b7, b8, b9, b10⟩, b11, b12⟩ := hb b hb1
    show (T 6 b = zB (zage (upd z 0 (z 0 + nI 1)) bz) b 0 ∧ T 7 b = zB (zage (upd z 0 (z 0 + nI 1)) bz) b 1 ∧ xage (T 9) (T 8) bz b = zB (zage (upd z 0 (z 0 + nI 1)) bz) b 2 ∧ T 9 b = zB (zage (upd z 0 (z 0 + nI 1)) bz) b 3 ∧ T 10 b = zB (zage (upd z 0 (z 0 + nI 1)) bz) b 4) ∧ (T 11 b = zB (zage (upd z 0 (z 0 + nI 1)) bz) b 5 ∧ T 13 b = zB (zage (upd z 0 (z 0 + nI 1)) bz) b 6 ∧ T 14 b = zB (zage (upd z 0 (z 0 + nI 1)) bz) b 7 ∧ T 15 b = zB (zage (upd z 0 (z 0 + nI 1)) bz) b 8 ∧ T 12 b = zB (zage (upd z 0 (z 0 + nI 1)) bz) b 9) ∧ (b < bz → (∃ g : Nat, g < gz ∧ T 6 b = nI g) ∧ (∃ d : Nat, d ≤ 60 ∧ xage (T 9) (T 8) bz b = nI d ∧ (T 9 b ≠ nI 0 → 0 ≤ d)) ∧ ∃ u : Nat, u ≤ 999 ∧ T 9 b = nI u) ∧ (bz ≤ b → T 9 b = nI 0)
    have e : ∀ c, c < 10 → c ≠ 2 → zB (zage (upd z 0 (z 0 + nI 1)) bz) b c = zB z b c := fun c h1 h2 => by
      unfold zB
      exact (zage_ne (fun c hc => by omega)).trans (upd_ne _ _ (by omega))
    rw [e 0 (by omega) (by omega), e 1 (by omega) (by omega), e 3 (by omega) (by omega), e 4 (by omega) (by omega), e 5 (by omega) (by omega), e 6 (by omega) (by omega), e 7 (by omega) (by omega), e 8 (by omega) (by omega), e 9 (by omega) (by omega)]
    by_cases hq : b < bz
    · obtain ⟨g, ⟨d, hd1, hd2, hd3⟩, u, hu1, hu2⟩ := b11 hq
      have e2 : zB (zage (upd z 0 (z 0 + nI 1)) bz) b 2 = T 8 b + (if T 9 b ≤ 0 then nI 0 else (-1)) := by
        unfold zB
        rw [zage_at hq, upd_ne _ _ (by omega), upd_ne _ _ (by omega), b3, b4]
        rfl
      have e1 : xage (T 9) (T 8) bz b = if T 9 b ≤ 0 then T 8 b else T 8 b - nI 1 := by
        show (if b < bz ∧ ¬ T 9 b ≤ 0 then T 8 b - nI 1 else T 8 b) = _
        by_cases h0 : T 9 b ≤ 0
        · rw [if_neg (fun q => q.2 h0), if_pos h0]
        · rw [if_pos ⟨hq, h0⟩, if_neg h0]
      rw [e2, e1]
      by_cases h0 : T 9 b ≤ 0
      · rw [if_pos h0, if_pos h0]
        exact ⟨⟨b1, b2, (Int32.add_zero _).symm, b4, b5⟩, ⟨b6, b7, b8, b9, b10⟩, fun _ => ⟨g, ⟨d, hd1, hd2, fun _ => Nat.zero_le _⟩, u, hu1, hu2⟩, b12⟩
      · rw [if_neg h0, if_neg h0]
        have hd4 := hd3 (fun h => h0 (by rw [h]; decide))
        exact ⟨⟨b1, b2, Int32.sub_eq_add_neg _ _, b4, b5⟩, ⟨b6, b7, b8, b9, b10⟩, fun _ => ⟨g, ⟨d - 1, by omega, by rw [hd2, nI_sub hd4], fun _ => Nat.zero_le _⟩, u, hu1, hu2⟩, b12⟩
    · have e2 : zB (zage (upd z 0 (z 0 + nI 1)) bz) b 2 = zB z b 2 := by
        unfold zB
        exact (zage_ne (fun c hc => by omega)).trans (upd_ne _ _ (by omega))
      have e1 : xage (T 9) (T 8) bz b = T 8 b := if_neg (fun q => hq q.1)
      rw [e2, e1]
      exact ⟨⟨b1, b2, b3, b4, b5⟩, ⟨b6, b7, b8, b9, b10⟩, fun h => absurd h hq, b12⟩
  · exact (ho o ho1).congr ho1 (fun k h1 h2 => by rw [xT_ne _ _ (by omega), xT_ne _ _ (by omega)]) (fun k h1 h2 => ((zage_ne (fun c hc => by omega)).trans (upd_ne _ _ (by omega))))
  · exact ⟨(ht k hk).1.trans (((zage_ne (fun c hc => by omega)).trans (upd_ne _ _ (by omega)))).symm, (ht k hk).2.trans (((zage_ne (fun c hc => by omega)).trans (upd_ne _ _ (by omega)))).symm⟩
  · exact (hs s hs1).congr hs1 rfl rfl (fun k h1 h2 => ((zage_ne (fun c hc => by omega)).trans (upd_ne _ _ (by omega))))
  · exact (hl k hk).congr hk (fun k h1 h2 => by rw [xT_ne _ _ (by omega), xT_ne _ _ (by omega)]) (fun k h1 h2 => ((zage_ne (fun c hc => by omega)).trans (upd_ne _ _ (by omega))))
  · exact (hw w hw1).trans (((zage_ne (fun c hc => by omega)).trans (upd_ne _ _ (by omega)))).symm
