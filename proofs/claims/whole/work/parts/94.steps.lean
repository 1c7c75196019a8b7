/-! Steps of both: units leave a shelf for a waste (13, 14, 15) or a gift (11). -/
/-- a state told otherwise -/
theorem RelN.congrT {lo gz bz oz tk lz nx : Nat} {T T' : Nat → Nat → Int32} {z : Nat → Int32} (h : RelN lo gz bz oz tk lz nx T z) (h0 : ∀ k, k = 0 ∨ k = 5 ∨ k = 16 ∨ k = 17 ∨ k = 32 ∨ k = 33 ∨ k = 39 ∨ k = 40 → T' k 0 = T k 0) (h1 : ∀ k, k < 41 → ¬ (k = 0 ∨ k = 5 ∨ k = 16 ∨ k = 17 ∨ k = 32 ∨ k = 33 ∨ k = 39 ∨ k = 40) → T' k = T k) : RelN lo gz bz oz tk lz nx T' z := by
  obtain ⟨⟨⟨n1, n2, n3, n4, n5, n6⟩, ⟨c1, c2, c3, c4, c5, c6⟩, ⟨a1, a2, a3, a4, a5, a6, a7⟩, hrb⟩, hG, hb, ho, ht, hs, hl, hw⟩ := h
  refine ⟨⟨⟨n1, n2, n3, n4, n5, ?_⟩, ⟨?_, ?_, ?_, ?_, ?_, ?_⟩, ⟨a1, a2, a3, a4, a5, ?_, ?_⟩, ?_⟩, fun g hg1 => ?_, fun b hb1 => ?_, fun o ho1 => ?_, fun k hk => ?_, fun s hs1 => ?_, fun k hk => ?_, fun w hw1 => ?_⟩
  · rw [h1 9 (by omega) (by omega)]; exact n6
  · rw [h0 0 (by omega)]; exact c1
  · rw [h0 5 (by omega)]; exact c2
  · rw [h0 16 (by omega)]; exact c3
  · rw [h0 17 (by omega)]; exact c4
  · rw [h0 32 (by omega)]; exact c5
  · rw [h0 33 (by omega)]; exact c6
  · rw [h0 40 (by omega)]; exact a6
  · rw [h0 39 (by omega)]; exact a7
  · rw [h0 39 (by omega), h1 38 (by omega) (by omega)]; exact hrb
  · exact (hG g hg1).congr hg1 (fun k _ _ => h1 k (by omega) (by omega)) (fun _ _ _ => rfl)
  · exact (hb b hb1).congr hb1 (Nat.le_refl _) (fun k _ _ => h1 k (by omega) (by omega)) (fun _ _ _ => rfl)
  · exact (ho o ho1).congr ho1 (fun k _ _ => h1 k (by omega) (by omega)) (fun _ _ _ => rfl)
  · rw [h1 28 (by omega) (by omega), h1 29 (by omega) (by omega)]; exact ht k hk
  · exact (hs s hs1).congr hs1 (h1 30 (by omega) (by omega)) (h1 31 (by omega) (by omega)) (fun _ _ _ => rfl)
  · exact (hl k hk).congr hk (fun k _ _ => h1 k (by omega) (by omega)) (fun _ _ _ => rfl)
  · rw [h1 38 (by omega) (by omega)]; exact hw w hw1
/-- units of a batch from its shelf to its column w, and the event of it -/
def zmove (z : Nat → Int32) (b w : Nat) (kd u : Int32) : Nat → Int32 := znote (zadd (zadd z b 3 (-u)) b w u) kd (nI b) u
theorem zmove_ne {z : Nat → Int32} {b w k : Nat} {kd u : Int32} (h : k < 962) (h9 : k ≠ 9) (h3 : k ≠ 94 + 10 * b + 3) (hw : k ≠ 94 + 10 * b + w) : zmove z b w kd u k = z k := by
  unfold zmove zadd
  rw [znote_low _ _ _ _ h h9, upd_ne _ _ hw, upd_ne _ _ h3]
theorem zmove_at {z : Nat → Int32} {b w : Nat} {kd u : Int32} (hb : b < 40) (hw : w ≠ 3) (hw9 : w < 10) : zmove z b w kd u (94 + 10 * b + 3) = z (94 + 10 * b + 3) - u ∧ zmove z b w kd u (94 + 10 * b + w) = z (94 + 10 * b + w) + u := by
  unfold zmove zadd
  refine ⟨?_, ?_⟩
  · rw [znote_low _ _ _ _ (by omega) (by omega), upd_ne _ _ (by omega), upd_at, Int32.sub_eq_add_neg]
  · rw [znote_low _ _ _ _ (by omega) (by omega), upd_at, upd_ne _ _ (by omega)]
theorem rMove11 {lo gz bz oz tk lz nx : Nat} {T : Nat → Nat → Int32} {z : Nat → Int32} {kb m us : Nat} {kd : Int32} (h : RelN lo gz bz oz tk lz nx T z) (hkb : kb < bz) (hus : T 9 kb = nI us) (hL : us < 2 ^ 31) (hm : m ≤ us) :
    RelN lo gz bz oz tk (min (lz + 1) 10) ((nx + 1) % 10) (xT (xT (xT (xT (xT (xT (xT (xT T 9 (upd (T 9) kb (T 9 kb - nI m))) 11 (upd (T 11) kb (T 11 kb + nI m))) 32 (fun _ => nI (min (lz + 1) 10))) 33 (fun _ => nI ((nx + 1) % 10))) 34 (upd (T 34) nx (kd))) 35 (upd (T 35) nx (nI kb))) 36 (upd (T 36) nx (nI m))) 37 (upd (T 37) nx (T 40 0))) (zmove z kb 5 kd (nI m)) := by
  obtain ⟨⟨⟨n1, n2, n3, n4, n5, n6⟩, ⟨c1, c2, c3, c4, c5, c6⟩, ⟨a1, a2, a3, a4, a5, a6, a7⟩, hrb⟩, hG, hb, ho, ht, hs, hl, hw⟩ := h
  refine ⟨?_, fun g hg1 => ?_, fun b hb1 => ?_, fun o ho1 => ?_, fun k hk => ?_, fun s hs1 => ?_, fun k hk => ?_, fun w hw1 => ?_⟩
  · refine ⟨⟨n1, n2, n3, by omega, by omega, ?_⟩, ⟨c1, c2, c3, c4, rfl, rfl⟩, ⟨(zmove_ne (by omega) (by omega) (by omega) (by omega)).trans a1, (zmove_ne (by omega) (by omega) (by omega) (by omega)).trans a2, (zmove_ne (by omega) (by omega) (by omega) (by omega)).trans a3, (zmove_ne (by omega) (by omega) (by omega) (by omega)).trans a4, ?_, a6.trans (zmove_ne (by omega) (by omega) (by omega) (by omega)).symm, a7.trans (zmove_ne (by omega) (by omega) (by omega) (by omega)).symm⟩, hrb⟩
    · show tk + xopn (upd (T 9) kb (T 9 kb - nI m)) bz ≤ bz + oz
      have := xopn_le (T 9) (v := T 9 kb - nI m) (b := kb) (by
        by_cases h0 : us = 0
        · left; rw [hus, nI_sub hm]; congr 1; omega
        · right; rw [hus]; exact fun h => h0 (nI_inj hL (by omega) h)) bz
      omega
    · exact znote_9 _ _ _ _ (by unfold zadd; rw [upd_ne _ _ (by omega), upd_ne _ _ (by omega)]; exact a5) n4
  · exact (hG g hg1).congr hg1 (fun k h1 h2 => by rw [xT_ne _ _ (by omega), xT_ne _ _ (by omega), xT_ne _ _ (by omega), xT_ne _ _ (by omega), xT_ne _ _ (by omega), xT_ne _ _ (by omega), xT_ne _ _ (by omega), xT_ne _ _ (by omega)]) (fun k h1 h2 => (zmove_ne (by omega) (by omega) (by omega) (by omega)))
  · obtain ⟨⟨b1, b2, b3, b4, b5⟩, ⟨b6, b7, b8, b9, b10⟩, b11, b12⟩ := hb b hb1
    show (T 6 b = zB (zmove z kb 5 kd (nI m)) b 0 ∧ T 7 b = zB (zmove z kb 5 kd (nI m)) b 1 ∧ T 8 b = zB (zmove z kb 5 kd (nI m)) b 2 ∧ upd (T 9) kb (T 9 kb - nI m) b = zB (zmove z kb 5 kd (nI m)) b 3 ∧ T 10 b = zB (zmove z kb 5 kd (nI m)) b 4) ∧ (upd (T 11) kb (T 11 kb + nI m) b = zB (zmove z kb 5 kd (nI m)) b 5 ∧ T 13 b = zB (zmove z kb 5 kd (nI m)) b 6 ∧ T 14 b = zB (zmove z kb 5 kd (nI m)) b 7 ∧ T 15 b = zB (zmove z kb 5 kd (nI m)) b 8 ∧ T 12 b = zB (zmove z kb 5 kd (nI m)) b 9) ∧ (b < bz → (∃ g : Nat, g < gz ∧ T 6 b = nI g) ∧ (∃ d : Nat, d ≤ 60 ∧ T 8 b = nI d ∧ (upd (T 9) kb (T 9 kb - nI m) b ≠ nI 0 → lo ≤ d)) ∧ ∃ u : Nat, u ≤ 999 ∧ upd (T 9) kb (T 9 kb - nI m) b = nI u) ∧ (bz ≤ b → upd (T 9) kb (T 9 kb - nI m) b = nI 0)
    have e : ∀ c, c < 10 → c ≠ 3 → c ≠ 5 → zB (zmove z kb 5 kd (nI m)) b c = zB z b c := fun c h1 h2 h3 => by
      unfold zB
      exact zmove_ne (by omega) (by omega) (by omega) (by omega)
    rw [e 0 (by omega) (by omega) (by omega), e 1 (by omega) (by omega) (by omega), e 2 (by omega) (by omega) (by omega), e 4 (by omega) (by omega) (by omega), e 6 (by omega) (by omega) (by omega), e 7 (by omega) (by omega) (by omega), e 8 (by omega) (by omega) (by omega), e 9 (by omega) (by omega) (by omega)]
    by_cases q : b = kb
    · subst q
      obtain ⟨z3, zw⟩ := zmove_at (z := z) (b := b) (w := 5) (kd := kd) (u := nI m) hb1 (by omega) (by omega)
      obtain ⟨-, ⟨d, hd1, hd2, hd3⟩, u, hu1, hu2⟩ := b11 hkb
      have e9 : T 9 b - nI m = nI (us - m) := by rw [hus, nI_sub hm]
      have eus : us = u := by
        have h8 := hus.symm.trans hu2
        have h7 : us < 2 ^ 31 := hL
        exact nI_inj h7 (by omega) h8
      rw [upd_at, upd_at]
      have ew : T 11 b + nI m = zB (zmove z b 5 kd (nI m)) b 5 := by
        unfold zB
        rw [zw, b6]
        rfl
      refine ⟨⟨b1, b2, b3, ?_, b5⟩, ⟨ew, b7, b8, b9, b10⟩, fun h => ⟨(b11 h).1, ⟨d, hd1, hd2, fun hn => ?_⟩, us - m, by omega, e9⟩, fun h => by omega⟩
      · unfold zB
        rw [z3, b4]
        rfl
      · refine hd3 (fun h0 => hn ?_)
        rw [e9]
        rw [hus] at h0
        have : us = 0 := nI_inj hL (by omega) h0
        rw [this, Nat.zero_sub]
    · rw [upd_ne _ _ q, upd_ne _ _ q]
      have e2 : zB (zmove z kb 5 kd (nI m)) b 3 = zB z b 3 := by
        unfold zB
        exact zmove_ne (by omega) (by omega) (by omega) (by omega)
      have e3 : zB (zmove z kb 5 kd (nI m)) b 5 = zB z b 5 := by
        unfold zB
        exact zmove_ne (by omega) (by omega) (by omega) (by omega)
      rw [e2, e3]
      exact ⟨⟨b1, b2, b3, b4, b5⟩, ⟨b6, b7, b8, b9, b10⟩, b11, b12⟩
  · exact (ho o ho1).congr ho1 (fun k h1 h2 => by rw [xT_ne _ _ (by omega), xT_ne _ _ (by omega), xT_ne _ _ (by omega), xT_ne _ _ (by omega), xT_ne _ _ (by omega), xT_ne _ _ (by omega), xT_ne _ _ (by omega), xT_ne _ _ (by omega)]) (fun k h1 h2 => (zmove_ne (by omega) (by omega) (by omega) (by omega)))
  · exact ⟨(ht k hk).1.trans ((zmove_ne (by omega) (by omega) (by omega) (by omega))).symm, (ht k hk).2.trans ((zmove_ne (by omega) (by omega) (by omega) (by omega))).symm⟩
  · exact (hs s hs1).congr hs1 rfl rfl (fun k h1 h2 => (zmove_ne (by omega) (by omega) (by omega) (by omega)))
  · have hz5 : ∀ j, 962 ≤ j → (zadd (zadd z kb 3 (-(nI m))) kb 5 (nI m)) j = z j := fun j hj => by unfold zadd; rw [upd_ne _ _ (by omega), upd_ne _ _ (by omega)]
    exact rLog.step n5 (fun k hk => (hl k hk).congr hk (fun _ _ _ => rfl) (fun j h1 h2 => hz5 j h1)) rfl rfl rfl (by show upd (T 37) nx (T 40 0) = _; rw [a6]; congr 1) k hk
  · exact (hw w hw1).trans ((zmove_ne (by omega) (by omega) (by omega) (by omega))).symm
theorem rMove13 {lo gz bz oz tk lz nx : Nat} {T : Nat → Nat → Int32} {z : Nat → Int32} {kb m us : Nat} {kd : Int32} (h : RelN lo gz bz oz tk lz nx T z) (hkb : kb < bz) (hus : T 9 kb = nI us) (hL : us < 2 ^ 31) (hm : m ≤ us) :
    RelN lo gz bz oz tk (min (lz + 1) 10) ((nx + 1) % 10) (xT (xT (xT (xT (xT (xT (xT (xT T 9 (upd (T 9) kb (T 9 kb - nI m))) 13 (upd (T 13) kb (T 13 kb + nI m))) 32 (fun _ => nI (min (lz + 1) 10))) 33 (fun _ => nI ((nx + 1) % 10))) 34 (upd (T 34) nx (kd))) 35 (upd (T 35) nx (nI kb))) 36 (upd (T 36) nx (nI m))) 37 (upd (T 37) nx (T 40 0))) (zmove z kb 6 kd (nI m)) := by
  obtain ⟨⟨⟨n1, n2, n3, n4, n5, n6⟩, ⟨c1, c2, c3, c4, c5, c6⟩, ⟨a1, a2, a3, a4, a5, a6, a7⟩, hrb⟩, hG, hb, ho, ht, hs, hl, hw⟩ := h
  refine ⟨?_, fun g hg1 => ?_, fun b hb1 => ?_, fun o ho1 => ?_, fun k hk => ?_, fun s hs1 => ?_, fun k hk => ?_, fun w hw1 => ?_⟩
  · refine ⟨⟨n1, n2, n3, by omega, by omega, ?_⟩, ⟨c1, c2, c3, c4, rfl, rfl⟩, ⟨(zmove_ne (by omega) (by omega) (by omega) (by omega)).trans a1, (zmove_ne (by omega) (by omega) (by omega) (by omega)).trans a2, (zmove_ne (by omega) (by omega) (by omega) (by omega)).trans a3, (zmove_ne (by omega) (by omega) (by omega) (by omega)).trans a4, ?_, a6.trans (zmove_ne (by omega) (by omega) (by omega) (by omega)).symm, a7.trans (zmove_ne (by omega) (by omega) (by omega) (by omega)).symm⟩, hrb⟩
    · show tk + xopn (upd (T 9) kb (T 9 kb - nI m)) bz ≤ bz + oz
      have := xopn_le (T 9) (v := T 9 kb - nI m) (b := kb) (by
        by_cases h0 : us = 0
        · left; rw [hus, nI_sub hm]; congr 1; omega
        · right; rw [hus]; exact fun h => h0 (nI_inj hL (by omega) h)) bz
      omega
    · exact znote_9 _ _ _ _ (by unfold zadd; rw [upd_ne _ _ (by omega), upd_ne _ _ (by omega)]; exact a5) n4
  · exact (hG g hg1).congr hg1 (fun k h1 h2 => by rw [xT_ne _ _ (by omega), xT_ne _ _ (by omega), xT_ne _ _ (by omega), xT_ne _ _ (by omega), xT_ne _ _ (by omega), xT_ne _ _ (by omega), xT_ne _ _ (by omega), xT_ne _ _ (by omega)]) (fun k h1 h2 => (zmove_ne (by omega) (by omega) (by omega) (by omega)))
  · obtain ⟨⟨b1, b2, b3, b4, b5⟩, ⟨b6, b7, b8, b9, b10⟩, b11, b12⟩ := hb b hb1
    show (T 6 b = zB (zmove z kb 6 kd (nI m)) b 0 ∧ T 7 b = zB (zmove z kb 6 kd (nI m)) b 1 ∧ T 8 b = zB (zmove z kb 6 kd (nI m)) b 2 ∧ upd (T 9) kb (T 9 kb - nI m) b = zB (zmove z kb 6 kd (nI m)) b 3 ∧ T 10 b = zB (zmove z kb 6 kd (nI m)) b 4) ∧ (T 11 b = zB (zmove z kb 6 kd (nI m)) b 5 ∧ upd (T 13) kb (T 13 kb + nI m) b = zB (zmove z kb 6 kd (nI m)) b 6 ∧ T 14 b = zB (zmove z kb 6 kd (nI m)) b 7 ∧ T 15 b = zB (zmove z kb 6 kd (nI m)) b 8 ∧ T 12 b = zB (zmove z kb 6 kd (nI m)) b 9) ∧ (b < bz → (∃ g : Nat, g < gz ∧ T 6 b = nI g) ∧ (∃ d : Nat, d ≤ 60 ∧ T 8 b = nI d ∧ (upd (T 9) kb (T 9 kb - nI m) b ≠ nI 0 → lo ≤ d)) ∧ ∃ u : Nat, u ≤ 999 ∧ upd (T 9) kb (T 9 kb - nI m) b = nI u) ∧ (bz ≤ b → upd (T 9) kb (T 9 kb - nI m) b = nI 0)
    have e : ∀ c, c < 10 → c ≠ 3 → c ≠ 6 → zB (zmove z kb 6 kd (nI m)) b c = zB z b c := fun c h1 h2 h3 => by
      unfold zB
      exact zmove_ne (by omega) (by omega) (by omega) (by omega)
    rw [e 0 (by omega) (by omega) (by omega), e 1 (by omega) (by omega) (by omega), e 2 (by omega) (by omega) (by omega), e 4 (by omega) (by omega) (by omega), e 5 (by omega) (by omega) (by omega), e 7 (by omega) (by omega) (by omega), e 8 (by omega) (by omega) (by omega), e 9 (by omega) (by omega) (by omega)]
    by_cases q : b = kb
    · subst q
      obtain ⟨z3, zw⟩ := zmove_at (z := z) (b := b) (w := 6) (kd := kd) (u := nI m) hb1 (by omega) (by omega)
      obtain ⟨-, ⟨d, hd1, hd2, hd3⟩, u, hu1, hu2⟩ := b11 hkb
      have e9 : T 9 b - nI m = nI (us - m) := by rw [hus, nI_sub hm]
      have eus : us = u := by
        have h8 := hus.symm.trans hu2
        have h7 : us < 2 ^ 31 := hL
        exact nI_inj h7 (by omega) h8
      rw [upd_at, upd_at]
      have ew : T 13 b + nI m = zB (zmove z b 6 kd (nI m)) b 6 := by
        unfold zB
        rw [zw, b7]
        rfl
      refine ⟨⟨b1, b2, b3, ?_, b5⟩, ⟨b6, ew, b8, b9, b10⟩, fun h => ⟨(b11 h).1, ⟨d, hd1, hd2, fun hn => ?_⟩, us - m, by omega, e9⟩, fun h => by omega⟩
      · unfold zB
        rw [z3, b4]
        rfl
      · refine hd3 (fun h0 => hn ?_)
        rw [e9]
        rw [hus] at h0
        have : us = 0 := nI_inj hL (by omega) h0
        rw [this, Nat.zero_sub]
    · rw [upd_ne _ _ q, upd_ne _ _ q]
      have e2 : zB (zmove z kb 6 kd (nI m)) b 3 = zB z b 3 := by
        unfold zB
        exact zmove_ne (by omega) (by omega) (by omega) (by omega)
      have e3 : zB (zmove z kb 6 kd (nI m)) b 6 = zB z b 6 := by
        unfold zB
        exact zmove_ne (by omega) (by omega) (by omega) (by omega)
      rw [e2, e3]
      exact ⟨⟨b1, b2, b3, b4, b5⟩, ⟨b6, b7, b8, b9, b10⟩, b11, b12⟩
  · exact (ho o ho1).congr ho1 (fun k h1 h2 => by rw [xT_ne _ _ (by omega), xT_ne _ _ (by omega), xT_ne _ _ (by omega), xT_ne _ _ (by omega), xT_ne _ _ (by omega), xT_ne _ _ (by omega), xT_ne _ _ (by omega), xT_ne _ _ (by omega)]) (fun k h1 h2 => (zmove_ne (by omega) (by omega) (by omega) (by omega)))
  · exact ⟨(ht k hk).1.trans ((zmove_ne (by omega) (by omega) (by omega) (by omega))).symm, (ht k hk).2.trans ((zmove_ne (by omega) (by omega) (by omega) (by omega))).symm⟩
  · exact (hs s hs1).congr hs1 rfl rfl (fun k h1 h2 => (zmove_ne (by omega) (by omega) (by omega) (by omega)))
  · have hz5 : ∀ j, 962 ≤ j → (zadd (zadd z kb 3 (-(nI m))) kb 6 (nI m)) j = z j := fun j hj => by unfold zadd; rw [upd_ne _ _ (by omega), upd_ne _ _ (by omega)]
    exact rLog.step n5 (fun k hk => (hl k hk).congr hk (fun _ _ _ => rfl) (fun j h1 h2 => hz5 j h1)) rfl rfl rfl (by show upd (T 37) nx (T 40 0) = _; rw [a6]; congr 1) k hk
  · exact (hw w hw1).trans ((zmove_ne (by omega) (by omega) (by omega) (by omega))).symm
theorem rMove14 {lo gz bz oz tk lz nx : Nat} {T : Nat → Nat → Int32} {z : Nat → Int32} {kb m us : Nat} {kd : Int32} (h : RelN lo gz bz oz tk lz nx T z) (hkb : kb < bz) (hus : T 9 kb = nI us) (hL : us < 2 ^ 31) (hm : m ≤ us) :
    RelN lo gz bz oz tk (min (lz + 1) 10) ((nx + 1) % 10) (xT (xT (xT (xT (xT (xT (xT (xT T 9 (upd (T 9) kb (T 9 kb - nI m))) 14 (upd (T 14) kb (T 14 kb + nI m))) 32 (fun _ => nI (min (lz + 1) 10))) 33 (fun _ => nI ((nx + 1) % 10))) 34 (upd (T 34) nx (kd))) 35 (upd (T 35) nx (nI kb))) 36 (upd (T 36) nx (nI m))) 37 (upd (T 37) nx (T 40 0))) (zmove z kb 7 kd (nI m)) := by
  obtain ⟨⟨⟨n1, n2, n3, n4, n5, n6⟩, ⟨c1, c2, c3, c4, c5, c6⟩, ⟨a1, a2, a3, a4, a5, a6, a7⟩, hrb⟩, hG, hb, ho, ht, hs, hl, hw⟩ := h
  refine ⟨?_, fun g hg1 => ?_, fun b hb1 => ?_, fun o ho1 => ?_, fun k hk => ?_, fun s hs1 => ?_, fun k hk => ?_, fun w hw1 => ?_⟩
  · refine ⟨⟨n1, n2, n3, by omega, by omega, ?_⟩, ⟨c1, c2, c3, c4, rfl, rfl⟩, ⟨(zmove_ne (by omega) (by omega) (by omega) (by omega)).trans a1, (zmove_ne (by omega) (by omega) (by omega) (by omega)).trans a2, (zmove_ne (by omega) (by omega) (by omega) (by omega)).trans a3, (zmove_ne (by omega) (by omega) (by omega) (by omega)).trans a4, ?_, a6.trans (zmove_ne (by omega) (by omega) (by omega) (by omega)).symm, a7.trans (zmove_ne (by omega) (by omega) (by omega) (by omega)).symm⟩, hrb⟩
    · show tk + xopn (upd (T 9) kb (T 9 kb - nI m)) bz ≤ bz + oz
      have := xopn_le (T 9) (v := T 9 kb - nI m) (b := kb) (by
        by_cases h0 : us = 0
        · left; rw [hus, nI_sub hm]; congr 1; omega
        · right; rw [hus]; exact fun h => h0 (nI_inj hL (by omega) h)) bz
      omega
    · exact znote_9 _ _ _ _ (by unfold zadd; rw [upd_ne _ _ (by omega), upd_ne _ _ (by omega)]; exact a5) n4
  · exact (hG g hg1).congr hg1 (fun k h1 h2 => by rw [xT_ne _ _ (by omega), xT_ne _ _ (by omega), xT_ne _ _ (by omega), xT_ne _ _ (by omega), xT_ne _ _ (by omega), xT_ne _ _ (by omega), xT_ne _ _ (by omega), xT_ne _ _ (by omega)]) (fun k h1 h2 => (zmove_ne (by omega) (by omega) (by omega) (by omega)))
  · obtain ⟨⟨b1, b2, b3, b4, b5⟩, ⟨b6, b7, b8, b9, b10⟩, b11, b12⟩ := hb b hb1
    show (T 6 b = zB (zmove z kb 7 kd (nI m)) b 0 ∧ T 7 b = zB (zmove z kb 7 kd (nI m)) b 1 ∧ T 8 b = zB (zmove z kb 7 kd (nI m)) b 2 ∧ upd (T 9) kb (T 9 kb - nI m) b = zB (zmove z kb 7 kd (nI m)) b 3 ∧ T 10 b = zB (zmove z kb 7 kd (nI m)) b 4) ∧ (T 11 b = zB (zmove z kb 7 kd (nI m)) b 5 ∧ T 13 b = zB (zmove z kb 7 kd (nI m)) b 6 ∧ upd (T 14) kb (T 14 kb + nI m) b = zB (zmove z kb 7 kd (nI m)) b 7 ∧ T 15 b = zB (zmove z kb 7 kd (nI m)) b 8 ∧ T 12 b = zB (zmove z kb 7 kd (nI m)) b 9) ∧ (b < bz → (∃ g : Nat, g < gz ∧ T 6 b = nI g) ∧ (∃ d : Nat, d ≤ 60 ∧ T 8 b = nI d ∧ (upd (T 9) kb (T 9 kb - nI m) b ≠ nI 0 → lo ≤ d)) ∧ ∃ u : Nat, u ≤ 999 ∧ upd (T 9) kb (T 9 kb - nI m) b = nI u) ∧ (bz ≤ b → upd (T 9) kb (T 9 kb - nI m) b = nI 0)
    have e : ∀ c, c < 10 → c ≠ 3 → c ≠ 7 → zB (zmove z kb 7 kd (nI m)) b c = zB z b c := fun c h1 h2 h3 => by
      unfold zB
      exact zmove_ne (by omega) (by omega) (by omega) (by omega)
    rw [e 0 (by omega) (by omega) (by omega), e 1 (by omega) (by omega) (by omega), e 2 (by omega) (by omega) (by omega), e 4 (by omega) (by omega) (by omega), e 5 (by omega) (by omega) (by omega), e 6 (by omega) (by omega) (by omega), e 8 (by omega) (by omega) (by omega), e 9 (by omega) (by omega) (by omega)]
    by_cases q : b = kb
    · subst q
      obtain ⟨z3, zw⟩ := zmove_at (z := z) (b := b) (w := 7) (kd := kd) (u := nI m) hb1 (by omega) (by omega)
      obtain ⟨-, ⟨d, hd1, hd2, hd3⟩, u, hu1, hu2⟩ := b11 hkb
      have e9 : T 9 b - nI m = nI (us - m) := by rw [hus, nI_sub hm]
      have eus : us = u := by
        have h8 := hus.symm.trans hu2
        have h7 : us < 2 ^ 31 := hL
        exact nI_inj h7 (by omega) h8
      rw [upd_at, upd_at]
      have ew : T 14 b + nI m = zB (zmove z b 7 kd (nI m)) b 7 := by
        unfold zB
        rw [zw, b8]
        rfl
      refine ⟨⟨b1, b2, b3, ?_, b5⟩, ⟨b6, b7, ew, b9, b10⟩, fun h => ⟨(b11 h).1, ⟨d, hd1, hd2, fun hn => ?_⟩, us - m, by omega, e9⟩, fun h => by omega⟩
      · unfold zB
        rw [z3, b4]
        rfl
      · refine hd3 (fun h0 => hn ?_)
        rw [e9]
        rw [hus] at h0
        have : us = 0 := nI_inj hL (by omega) h0
        rw [this, Nat.zero_sub]
    · rw [upd_ne _ _ q, upd_ne _ _ q]
      have e2 : zB (zmove z kb 7 kd (nI m)) b 3 = zB z b 3 := by
        unfold zB
        exact zmove_ne (by omega) (by omega) (by omega) (by omega)
      have e3 : zB (zmove z kb 7 kd (nI m)) b 7 = zB z b 7 := by
        unfold zB
        exact zmove_ne (by omega) (by omega) (by omega) (by omega)
      rw [e2, e3]
      exact ⟨⟨b1, b2, b3, b4, b5⟩, ⟨b6, b7, b8, b9, b10⟩, b11, b12⟩
  · exact (ho o ho1).congr ho1 (fun k h1 h2 => by rw [xT_ne _ _ (by omega), xT_ne _ _ (by omega), xT_ne _ _ (by omega), xT_ne _ _ (by omega), xT_ne _ _ (by omega), xT_ne _ _ (by omega), xT_ne _ _ (by omega), xT_ne _ _ (by omega)]) (fun k h1 h2 => (zmove_ne (by omega) (by omega) (by omega) (by omega)))
  · exact ⟨(ht k hk).1.trans ((zmove_ne (by omega) (by omega) (by omega) (by omega))).symm, (ht k hk).2.trans ((zmove_ne (by omega) (by omega) (by omega) (by omega))).symm⟩
  · exact (hs s hs1).congr hs1 rfl rfl (fun k h1 h2 => (zmove_ne (by omega) (by omega) (by omega) (by omega)))
  · have hz5 : ∀ j, 962 ≤ j → (zadd (zadd z kb 3 (-(nI m))) kb 7 (nI m)) j = z j := fun j hj => by unfold zadd; rw [upd_ne _ _ (by omega), upd_ne _ _ (by omega)]
    exact rLog.step n5 (fun k hk => (hl k hk).congr hk (fun _ _ _ => rfl) (fun j h1 h2 => hz5 j h1)) rfl rfl rfl (by show upd (T 37) nx (T 40 0) = _; rw [a6]; congr 1) k hk
  · exact (hw w hw1).trans ((zmove_ne (by omega) (by omega) (by omega) (by omega))).symm
theorem rMove15 {lo gz bz oz tk lz nx : Nat} {T : Nat → Nat → Int32} {z : Nat → Int32} {kb m us : Nat} {kd : Int32} (h : RelN lo gz bz oz tk lz nx T z) (hkb : kb < bz) (hus : T 9 kb = nI us) (hL : us < 2 ^ 31) (hm : m ≤ us) :
    RelN lo gz bz oz tk (min (lz + 1) 10) ((nx + 1) % 10) (xT (xT (xT (xT (xT (xT (xT (xT T 9 (upd (T 9) kb (T 9 kb - nI m))) 15 (upd (T 15) kb (T 15 kb + nI m))) 32 (fun _ => nI (min (lz + 1) 10))) 33 (fun _ => nI ((nx + 1) % 10))) 34 (upd (T 34) nx (kd))) 35 (upd (T 35) nx (nI kb))) 36 (upd (T 36) nx (nI m))) 37 (upd (T 37) nx (T 40 0))) (zmove z kb 8 kd (nI m)) := by
  obtain ⟨⟨⟨n1, n2, n3, n4, n5, n6⟩, ⟨c1, c2, c3, c4, c5, c6⟩, ⟨a1, a2, a3, a4, a5, a6, a7⟩, hrb⟩, hG, hb, ho, ht, hs, hl, hw⟩ := h
  refine ⟨?_, fun g hg1 => ?_, fun b hb1 => ?_, fun o ho1 => ?_, fun k hk => ?_, fun s hs1 => ?_, fun k hk => ?_, fun w hw1 => ?_⟩
  · refine ⟨⟨n1, n2, n3, by omega, by omega, ?_⟩, ⟨c1, c2, c3, c4, rfl, rfl⟩, ⟨(zmove_ne (by omega) (by omega) (by omega) (by omega)).trans a1, (zmove_ne (by omega) (by omega) (by omega) (by omega)).trans a2, (zmove_ne (by omega) (by omega) (by omega) (by omega)).trans a3, (zmove_ne (by omega) (by omega) (by omega) (by omega)).trans a4, ?_, a6.trans (zmove_ne (by omega) (by omega) (by omega) (by omega)).symm, a7.trans (zmove_ne (by omega) (by omega) (by omega) (by omega)).symm⟩, hrb⟩
    · show tk + xopn (upd (T 9) kb (T 9 kb - nI m)) bz ≤ bz + oz
      have := xopn_le (T 9) (v := T 9 kb - nI m) (b := kb) (by
        by_cases h0 : us = 0
        · left; rw [hus, nI_sub hm]; congr 1; omega
        · right; rw [hus]; exact fun h => h0 (nI_inj hL (by omega) h)) bz
      omega
    · exact znote_9 _ _ _ _ (by unfold zadd; rw [upd_ne _ _ (by omega), upd_ne _ _ (by omega)]; exact a5) n4
  · exact (hG g hg1).congr hg1 (fun k h1 h2 => by rw [xT_ne _ _ (by omega), xT_ne _ _ (by omega), xT_ne _ _ (by omega), xT_ne _ _ (by omega), xT_ne _ _ (by omega), xT_ne _ _ (by omega), xT_ne _ _ (by omega), xT_ne _ _ (by omega)]) (fun k h1 h2 => (zmove_ne (by omega) (by omega) (by omega) (by omega)))
  · obtain ⟨⟨b1, b2, b3, b4, b5⟩, ⟨b6, b7, b8, b9, b10⟩, b11, b12⟩ := hb b hb1
    show (T 6 b = zB (zmove z kb 8 kd (nI m)) b 0 ∧ T 7 b = zB (zmove z kb 8 kd (nI m)) b 1 ∧ T 8 b = zB (zmove z kb 8 kd (nI m)) b 2 ∧ upd (T 9) kb (T 9 kb - nI m) b = zB (zmove z kb 8 kd (nI m)) b 3 ∧ T 10 b = zB (zmove z kb 8 kd (nI m)) b 4) ∧ (T 11 b = zB (zmove z kb 8 kd (nI m)) b 5 ∧ T 13 b = zB (zmove z kb 8 kd (nI m)) b 6 ∧ T 14 b = zB (zmove z kb 8 kd (nI m)) b 7 ∧ upd (T 15) kb (T 15 kb + nI m) b = zB (zmove z kb 8 kd (nI m)) b 8 ∧ T 12 b = zB (zmove z kb 8 kd (nI m)) b 9) ∧ (b < bz → (∃ g : Nat, g < gz ∧ T 6 b = nI g) ∧ (∃ d : Nat, d ≤ 60 ∧ T 8 b = nI d ∧ (upd (T 9) kb (T 9 kb - nI m) b ≠ nI 0 → lo ≤ d)) ∧ ∃ u : Nat, u ≤ 999 ∧ upd (T 9) kb (T 9 kb - nI m) b = nI u) ∧ (bz ≤ b → upd (T 9) kb (T 9 kb - nI m) b = nI 0)
    have e : ∀ c, c < 10 → c ≠ 3 → c ≠ 8 → zB (zmove z kb 8 kd (nI m)) b c = zB z b c := fun c h1 h2 h3 => by
      unfold zB
      exact zmove_ne (by omega) (by omega) (by omega) (by omega)
    rw [e 0 (by omega) (by omega) (by omega), e 1 (by omega) (by omega) (by omega), e 2 (by omega) (by omega) (by omega), e 4 (by omega) (by omega) (by omega), e 5 (by omega) (by omega) (by omega), e 6 (by omega) (by omega) (by omega), e 7 (by omega) (by omega) (by omega), e 9 (by omega) (by omega) (by omega)]
    by_cases q : b = kb
    · subst q
      obtain ⟨z3, zw⟩ := zmove_at (z := z) (b := b) (w := 8) (kd := kd) (u := nI m) hb1 (by omega) (by omega)
      obtain ⟨-, ⟨d, hd1, hd2, hd3⟩, u, hu1, hu2⟩ := b11 hkb
      have e9 : T 9 b - nI m = nI (us - m) := by rw [hus, nI_sub hm]
      have eus : us = u := by
        have h8 := hus.symm.trans hu2
        have h7 : us < 2 ^ 31 := hL
        exact nI_inj h7 (by omega) h8
      rw [upd_at, upd_at]
      have ew : T 15 b + nI m = zB (zmove z b 8 kd (nI m)) b 8 := by
        unfold zB
        rw [zw, b9]
        rfl
      refine ⟨⟨b1, b2, b3, ?_, b5⟩, ⟨b6, b7, b8, ew, b10⟩, fun h => ⟨(b11 h).1, ⟨d, hd1, hd2, fun hn => ?_⟩, us - m, by omega, e9⟩, fun h => by omega⟩
      · unfold zB
        rw [z3, b4]
        rfl
      · refine hd3 (fun h0 => hn ?_)
        rw [e9]
        rw [hus] at h0
        have : us = 0 := nI_inj hL (by omega) h0
        rw [this, Nat.zero_sub]
    · rw [upd_ne _ _ q, upd_ne _ _ q]
      have e2 : zB (zmove z kb 8 kd (nI m)) b 3 = zB z b 3 := by
        unfold zB
        exact zmove_ne (by omega) (by omega) (by omega) (by omega)
      have e3 : zB (zmove z kb 8 kd (nI m)) b 8 = zB z b 8 := by
        unfold zB
        exact zmove_ne (by omega) (by omega) (by omega) (by omega)
      rw [e2, e3]
      exact ⟨⟨b1, b2, b3, b4, b5⟩, ⟨b6, b7, b8, b9, b10⟩, b11, b12⟩
  · exact (ho o ho1).congr ho1 (fun k h1 h2 => by rw [xT_ne _ _ (by omega), xT_ne _ _ (by omega), xT_ne _ _ (by omega), xT_ne _ _ (by omega), xT_ne _ _ (by omega), xT_ne _ _ (by omega), xT_ne _ _ (by omega), xT_ne _ _ (by omega)]) (fun k h1 h2 => (zmove_ne (by omega) (by omega) (by omega) (by omega)))
  · exact ⟨(ht k hk).1.trans ((zmove_ne (by omega) (by omega) (by omega) (by omega))).symm, (ht k hk).2.trans ((zmove_ne (by omega) (by omega) (by omega) (by omega))).symm⟩
  · exact (hs s hs1).congr hs1 rfl rfl (fun k h1 h2 => (zmove_ne (by omega) (by omega) (by omega) (by omega)))
  · have hz5 : ∀ j, 962 ≤ j → (zadd (zadd z kb 3 (-(nI m))) kb 8 (nI m)) j = z j := fun j hj => by unfold zadd; rw [upd_ne _ _ (by omega), upd_ne _ _ (by omega)]
    exact rLog.step n5 (fun k hk => (hl k hk).congr hk (fun _ _ _ => rfl) (fun j h1 h2 => hz5 j h1)) rfl rfl rfl (by show upd (T 37) nx (T 40 0) = _; rw [a6]; congr 1) k hk
  · exact (hw w hw1).trans ((zmove_ne (by omega) (by omega) (by omega) (by omega))).symm
