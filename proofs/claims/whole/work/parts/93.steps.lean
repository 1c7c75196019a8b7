/-! Steps of both: a batch comes, units leave a shelf. -/
theorem xopn_ge (f : Nat → Int32) (v : Int32) {b : Nat} : ∀ {n : Nat}, n ≤ b → xopn (upd f b v) n = xopn f n
  | 0, _ => rfl
  | n + 1, h => by
    show xopn (upd f b v) n + (if upd f b v n = nI 0 then 0 else 1) = xopn f n + (if f n = nI 0 then 0 else 1)
    rw [xopn_ge f v (by omega), upd_ne _ _ (by omega)]
theorem xopn_le (f : Nat → Int32) {v : Int32} {b : Nat} (h : v = nI 0 ∨ f b ≠ nI 0) : ∀ n, xopn (upd f b v) n ≤ xopn f n
  | 0 => Nat.le_refl _
  | n + 1 => by
    show xopn (upd f b v) n + (if upd f b v n = nI 0 then 0 else 1) ≤ xopn f n + (if f n = nI 0 then 0 else 1)
    have ih := xopn_le f h n
    by_cases e : n = b
    · subst e
      rw [upd_at]
      rcases h with h | h
      · rw [if_pos h]; omega
      · rw [if_neg h]; split <;> omega
    · rw [upd_ne _ _ e]; omega
theorem zputb_ne {z : Nat → Int32} {g u d : Int32} {bz k : Nat} (h : k < 962) (h9 : k ≠ 9) (h2 : k ≠ 2) (hb : k < 94 + 10 * bz ∨ 94 + 10 * bz + 3 < k) : zputb z g u d bz k = z k := by
  unfold zputb
  rw [znote_low _ _ _ _ h h9, upd_ne _ _ (by omega), upd_ne _ _ (by omega), upd_ne _ _ (by omega), upd_ne _ _ (by omega), upd_ne _ _ h2]
theorem zputb_at {z : Nat → Int32} {g u d : Int32} {bz : Nat} (hb : bz < 40) : zputb z g u d bz 2 = nI (bz + 1) ∧ zputb z g u d bz (94 + 10 * bz + 0) = g ∧ zputb z g u d bz (94 + 10 * bz + 1) = u ∧ zputb z g u d bz (94 + 10 * bz + 2) = d ∧ zputb z g u d bz (94 + 10 * bz + 3) = u := by
  unfold zputb
  refine ⟨?_, ?_, ?_, ?_, ?_⟩
  · rw [znote_low _ _ _ _ (by omega) (by omega), upd_ne _ _ (by omega), upd_ne _ _ (by omega), upd_ne _ _ (by omega), upd_ne _ _ (by omega), upd_at]
  · rw [znote_low _ _ _ _ (by omega) (by omega), upd_ne _ _ (by omega), upd_ne _ _ (by omega), upd_ne _ _ (by omega), upd_at]
  · rw [znote_low _ _ _ _ (by omega) (by omega), upd_ne _ _ (by omega), upd_ne _ _ (by omega), upd_at]
  · rw [znote_low _ _ _ _ (by omega) (by omega), upd_ne _ _ (by omega), upd_at]
  · rw [znote_low _ _ _ _ (by omega) (by omega), upd_at]
theorem rBring {lo gz bz oz tk lz nx : Nat} {T : Nat → Nat → Int32} {z : Nat → Int32} {kg : Nat} {un dl : Int32} (h : RelN lo gz bz oz tk lz nx T z) (hlo : lo ≤ 1) (hkg : kg < gz) (hbz : bz < 40) (hun : nI 1 ≤ un ∧ un ≤ nI 999) (hdl : nI 1 ≤ dl ∧ dl ≤ T 2 kg) :
    RelN lo gz (bz + 1) oz tk (min (lz + 1) 10) ((nx + 1) % 10) (xT (xT (xT (xT (xT (xT (xT (xT (xT (xT (xT (xT T 0 (fun _ => nI gz)) 5 (fun _ => nI (bz + 1))) 6 (upd (T 6) bz (nI kg))) 7 (upd (T 7) bz un)) 8 (upd (T 8) bz dl)) 9 (upd (T 9) bz un)) 32 (fun _ => nI (min (lz + 1) 10))) 33 (fun _ => nI ((nx + 1) % 10))) 34 (upd (T 34) nx (nI 0))) 35 (upd (T 35) nx (nI bz))) 36 (upd (T 36) nx un)) 37 (upd (T 37) nx (T 40 0))) (zputb z (nI kg) un dl bz) := by
  obtain ⟨⟨⟨n1, n2, n3, n4, n5, n6⟩, ⟨c1, c2, c3, c4, c5, c6⟩, ⟨a1, a2, a3, a4, a5, a6, a7⟩, hrb⟩, hG, hb, ho, ht, hs, hl, hw⟩ := h
  refine ⟨?_, fun g hg1 => ?_, fun b hb1 => ?_, fun o ho1 => ?_, fun k hk => ?_, fun s hs1 => ?_, fun k hk => ?_, fun w hw1 => ?_⟩
  · refine ⟨⟨n1, by omega, n3, by omega, by omega, ?_⟩, ⟨rfl, rfl, c3, c4, rfl, rfl⟩, ⟨(zputb_ne (by omega) (by omega) (by omega) (by omega)).trans a1, (zputb_at hbz).1, (zputb_ne (by omega) (by omega) (by omega) (by omega)).trans a3, (zputb_ne (by omega) (by omega) (by omega) (by omega)).trans a4, ?_, a6.trans (zputb_ne (by omega) (by omega) (by omega) (by omega)).symm, a7.trans (zputb_ne (by omega) (by omega) (by omega) (by omega)).symm⟩, hrb⟩
    · show tk + (xopn (upd (T 9) bz un) bz + (if upd (T 9) bz un bz = nI 0 then 0 else 1)) ≤ bz + 1 + oz
      rw [xopn_ge _ _ (Nat.le_refl _)]
      split <;> omega
    · exact znote_9 _ _ _ _ (by rw [upd_ne _ _ (by omega), upd_ne _ _ (by omega), upd_ne _ _ (by omega), upd_ne _ _ (by omega), upd_ne _ _ (by omega)]; exact a5) n4
  · exact (hG g hg1).congr hg1 (fun k h1 h2 => by rw [xT_ne _ _ (by omega), xT_ne _ _ (by omega), xT_ne _ _ (by omega), xT_ne _ _ (by omega), xT_ne _ _ (by omega), xT_ne _ _ (by omega), xT_ne _ _ (by omega), xT_ne _ _ (by omega), xT_ne _ _ (by omega), xT_ne _ _ (by omega), xT_ne _ _ (by omega), xT_ne _ _ (by omega)]) (fun k h1 h2 => (zputb_ne (by omega) (by omega) (by omega) (by omega)))
  · obtain ⟨⟨b1, b2, b3, b4, b5⟩, ⟨b6, b7, b8, b9, b10⟩, b11, b12⟩ := hb b hb1
    show (upd (T 6) bz (nI kg) b = zB (zputb z (nI kg) un dl bz) b 0 ∧ upd (T 7) bz un b = zB (zputb z (nI kg) un dl bz) b 1 ∧ upd (T 8) bz dl b = zB (zputb z (nI kg) un dl bz) b 2 ∧ upd (T 9) bz un b = zB (zputb z (nI kg) un dl bz) b 3 ∧ T 10 b = zB (zputb z (nI kg) un dl bz) b 4) ∧ (T 11 b = zB (zputb z (nI kg) un dl bz) b 5 ∧ T 13 b = zB (zputb z (nI kg) un dl bz) b 6 ∧ T 14 b = zB (zputb z (nI kg) un dl bz) b 7 ∧ T 15 b = zB (zputb z (nI kg) un dl bz) b 8 ∧ T 12 b = zB (zputb z (nI kg) un dl bz) b 9) ∧ (b < (bz + 1) → (∃ g : Nat, g < gz ∧ upd (T 6) bz (nI kg) b = nI g) ∧ (∃ d : Nat, d ≤ 60 ∧ upd (T 8) bz dl b = nI d ∧ (upd (T 9) bz un b ≠ nI 0 → lo ≤ d)) ∧ ∃ u : Nat, u ≤ 999 ∧ upd (T 9) bz un b = nI u) ∧ ((bz + 1) ≤ b → upd (T 9) bz un b = nI 0)
    have e : ∀ w, 4 ≤ w → w ≤ 9 → zB (zputb z (nI kg) un dl bz) b w = zB z b w := fun w h1 h2 => by
      unfold zB
      exact zputb_ne (by omega) (by omega) (by omega) (by omega)
    rw [e 4 (by omega) (by omega), e 5 (by omega) (by omega), e 6 (by omega) (by omega), e 7 (by omega) (by omega), e 8 (by omega) (by omega), e 9 (by omega) (by omega)]
    by_cases q : b = bz
    · subst q
      obtain ⟨-, z0, z1, z2, z3⟩ := zputb_at (z := z) (g := nI kg) (u := un) (d := dl) hbz
      rw [upd_at, upd_at, upd_at, upd_at]
      refine ⟨⟨z0.symm, z1.symm, z2.symm, z3.symm, b5⟩, ⟨b6, b7, b8, b9, b10⟩, fun _ => ⟨⟨kg, hkg, rfl⟩, ?_, ?_⟩, fun h => by omega⟩
      · obtain ⟨-, -, g3, -⟩ := hG kg (by omega)
        obtain ⟨m, hm, em⟩ := g3 hkg
        rw [em] at hdl
        obtain ⟨d, h1, h2, h3⟩ := xnat_in (by decide) (by omega) hdl
        exact ⟨d, by omega, h3, fun _ => by omega⟩
      · obtain ⟨u, h1, h2, h3⟩ := xnat_in (by decide) (by decide) hun
        exact ⟨u, h2, h3⟩
    · rw [upd_ne _ _ q, upd_ne _ _ q, upd_ne _ _ q, upd_ne _ _ q]
      have e2 : ∀ w, w < 4 → zB (zputb z (nI kg) un dl bz) b w = zB z b w := fun w h1 => by
        unfold zB
        exact zputb_ne (by omega) (by omega) (by omega) (by omega)
      rw [e2 0 (by omega), e2 1 (by omega), e2 2 (by omega), e2 3 (by omega)]
      exact ⟨⟨b1, b2, b3, b4, b5⟩, ⟨b6, b7, b8, b9, b10⟩, fun h => b11 (by omega), fun h => b12 (by omega)⟩
  · exact (ho o ho1).congr ho1 (fun k h1 h2 => by rw [xT_ne _ _ (by omega), xT_ne _ _ (by omega), xT_ne _ _ (by omega), xT_ne _ _ (by omega), xT_ne _ _ (by omega), xT_ne _ _ (by omega), xT_ne _ _ (by omega), xT_ne _ _ (by omega), xT_ne _ _ (by omega), xT_ne _ _ (by omega), xT_ne _ _ (by omega), xT_ne _ _ (by omega)]) (fun k h1 h2 => (zputb_ne (by omega) (by omega) (by omega) (by omega)))
  · exact ⟨(ht k hk).1.trans ((zputb_ne (by omega) (by omega) (by omega) (by omega))).symm, (ht k hk).2.trans ((zputb_ne (by omega) (by omega) (by omega) (by omega))).symm⟩
  · exact (hs s hs1).congr hs1 rfl rfl (fun k h1 h2 => (zputb_ne (by omega) (by omega) (by omega) (by omega)))
  · have hz5 : ∀ j, 962 ≤ j → (upd (upd (upd (upd (upd z 2 (nI (bz + 1))) (94 + 10 * bz + 0) (nI kg)) (94 + 10 * bz + 1) un) (94 + 10 * bz + 2) dl) (94 + 10 * bz + 3) un) j = z j := fun j hj => by rw [upd_ne _ _ (by omega), upd_ne _ _ (by omega), upd_ne _ _ (by omega), upd_ne _ _ (by omega), upd_ne _ _ (by omega)]
    exact rLog.step n5 (fun k hk => (hl k hk).congr hk (fun _ _ _ => rfl) (fun j h1 h2 => hz5 j h1)) rfl rfl rfl (by show upd (T 37) nx (T 40 0) = _; rw [a6]; congr 1; rw [upd_ne _ _ (by omega), upd_ne _ _ (by omega), upd_ne _ _ (by omega), upd_ne _ _ (by omega), upd_ne _ _ (by omega)]) k hk
  · exact (hw w hw1).trans ((zputb_ne (by omega) (by omega) (by omega) (by omega))).symm
