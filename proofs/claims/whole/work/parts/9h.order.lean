/-! An order of both: what is sold. -/
/-- a state behind an order, of which Q is sold -/
def ordT (T : Nat → Nat → Int32) (gz bz oz tk kg : Nat) (un le sb got rep due : Int32) (Q : XS) : Nat → Nat → Int32 := (xT (xT (xT (xT (xT (xT (xT (xT (xT (xT (xT (xT (xT (xT (xT (xT (xT (xT (xT (xT (xT (xT (xT (xT (xT T 0 (fun _ => nI gz)) 5 (fun _ => nI bz)) 9 (Q.1)) 10 (Q.2.1)) 12 (Q.2.2.1)) 16 (fun _ => nI (oz + 1))) 17 (fun _ => nI Q.2.2.2.2.2.2.1)) 18 (upd (T 18) oz (nI kg))) 19 (upd (T 19) oz un)) 20 (upd (T 20) (oz + 1 - 1) got)) 21 (upd (T 21) (oz + 1 - 1) rep)) 22 (upd (T 22) oz le)) 23 (upd (T 23) oz (if sb = 0 then nI 0 else nI 1))) 24 (Q.2.2.2.1)) 25 (upd (T 25) (oz + 1 - 1) due)) 26 (upd (T 26) oz (T 40 0))) 27 (upd (T 27) oz (nI tk))) 28 (Q.2.2.2.2.1)) 29 (Q.2.2.2.2.2.1)) 32 (fun _ => nI Q.2.2.2.2.2.2.2.1)) 33 (fun _ => nI Q.2.2.2.2.2.2.2.2.1)) 34 (Q.2.2.2.2.2.2.2.2.2.1)) 35 (Q.2.2.2.2.2.2.2.2.2.2.1)) 36 (Q.2.2.2.2.2.2.2.2.2.2.2.1)) 37 (Q.2.2.2.2.2.2.2.2.2.2.2.2))
theorem ordT_ne {T : Nat → Nat → Int32} {gz bz oz tk kg : Nat} {un le sb got rep due : Int32} {Q : XS} {k : Nat} (h : k ≠ 0 ∧ k ≠ 5 ∧ k ≠ 9 ∧ k ≠ 10 ∧ k ≠ 12 ∧ k ≠ 16 ∧ k ≠ 17 ∧ k ≠ 18 ∧ k ≠ 19 ∧ k ≠ 20 ∧ k ≠ 21 ∧ k ≠ 22 ∧ k ≠ 23 ∧ k ≠ 24 ∧ k ≠ 25 ∧ k ≠ 26 ∧ k ≠ 27 ∧ k ≠ 28 ∧ k ≠ 29 ∧ k ≠ 32 ∧ k ≠ 33 ∧ k ≠ 34 ∧ k ≠ 35 ∧ k ≠ 36 ∧ k ≠ 37) : ordT T gz bz oz tk kg un le sb got rep due Q k = T k := by
  unfold ordT
  rw [xT_ne _ _ (by omega), xT_ne _ _ (by omega), xT_ne _ _ (by omega), xT_ne _ _ (by omega), xT_ne _ _ (by omega), xT_ne _ _ (by omega), xT_ne _ _ (by omega), xT_ne _ _ (by omega), xT_ne _ _ (by omega), xT_ne _ _ (by omega), xT_ne _ _ (by omega), xT_ne _ _ (by omega), xT_ne _ _ (by omega), xT_ne _ _ (by omega), xT_ne _ _ (by omega), xT_ne _ _ (by omega), xT_ne _ _ (by omega), xT_ne _ _ (by omega), xT_ne _ _ (by omega), xT_ne _ _ (by omega), xT_ne _ _ (by omega), xT_ne _ _ (by omega), xT_ne _ _ (by omega), xT_ne _ _ (by omega), xT_ne _ _ (by omega)]
theorem zord_ne {z : Nat → Int32} {oz gk tk pm k : Nat} {un le sb got sub due : Int32} (h3 : k ≠ 3) (h : k < 494 + 10 * oz ∨ 494 + 10 * oz + 9 < k) : zord z oz gk un le sb got sub due tk pm k = z k := by
  unfold zord
  rw [upd_ne _ _ (by omega), upd_ne _ _ (by omega), upd_ne _ _ (by omega), upd_ne _ _ (by omega), upd_ne _ _ (by omega), upd_ne _ _ (by omega), upd_ne _ _ (by omega), upd_ne _ _ (by omega), upd_ne _ _ (by omega), upd_ne _ _ (by omega), upd_ne _ _ (by omega)]
theorem zord_3 {z : Nat → Int32} {oz gk tk pm : Nat} {un le sb got sub due : Int32} : zord z oz gk un le sb got sub due tk pm 3 = nI (oz + 1) := by
  unfold zord
  rw [upd_ne _ _ (by omega), upd_ne _ _ (by omega), upd_ne _ _ (by omega), upd_ne _ _ (by omega), upd_ne _ _ (by omega), upd_ne _ _ (by omega), upd_ne _ _ (by omega), upd_ne _ _ (by omega), upd_ne _ _ (by omega), upd_ne _ _ (by omega), upd_at]
theorem zord_at {z : Nat → Int32} {oz gk tk pm : Nat} {un le sb got sub due : Int32} : zO (zord z oz gk un le sb got sub due tk pm) oz 0 = nI gk ∧ zO (zord z oz gk un le sb got sub due tk pm) oz 1 = un ∧ zO (zord z oz gk un le sb got sub due tk pm) oz 2 = got ∧ zO (zord z oz gk un le sb got sub due tk pm) oz 3 = sub ∧ zO (zord z oz gk un le sb got sub due tk pm) oz 4 = le ∧ zO (zord z oz gk un le sb got sub due tk pm) oz 5 = (if sb = 0 then nI 0 else nI 1) ∧ zO (zord z oz gk un le sb got sub due tk pm) oz 6 = due ∧ zO (zord z oz gk un le sb got sub due tk pm) oz 7 = z 0 ∧ zO (zord z oz gk un le sb got sub due tk pm) oz 8 = nI tk ∧ zO (zord z oz gk un le sb got sub due tk pm) oz 9 = nI pm := by
  unfold zord zO
  refine ⟨?_, ?_, ?_, ?_, ?_, ?_, ?_, ?_, ?_, ?_⟩
  · rw [upd_ne _ _ (by omega), upd_ne _ _ (by omega), upd_ne _ _ (by omega), upd_ne _ _ (by omega), upd_ne _ _ (by omega), upd_ne _ _ (by omega), upd_ne _ _ (by omega), upd_ne _ _ (by omega), upd_ne _ _ (by omega), upd_at]
  · rw [upd_ne _ _ (by omega), upd_ne _ _ (by omega), upd_ne _ _ (by omega), upd_ne _ _ (by omega), upd_ne _ _ (by omega), upd_ne _ _ (by omega), upd_ne _ _ (by omega), upd_ne _ _ (by omega), upd_at]
  · rw [upd_ne _ _ (by omega), upd_ne _ _ (by omega), upd_ne _ _ (by omega), upd_ne _ _ (by omega), upd_ne _ _ (by omega), upd_ne _ _ (by omega), upd_ne _ _ (by omega), upd_at]
  · rw [upd_ne _ _ (by omega), upd_ne _ _ (by omega), upd_ne _ _ (by omega), upd_ne _ _ (by omega), upd_ne _ _ (by omega), upd_ne _ _ (by omega), upd_at]
  · rw [upd_ne _ _ (by omega), upd_ne _ _ (by omega), upd_ne _ _ (by omega), upd_ne _ _ (by omega), upd_ne _ _ (by omega), upd_at]
  · rw [upd_ne _ _ (by omega), upd_ne _ _ (by omega), upd_ne _ _ (by omega), upd_ne _ _ (by omega), upd_at]
  · rw [upd_ne _ _ (by omega), upd_ne _ _ (by omega), upd_ne _ _ (by omega), upd_at]
  · rw [upd_ne _ _ (by omega), upd_ne _ _ (by omega), upd_at]
  · rw [upd_ne _ _ (by omega), upd_at]
  · rw [upd_at]
theorem zsold_ne {z : Nat → Int32} {tk b k : Nat} {u c : Int32} (h : k < 962) (h9 : k ≠ 9) (h8 : k ≠ 8) (ht : k ≠ 794 + 2 * tk) (ht1 : k ≠ 794 + 2 * tk + 1) (b3 : k ≠ 94 + 10 * b + 3) (b4 : k ≠ 94 + 10 * b + 4) (b9 : k ≠ 94 + 10 * b + 9) : zsold z tk b u c k = z k := by
  unfold zsold zadd
  rw [znote_low _ _ _ _ h h9, upd_ne _ _ h8, upd_ne _ _ ht1, upd_ne _ _ ht, upd_ne _ _ b9, upd_ne _ _ b4, upd_ne _ _ b3]
theorem zsold_at {z : Nat → Int32} {tk b : Nat} {u c : Int32} (hb : b < 40) (ht : tk < 70) : zB (zsold z tk b u c) b 3 = zB z b 3 - u ∧ zB (zsold z tk b u c) b 4 = zB z b 4 + u ∧ zB (zsold z tk b u c) b 9 = zB z b 9 + c ∧ zsold z tk b u c (794 + 2 * tk) = nI b ∧ zsold z tk b u c (795 + 2 * tk) = u := by
  unfold zsold zadd zB
  refine ⟨?_, ?_, ?_, ?_, ?_⟩
  · rw [znote_low _ _ _ _ (by omega) (by omega), upd_ne _ _ (by omega), upd_ne _ _ (by omega), upd_ne _ _ (by omega), upd_ne _ _ (by omega), upd_ne _ _ (by omega), upd_at]
    exact (Int32.sub_eq_add_neg _ _).symm
  · rw [znote_low _ _ _ _ (by omega) (by omega), upd_ne _ _ (by omega), upd_ne _ _ (by omega), upd_ne _ _ (by omega), upd_ne _ _ (by omega), upd_at, upd_ne _ _ (by omega)]
  · rw [znote_low _ _ _ _ (by omega) (by omega), upd_ne _ _ (by omega), upd_ne _ _ (by omega), upd_ne _ _ (by omega), upd_at, upd_ne _ _ (by omega), upd_ne _ _ (by omega)]
  · rw [znote_low _ _ _ _ (by omega) (by omega), upd_ne _ _ (by omega), upd_ne _ _ (by omega), upd_at]
  · rw [znote_low _ _ _ _ (by omega) (by omega), upd_ne _ _ (by omega), show 795 + 2 * tk = 794 + 2 * tk + 1 by omega, upd_at]
theorem zsold_9 {z : Nat → Int32} {tk b lz : Nat} {u c : Int32} (h : z 9 = nI lz) (hl : lz ≤ 10) (ht : tk < 70) : zsold z tk b u c 9 = nI (min (lz + 1) 10) := by
  unfold zsold
  refine znote_9 _ _ _ _ ?_ hl
  unfold zadd
  rw [upd_ne _ _ (by omega), upd_ne _ _ (by omega), upd_ne _ _ (by omega), upd_ne _ _ (by omega), upd_ne _ _ (by omega), upd_ne _ _ (by omega)]
  exact h
/-- behind k of n parts -/
def rSlI (T : Nat → Nat → Int32) (gz bz oz tk kg : Nat) (un le sb got rep due : Int32) (fb : Nat → Int32) (n : Nat) (Z0 : Nat → Int32) (k : Nat) (Q : XS) (Z : Nat → Int32) : Prop :=
  (Q.2.2.2.2.2.2.1 = tk + k ∧ Z 9 = nI Q.2.2.2.2.2.2.2.1 ∧ Q.2.2.2.2.2.2.2.1 ≤ 10 ∧ Q.2.2.2.2.2.2.2.2.1 < 10 ∧ Q.2.2.2.1 = upd (T 24) oz (nI k)) ∧
  ((k < n → tk + k + 1 + xopn Q.1 bz ≤ bz + (oz + 1)) ∧ tk + k + xopn Q.1 bz ≤ bz + (oz + 1)) ∧
  (∀ b, b < 40 → rBat 1 gz bz (ordT T gz bz oz tk kg un le sb got rep due Q) Z b) ∧ (∀ j, j < 70 → Q.2.2.2.2.1 j = Z (794 + 2 * j) ∧ Q.2.2.2.2.2.1 j = Z (795 + 2 * j)) ∧ (∀ j, j < 10 → rLog Q.2.2.2.2.2.2.2.2.1 (ordT T gz bz oz tk kg un le sb got rep due Q) Z j) ∧
  (∀ j, j < 962 → j ≠ 8 → j ≠ 9 → (j < 94 ∨ (494 ≤ j ∧ j < 794) ∨ 954 ≤ j) → Z j = Z0 j) ∧ (∀ b, b < bz → (∀ j, j < k → fb j ≠ nI b) → Q.1 b = T 9 b)
theorem rSlI.step {gz bz oz tk kg n k b m us : Nat} {T : Nat → Nat → Int32} {un le sb got rep due c : Int32} {fb : Nat → Int32} {Z0 Z : Nat → Int32} {Q : XS} (h : rSlI T gz bz oz tk kg un le sb got rep due fb n Z0 k Q Z) (hk : k < n) (hb : b < bz) (hbz : bz ≤ 40) (hoz : oz < 30) (hd : T 40 0 = Z0 0) (hfb : fb k = nI b) (hus : T 9 b = nI us) (h9 : us ≤ 999) (h0 : us ≠ 0) (hm : m ≤ us) (hdis : ∀ j, j < k → fb j ≠ nI b) (hlast : k + 1 < n → m = us) (htk : tk + n ≤ 70) :
    rSlI T gz bz oz tk kg un le sb got rep due fb n Z0 (k + 1) (xsell1 (T 40 0) (oz + 1) Q b (nI m) c) (zsold Z (tk + k) b (nI m) c) := by
  obtain ⟨⟨a1, a2, a3, a4, a5⟩, ⟨i1, i2⟩, hB, hK, hL, hZ, hR⟩ := h
  have hs : Q.1 b = nI us := (hR b hb hdis).trans hus
  have hs0 : Q.1 b ≠ nI 0 := fun q => h0 (nI_inj (by omega) (by omega) (hs.symm.trans q))
  have e9 : Q.1 b - nI m = nI (us - m) := by rw [hs, nI_sub hm]
  have hc := i1 hk
  refine ⟨⟨?_, zsold_9 a2 a3 (by omega), ?_, ?_, ?_⟩, ⟨fun hk2 => ?_, ?_⟩, fun b' hb' => ?_, fun j hj => ?_, ?_, fun j j1 j2 j3 j4 => ?_, fun b' hb' hj => ?_⟩
  · show Q.2.2.2.2.2.2.1 + 1 = tk + (k + 1)
    omega
  · show min (Q.2.2.2.2.2.2.2.1 + 1) 10 ≤ 10
    omega
  · show (Q.2.2.2.2.2.2.2.2.1 + 1) % 10 < 10
    omega
  · show upd Q.2.2.2.1 (oz + 1 - 1) (Q.2.2.2.1 (oz + 1 - 1) + nI 1) = upd (T 24) oz (nI (k + 1))
    rw [a5, Nat.add_sub_cancel, upd_at, nI_add]
    funext j
    by_cases e : j = oz
    · rw [e, upd_at, upd_at]
    · rw [upd_ne _ _ e, upd_ne _ _ e, upd_ne _ _ e]
  · show tk + (k + 1) + 1 + xopn (upd Q.1 b (Q.1 b - nI m)) bz ≤ bz + (oz + 1)
    have e0 : us - m = 0 := by have := hlast hk2; omega
    rw [e9, e0]
    have := xopn_dec Q.1 hs0 hb
    omega
  · show tk + (k + 1) + xopn (upd Q.1 b (Q.1 b - nI m)) bz ≤ bz + (oz + 1)
    have := xopn_le Q.1 (v := Q.1 b - nI m) (b := b) (Or.inr hs0) bz
    omega
  · obtain ⟨⟨b1, b2, b3, b4, b5⟩, ⟨b6, b7, b8, b9, b10⟩, b11, b12⟩ := hB b' hb'
    have b4 : Q.1 b' = zB Z b' 3 := b4
    have b5 : Q.2.1 b' = zB Z b' 4 := b5
    have b10 : Q.2.2.1 b' = zB Z b' 9 := b10
    have b11 : b' < bz → (∃ g : Nat, g < gz ∧ T 6 b' = nI g) ∧ (∃ d : Nat, d ≤ 60 ∧ T 8 b' = nI d ∧ (Q.1 b' ≠ nI 0 → 1 ≤ d)) ∧ ∃ u : Nat, u ≤ 999 ∧ Q.1 b' = nI u := b11
    show (T 6 b' = zB (zsold Z (tk + k) b (nI m) c) b' 0 ∧ T 7 b' = zB (zsold Z (tk + k) b (nI m) c) b' 1 ∧ T 8 b' = zB (zsold Z (tk + k) b (nI m) c) b' 2 ∧ upd Q.1 b (Q.1 b - nI m) b' = zB (zsold Z (tk + k) b (nI m) c) b' 3 ∧ upd Q.2.1 b (Q.2.1 b + nI m) b' = zB (zsold Z (tk + k) b (nI m) c) b' 4) ∧
      (T 11 b' = zB (zsold Z (tk + k) b (nI m) c) b' 5 ∧ T 13 b' = zB (zsold Z (tk + k) b (nI m) c) b' 6 ∧ T 14 b' = zB (zsold Z (tk + k) b (nI m) c) b' 7 ∧ T 15 b' = zB (zsold Z (tk + k) b (nI m) c) b' 8 ∧ upd Q.2.2.1 b (Q.2.2.1 b + c) b' = zB (zsold Z (tk + k) b (nI m) c) b' 9) ∧
      (b' < bz → (∃ g : Nat, g < gz ∧ T 6 b' = nI g) ∧ (∃ d : Nat, d ≤ 60 ∧ T 8 b' = nI d ∧ (upd Q.1 b (Q.1 b - nI m) b' ≠ nI 0 → 1 ≤ d)) ∧ ∃ u : Nat, u ≤ 999 ∧ upd Q.1 b (Q.1 b - nI m) b' = nI u) ∧ (bz ≤ b' → upd Q.1 b (Q.1 b - nI m) b' = nI 0)
    have e : ∀ w, w < 10 → (b' = b → w ≠ 3 ∧ w ≠ 4 ∧ w ≠ 9) → zB (zsold Z (tk + k) b (nI m) c) b' w = zB Z b' w := fun w h1 h2 => by
      unfold zB
      exact zsold_ne (by omega) (by omega) (by omega) (by omega) (by omega) (by omega) (by omega) (by omega)
    rw [e 0 (by omega) (by omega), e 1 (by omega) (by omega), e 2 (by omega) (by omega), e 5 (by omega) (by omega), e 6 (by omega) (by omega), e 7 (by omega) (by omega), e 8 (by omega) (by omega)]
    by_cases q : b' = b
    · subst q
      obtain ⟨z3, z4, z9, -, -⟩ := zsold_at (z := Z) (tk := tk + k) (b := b') (u := nI m) (c := c) hb' (by omega)
      rw [z3, z4, z9, upd_at, upd_at, upd_at, ← b4, ← b5, ← b10]
      obtain ⟨g, ⟨d, hd1, hd2, hd3⟩, -⟩ := b11 hb
      exact ⟨⟨b1, b2, b3, rfl, rfl⟩, ⟨b6, b7, b8, b9, rfl⟩, fun _ => ⟨g, ⟨d, hd1, hd2, fun _ => hd3 hs0⟩, us - m, by omega, e9⟩, fun h => by omega⟩
    · rw [e 3 (by omega) (fun h => absurd h q), e 4 (by omega) (fun h => absurd h q), e 9 (by omega) (fun h => absurd h q), upd_ne _ _ q, upd_ne _ _ q, upd_ne _ _ q]
      exact ⟨⟨b1, b2, b3, b4, b5⟩, ⟨b6, b7, b8, b9, b10⟩, b11, b12⟩
  · show upd Q.2.2.2.2.1 Q.2.2.2.2.2.2.1 (nI b) j = zsold Z (tk + k) b (nI m) c (794 + 2 * j) ∧ upd Q.2.2.2.2.2.1 Q.2.2.2.2.2.2.1 (nI m) j = zsold Z (tk + k) b (nI m) c (795 + 2 * j)
    rw [a1]
    by_cases e : j = tk + k
    · obtain ⟨-, -, -, t1, t2⟩ := zsold_at (z := Z) (tk := tk + k) (b := b) (u := nI m) (c := c) (by omega) (by omega)
      rw [e, upd_at, upd_at, t1, t2]
      exact ⟨rfl, rfl⟩
    · rw [upd_ne _ _ e, upd_ne _ _ e, zsold_ne (by omega) (by omega) (by omega) (by omega) (by omega) (by omega) (by omega) (by omega), zsold_ne (by omega) (by omega) (by omega) (by omega) (by omega) (by omega) (by omega) (by omega)]
      exact hK j hj
  · have hz0 : Z 0 = T 40 0 := (hZ 0 (by omega) (by omega) (by omega) (by omega)).trans hd.symm
    have hz5 : ∀ j, (962 ≤ j ∨ j = 0) → (upd (upd (upd (zadd (zadd (zadd Z b 3 (-(nI m))) b 4 (nI m)) b 9 c) (794 + 2 * (tk + k)) (nI b)) (794 + 2 * (tk + k) + 1) (nI m)) 8 (nI (tk + k + 1))) j = Z j := fun j hj => by
      unfold zadd
      rw [upd_ne _ _ (by omega), upd_ne _ _ (by omega), upd_ne _ _ (by omega), upd_ne _ _ (by omega), upd_ne _ _ (by omega), upd_ne _ _ (by omega)]
    unfold zsold
    exact rLog.step (T := ordT T gz bz oz tk kg un le sb got rep due Q) (T' := ordT T gz bz oz tk kg un le sb got rep due (xsell1 (T 40 0) (oz + 1) Q b (nI m) c)) a4 (fun k hk => (hL k hk).congr hk (fun _ _ _ => rfl) (fun j h1 h2 => hz5 j (Or.inl h1))) rfl rfl rfl (by
      rw [hz5 0 (Or.inr rfl), hz0]
      rfl)
  · rw [zsold_ne (by omega) (by omega) (by omega) (by omega) (by omega) (by omega) (by omega) (by omega)]
    exact hZ j j1 j2 j3 j4
  · show upd Q.1 b (Q.1 b - nI m) b' = T 9 b'
    have e : b' ≠ b := fun e => hj k (by omega) (by rw [hfb, e])
    rw [upd_ne _ _ e]
    exact hR b' hb' (fun j h1 => hj j (by omega))
theorem rSlI.all {gz bz oz tk lz nx kg un0 : Nat} {T : Nat → Nat → Int32} {z Z0 : Nat → Int32} {un le sb got rep due : Int32} {F : XF} {G : ZF} (h : RelN 1 gz bz oz tk lz nx T z) (hP : rPlan T bz (xopn (T 9) bz) un0 F G) (hoz : oz < 30) (h0 : ∀ j, j < 1002 → j ≠ 3 → (j < 494 ∨ 794 ≤ j) → Z0 j = z j) : ∀ k, k ≤ F.1 →
    rSlI T gz bz oz tk kg un le sb got rep due F.2.2.1 F.1 Z0 k (xsell (T 40 0) (oz + 1) F.2.2.1 F.2.2.2.1 F.2.2.2.2.1 (T 9, T 10, T 12, T 24, T 28, T 29, tk, lz, nx, T 34, T 35, T 36, T 37) k) (zsell Z0 tk G.2.2.2.2.1 G.2.2.2.2.2.1 G.2.2.2.2.2.2 k)
  | 0, _ => by
    obtain ⟨⟨⟨n1, n2, n3, n4, n5, n6⟩, ⟨c1, c2, c3, c4, c5, c6⟩, ⟨a1, a2, a3, a4, a5, a6, a7⟩, hrb⟩, hG, hb, ho, ht, hs, hl, hw⟩ := h
    refine ⟨⟨rfl, (h0 9 (by omega) (by omega) (by omega)).trans a5, n4, n5, ?_⟩, ⟨fun _ => ?_, ?_⟩, fun b hb1 => ?_, fun j hj => ?_, fun j hj => ?_, fun j _ _ _ _ => rfl, fun b _ _ => rfl⟩
    · show T 24 = upd (T 24) oz (nI 0)
      funext j
      by_cases e : j = oz
      · rw [e, upd_at]
        exact (ho oz (by omega)).2.2.2 (Nat.le_refl _)
      · rw [upd_ne _ _ e]
    · show tk + 0 + 1 + xopn (T 9) bz ≤ bz + (oz + 1)
      omega
    · show tk + 0 + xopn (T 9) bz ≤ bz + (oz + 1)
      omega
    · refine (hb b hb1).congr hb1 (Nat.le_refl _) (fun k h1 h2 => ?_) (fun k h1 h2 => h0 k (by omega) (by omega) (by omega))
      rcases (show k = 6 ∨ k = 7 ∨ k = 8 ∨ k = 9 ∨ k = 10 ∨ k = 11 ∨ k = 12 ∨ k = 13 ∨ k = 14 ∨ k = 15 by omega) with rfl | rfl | rfl | rfl | rfl | rfl | rfl | rfl | rfl | rfl <;> rfl
    · show T 28 j = Z0 (794 + 2 * j) ∧ T 29 j = Z0 (795 + 2 * j)
      rw [h0 _ (by omega) (by omega) (by omega), h0 _ (by omega) (by omega) (by omega)]
      exact ht j hj
    · refine (hl j hj).congr hj (fun k h1 h2 => ?_) (fun k h1 h2 => h0 k (by omega) (by omega) (by omega))
      rcases (show k = 34 ∨ k = 35 ∨ k = 36 ∨ k = 37 by omega) with rfl | rfl | rfl | rfl <;> rfl
  | k + 1, hk => by
    have ih := rSlI.all (un := un) (le := le) (sb := sb) (got := got) (rep := rep) (due := due) (kg := kg) h hP hoz h0 k (by omega)
    have hbz := h.1.1.2.1
    have h2 := (hP.asks h hoz).2.2.1
    obtain ⟨⟨q1, q2, q3⟩, b, m, us, b1, b2, b3, b4, b5, b6, b7, b8, b9, b10⟩ := hP.2.2.2 k (by omega)
    show rSlI T gz bz oz tk kg un le sb got rep due F.2.2.1 F.1 Z0 (k + 1) (xsell1 (T 40 0) (oz + 1) (xsell (T 40 0) (oz + 1) F.2.2.1 F.2.2.2.1 F.2.2.2.2.1 (T 9, T 10, T 12, T 24, T 28, T 29, tk, lz, nx, T 34, T 35, T 36, T 37) k) (F.2.2.1 k).toNatClampNeg (F.2.2.2.1 k) (F.2.2.2.2.1 k)) (zsold (zsell Z0 tk G.2.2.2.2.1 G.2.2.2.2.2.1 G.2.2.2.2.2.2 k) (tk + k) (G.2.2.2.2.1 k).toNatClampNeg (G.2.2.2.2.2.1 k) (G.2.2.2.2.2.2 k))
    rw [← q1, ← q2, ← q3, b5, b6, nI_clamp (by omega)]
    exact ih.step (by omega) b1 hbz hoz (h.1.2.2.1.2.2.2.2.2.1.trans (h0 0 (by omega) (by omega) (by omega)).symm) b5 b7 b3 b4 b2 b10 (fun q => b9 (Or.inr q)) h2
/-- an order of both -/
theorem rOrder {gz bz oz tk lz nx kg un lm : Nat} {T : Nat → Nat → Int32} {z : Nat → Int32} (h : RelN 1 gz bz oz tk lz nx T z) (hkg : kg < gz) (hun : 1 ≤ un ∧ un ≤ 999) (hlm : T 3 kg = nI lm) (hl4 : lm ≤ 4) (hoz : oz < 30) (le sb got rep due : Int32) {F : XF} {G : ZF} (hP : rPlan T bz (xopn (T 9) bz) un F G) {Q : XS} (hQ : Q = xsell (T 40 0) (oz + 1) F.2.2.1 F.2.2.2.1 F.2.2.2.2.1 (T 9, T 10, T 12, T 24, T 28, T 29, tk, lz, nx, T 34, T 35, T 36, T 37) F.1) :
    RelN 1 gz bz (oz + 1) Q.2.2.2.2.2.2.1 Q.2.2.2.2.2.2.2.1 Q.2.2.2.2.2.2.2.2.1 (ordT T gz bz oz tk kg (nI un) le sb got rep due Q) (zsell (zord z oz kg (nI un) le sb got rep due tk G.1) tk G.2.2.2.2.1 G.2.2.2.2.2.1 G.2.2.2.2.2.2 G.1) := by
  have key := rSlI.all (un := nI un) (le := le) (sb := sb) (got := got) (rep := rep) (due := due) (kg := kg) (Z0 := zord z oz kg (nI un) le sb got rep due tk G.1) h hP hoz (fun j j1 j2 j3 => zord_ne (by omega) (by omega)) F.1 (Nat.le_refl _)
  rw [← hQ] at key
  have hn := hP.1.1
  rw [hn] at key
  obtain ⟨⟨m1, m2, m3, m4, m5⟩, ⟨-, i2⟩, hB, hK, hL, hZ, -⟩ := key
  have hz8 := zsell_8 (z := zord z oz kg (nI un) le sb got rep due tk G.1) (tk := tk) (pb := G.2.2.2.2.1) (pu := G.2.2.2.2.2.1) (pc := G.2.2.2.2.2.2) (by rw [zord_ne (by omega) (by omega)]; exact h.1.2.2.1.2.2.2.1) G.1
  obtain ⟨⟨⟨n1, n2, n3, n4, n5, n6⟩, ⟨c1, c2, c3, c4, c5, c6⟩, ⟨a1, a2, a3, a4, a5, a6, a7⟩, hrb⟩, hG, hb, ho, ht, hs, hl, hw⟩ := h
  generalize zsell (zord z oz kg (nI un) le sb got rep due tk G.1) tk G.2.2.2.2.1 G.2.2.2.2.2.1 G.2.2.2.2.2.2 G.1 = Z at *
  have hzo : ∀ j, j < 962 → j ≠ 3 → j ≠ 8 → j ≠ 9 → (j < 94 ∨ 954 ≤ j) → Z j = z j := fun j j1 j2 j3 j4 j5 => (hZ j j1 j3 j4 (by omega)).trans (zord_ne j2 (by omega))
  have hzq : ∀ o w, o < 30 → w < 10 → zO Z o w = zO (zord z oz kg (nI un) le sb got rep due tk G.1) o w := fun o w o1 w1 => hZ _ (by omega) (by omega) (by omega) (by omega)
  refine ⟨⟨⟨n1, n2, by omega, m3, m4, by rw [m1]; exact i2⟩, ⟨rfl, rfl, rfl, rfl, rfl, rfl⟩, ⟨?_, ?_, ?_, ?_, m2, ?_, ?_⟩, hrb⟩, fun g hg1 => ?_, hB, fun o ho1 => ?_, fun k hk => hK k hk, fun s hs1 => ?_, hL, fun w hw1 => ?_⟩
  · rw [hzo 1 (by omega) (by omega) (by omega) (by omega) (by omega)]; exact a1
  · rw [hzo 2 (by omega) (by omega) (by omega) (by omega) (by omega)]; exact a2
  · rw [hZ 3 (by omega) (by omega) (by omega) (by omega), zord_3]
  · rw [hz8, m1]
  · rw [hzo 0 (by omega) (by omega) (by omega) (by omega) (by omega)]; exact a6
  · rw [hzo 7 (by omega) (by omega) (by omega) (by omega) (by omega)]; exact a7
  · refine (hG g hg1).congr hg1 (fun k h1 h2 => ?_) (fun k h1 h2 => hzo k (by omega) (by omega) (by omega) (by omega) (by omega))
    rcases (show k = 1 ∨ k = 2 ∨ k = 3 ∨ k = 4 by omega) with rfl | rfl | rfl | rfl <;> rfl
  · obtain ⟨⟨b1, b2, b3, b4, b5⟩, ⟨b6, b7, b8, b9, b10⟩, b11, b12⟩ := ho o ho1
    show (upd (T 18) oz (nI kg) o = zO Z o 0 ∧ upd (T 19) oz (nI un) o = zO Z o 1 ∧ upd (T 20) (oz + 1 - 1) got o = zO Z o 2 ∧ upd (T 21) (oz + 1 - 1) rep o = zO Z o 3 ∧ upd (T 22) oz le o = zO Z o 4) ∧
      (upd (T 23) oz (if sb = 0 then nI 0 else nI 1) o = zO Z o 5 ∧ Q.2.2.2.1 o = zO Z o 9 ∧ upd (T 25) (oz + 1 - 1) due o = zO Z o 6 ∧ upd (T 26) oz (T 40 0) o = zO Z o 7 ∧ upd (T 27) oz (nI tk) o = zO Z o 8) ∧
      (o < oz + 1 → ∃ ft pt : Nat, upd (T 27) oz (nI tk) o = nI ft ∧ Q.2.2.2.1 o = nI pt ∧ ft + pt ≤ Q.2.2.2.2.2.2.1) ∧ (oz + 1 ≤ o → Q.2.2.2.1 o = nI 0)
    rw [m5, m1, Nat.add_sub_cancel, hzq o 0 ho1 (by omega), hzq o 1 ho1 (by omega), hzq o 2 ho1 (by omega), hzq o 3 ho1 (by omega), hzq o 4 ho1 (by omega), hzq o 5 ho1 (by omega), hzq o 6 ho1 (by omega), hzq o 7 ho1 (by omega), hzq o 8 ho1 (by omega), hzq o 9 ho1 (by omega)]
    by_cases e : o = oz
    · subst e
      obtain ⟨q0, q1, q2, q3, q4, q5, q6, q7, q8, q9⟩ := zord_at (z := z) (oz := o) (gk := kg) (un := nI un) (le := le) (sb := sb) (got := got) (sub := rep) (due := due) (tk := tk) (pm := G.1)
      rw [q0, q1, q2, q3, q4, q5, q6, q7, q8, q9, upd_at, upd_at, upd_at, upd_at, upd_at, upd_at, upd_at, upd_at, upd_at, upd_at]
      exact ⟨⟨rfl, rfl, rfl, rfl, rfl⟩, ⟨rfl, rfl, rfl, a6, rfl⟩, fun _ => ⟨tk, G.1, rfl, rfl, Nat.le_refl _⟩, fun h => by omega⟩
    · have e2 : ∀ w, w < 10 → zO (zord z oz kg (nI un) le sb got rep due tk G.1) o w = zO z o w := fun w w1 => by
        unfold zO
        exact zord_ne (by omega) (by omega)
      rw [e2 0 (by omega), e2 1 (by omega), e2 2 (by omega), e2 3 (by omega), e2 4 (by omega), e2 5 (by omega), e2 6 (by omega), e2 7 (by omega), e2 8 (by omega), e2 9 (by omega), upd_ne _ _ e, upd_ne _ _ e, upd_ne _ _ e, upd_ne _ _ e, upd_ne _ _ e, upd_ne _ _ e, upd_ne _ _ e, upd_ne _ _ e, upd_ne _ _ e, upd_ne _ _ e]
      refine ⟨⟨b1, b2, b3, b4, b5⟩, ⟨b6, b7, b8, b9, b10⟩, fun q => ?_, fun q => b12 (by omega)⟩
      obtain ⟨ft, pt, f1, f2, f3⟩ := b11 (by omega)
      exact ⟨ft, pt, f1, f2, by omega⟩
  · refine (hs s hs1).congr hs1 rfl rfl (fun k h1 h2 => hzo k (by omega) (by omega) (by omega) (by omega) (by omega))
  · rw [hzo _ (by omega) (by omega) (by omega) (by omega) (by omega)]
    exact hw w hw1
