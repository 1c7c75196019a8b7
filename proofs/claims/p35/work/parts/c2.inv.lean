/-! What a state of the law's store knows. -/
/-- how many batches have units on the shelf -/
def zopn (f : Nat → Int32) : Nat → Nat
  | 0 => 0
  | k + 1 => zopn f k + (if f k = nI 0 then 0 else 1)
theorem zopn_le {f f' : Nat → Int32} : ∀ n : Nat, (∀ b, b < n → f b = nI 0 → f' b = nI 0) → zopn f' n ≤ zopn f n
  | 0, _ => Nat.le_refl _
  | n + 1, h => by
    have ih := zopn_le n fun b hb => h b (by omega)
    show zopn f' n + (if f' n = nI 0 then 0 else 1) ≤ zopn f n + (if f n = nI 0 then 0 else 1)
    by_cases e : f n = nI 0
    · rw [if_pos e, if_pos (h n (by omega) e)]
      omega
    · rw [if_neg e]
      split <;> omega
theorem zbeq {j k : Nat} (h : j ≠ k) : Nat.beq j k = false := by
  cases e : Nat.beq j k with
  | false => rfl
  | true => exact absurd (Nat.eq_of_beq_eq_true e) h
def ivG (n : Nat) (T : Nat → Nat → Int32) (g : Nat) : Prop := (∃ p : Nat, (1 ≤ p ∧ p ≤ 9999) ∧ T 1 g = nI p) ∧ (∃ m : Nat, (1 ≤ m ∧ m ≤ 20) ∧ T 2 g = nI m) ∧ ∃ lm : Nat, lm ≤ 4 ∧ T 3 g = nI lm ∧ ∀ j, j < lm → ∃ e : Nat, e < n ∧ T 4 (g * 4 + j) = nI e
def ivB (n : Nat) (T : Nat → Nat → Int32) (b : Nat) : Prop := (∃ g : Nat, g < n ∧ T 6 b = nI g) ∧ (∃ d : Nat, d ≤ 20 ∧ T 8 b = nI d ∧ (T 9 b ≠ nI 0 → 1 ≤ d)) ∧ (∃ u : Nat, u ≤ 90 ∧ T 9 b = nI u) ∧ T 7 b = T 9 b + T 10 b + T 11 b + (T 13 b + T 14 b + T 15 b)
def ivZ (T : Nat → Nat → Int32) (b : Nat) : Prop := T 9 b = nI 0 ∧ T 10 b = nI 0 ∧ T 11 b = nI 0 ∧ T 12 b = nI 0 ∧ T 13 b = nI 0 ∧ T 14 b = nI 0 ∧ T 15 b = nI 0
def ivO (n tk : Nat) (T : Nat → Nat → Int32) (o : Nat) : Prop := (∃ g : Nat, g < n ∧ T 18 o = nI g) ∧ (∃ w G rp : Nat, (rp ≤ G ∧ G ≤ w ∧ w ≤ 400) ∧ T 19 o = nI w ∧ T 20 o = nI G ∧ T 21 o = nI rp) ∧ ∃ ft pt : Nat, ft + pt ≤ tk ∧ T 27 o = nI ft ∧ T 24 o = nI pt ∧ xsum (fun p => T 29 (ft + p)) pt = T 20 o
def ivS (bz oz : Nat) (T : Nat → Nat → Int32) : Prop := ∃ X C D : Nat, (X ≤ 400 * oz ∧ C ≤ 9999 * X ∧ D ≤ C) ∧ xsum (T 10) bz = nI X ∧ xsum (T 20) oz = nI X ∧ xsum (T 12) bz = nI C ∧ xsum (T 25) oz = nI D
def ivN (n bz oz tk lz nx dy : Nat) (T : Nat → Nat → Int32) : Prop := (n ≤ 5 ∧ bz ≤ 16 ∧ oz ≤ 16 ∧ lz ≤ 10 ∧ nx < 10 ∧ dy ≤ 9000) ∧ tk + zopn (T 9) bz ≤ bz + oz ∧ ∀ k, T 0 k = nI n ∧ T 5 k = nI bz ∧ T 16 k = nI oz ∧ T 17 k = nI tk ∧ T 32 k = nI lz ∧ T 33 k = nI nx ∧ T 40 k = nI dy
def ivC (T : Nat → Nat → Int32) : Prop := (∃ rb : Nat, (rb = 0 ∨ rb = 1092616192) ∧ ∀ k, T 39 k = nI rb) ∧ (∃ r ds mx : Nat, (r ≤ 2 ∧ 1 ≤ ds ∧ ds ≤ 4 ∧ mx ≤ 59) ∧ T 38 0 = nI r ∧ T 38 1 = nI ds ∧ T 38 2 = nI mx) ∧ ∀ s, s < 4 → T 30 s = xT0 30 s ∧ T 31 s = xT0 31 s
def Iv (n bz oz tk lz nx dy : Nat) (T : Nat → Nat → Int32) : Prop := ivN n bz oz tk lz nx dy T ∧ ivC T ∧ (∀ g, g < n → ivG n T g) ∧ (∀ b, b < bz → ivB n T b) ∧ (∀ b, bz ≤ b → b < 40 → ivZ T b) ∧ (∀ o, o < oz → ivO n tk T o) ∧ (∀ o, oz ≤ o → o < 30 → T 24 o = nI 0) ∧ ivS bz oz T
section IV
variable {n bz oz tk lz nx dy bz' lz' nx' dy' : Nat} {T T' : Nat → Nat → Int32}
/-- only batches, log and day change -/
theorem Iv.batches (h : Iv n bz oz tk lz nx dy T) (eG : T' 1 = T 1 ∧ T' 2 = T 2 ∧ T' 3 = T 3 ∧ T' 4 = T 4) (eC : T' 30 = T 30 ∧ T' 31 = T 31 ∧ T' 38 = T 38 ∧ T' 39 = T 39) (eO : T' 18 = T 18 ∧ T' 19 = T 19 ∧ T' 20 = T 20 ∧ T' 21 = T 21 ∧ T' 24 = T 24 ∧ T' 25 = T 25 ∧ T' 27 = T 27 ∧ T' 29 = T 29)
    (hN : ivN n bz' oz tk lz' nx' dy' T') (hB : ∀ b, b < bz' → ivB n T' b) (hZ : ∀ b, bz' ≤ b → b < 40 → ivZ T' b) (hs : xsum (T' 10) bz' = xsum (T 10) bz) (hc : xsum (T' 12) bz' = xsum (T 12) bz) : Iv n bz' oz tk lz' nx' dy' T' := by
  obtain ⟨-, iC, iG, -, -, iO, iP, X, C, D, s0, s1, s2, s3, s4⟩ := h
  obtain ⟨g1, g2, g3, g4⟩ := eG
  obtain ⟨c1, c2, c3, c4⟩ := eC
  obtain ⟨o1, o2, o3, o4, o5, o6, o7, o8⟩ := eO
  refine ⟨hN, ?_, fun g hg => ?_, hB, hZ, fun o ho => ?_, fun o h1 h2 => ?_, X, C, D, s0, ?_, ?_, ?_, ?_⟩
  · unfold ivC
    rw [c1, c2, c3, c4]
    exact iC
  · unfold ivG
    rw [g1, g2, g3, g4]
    exact iG g hg
  · unfold ivO
    rw [o1, o2, o3, o4, o5, o7, o8]
    exact iO o ho
  · rw [o5]
    exact iP o h1 h2
  · rw [hs]; exact s1
  · rw [o3]; exact s2
  · rw [hc]; exact s3
  · rw [o6]; exact s4
theorem Iv.n1 (h : Iv n bz oz tk lz nx dy T) : n ≤ 5 ∧ bz ≤ 16 ∧ oz ≤ 16 ∧ lz ≤ 10 ∧ nx < 10 ∧ dy ≤ 9000 := h.1.1
theorem Iv.t0 (h : Iv n bz oz tk lz nx dy T) (k : Nat) : T 0 k = nI n := (h.1.2.2 k).1
theorem Iv.t5 (h : Iv n bz oz tk lz nx dy T) (k : Nat) : T 5 k = nI bz := (h.1.2.2 k).2.1
theorem Iv.t16 (h : Iv n bz oz tk lz nx dy T) (k : Nat) : T 16 k = nI oz := (h.1.2.2 k).2.2.1
theorem Iv.t17 (h : Iv n bz oz tk lz nx dy T) (k : Nat) : T 17 k = nI tk := (h.1.2.2 k).2.2.2.1
theorem Iv.t32 (h : Iv n bz oz tk lz nx dy T) (k : Nat) : T 32 k = nI lz := (h.1.2.2 k).2.2.2.2.1
theorem Iv.t33 (h : Iv n bz oz tk lz nx dy T) (k : Nat) : T 33 k = nI nx := (h.1.2.2 k).2.2.2.2.2.1
theorem Iv.t40 (h : Iv n bz oz tk lz nx dy T) (k : Nat) : T 40 k = nI dy := (h.1.2.2 k).2.2.2.2.2.2
theorem Iv.G (h : Iv n bz oz tk lz nx dy T) {g : Nat} (hg : g < n) : ivG n T g := h.2.2.1 g hg
theorem Iv.B (h : Iv n bz oz tk lz nx dy T) {b : Nat} (hb : b < bz) : ivB n T b := h.2.2.2.1 b hb
theorem Iv.Z (h : Iv n bz oz tk lz nx dy T) {b : Nat} (h1 : bz ≤ b) (h2 : b < 40) : ivZ T b := h.2.2.2.2.1 b h1 h2
theorem Iv.O (h : Iv n bz oz tk lz nx dy T) {o : Nat} (ho : o < oz) : ivO n tk T o := h.2.2.2.2.2.1 o ho
theorem Iv.idx (h : Iv n bz oz tk lz nx dy T) : xidx (T 6) 12 bz := fun b hb => by
  obtain ⟨g, h1, h2⟩ := (h.B hb).1
  have := h.n1
  rw [h2, nI_clamp (by omega)]
  exact ⟨by omega, rfl⟩
theorem Iv.gb (h : Iv n bz oz tk lz nx dy T) {b : Nat} (hb : b < bz) : (T 6 b).toNatClampNeg < n ∧ T 6 b = nI (T 6 b).toNatClampNeg := by
  obtain ⟨g, h1, h2⟩ := (h.B hb).1
  have := h.n1
  rw [h2, nI_clamp (by omega)]
  exact ⟨by omega, rfl⟩
theorem Iv.u (h : Iv n bz oz tk lz nx dy T) {b : Nat} (hb : b < bz) : ∃ u : Nat, u ≤ 90 ∧ T 9 b = nI u := (h.B hb).2.2.1
/-- a state whose numbers are told once more -/
theorem Iv.told (h : Iv n bz oz tk lz nx dy T) : xT (xT (xT T 5 (fun _ => nI bz)) 32 (fun _ => nI lz)) 33 (fun _ => nI nx) = T := by
  funext j
  show cond (Nat.beq j 33) _ (cond (Nat.beq j 32) _ (cond (Nat.beq j 5) _ (T j))) = T j
  by_cases e1 : j = 33
  · subst e1; funext k; exact (h.t33 k).symm
  · by_cases e2 : j = 32
    · subst e2; funext k; exact (h.t32 k).symm
    · by_cases e3 : j = 5
      · subst e3; funext k; exact (h.t5 k).symm
      · rw [zbeq e1, zbeq e2, zbeq e3]
        rfl
end IV
