/-! What a state of the class and a row of the reference have to do with each other. -/
def rGood (gz : Nat) (T : Nat → Nat → Int32) (z : Nat → Int32) (g : Nat) : Prop :=
  T 1 g = zG z g 0 ∧ T 2 g = zG z g 1 ∧ (g < gz → ∃ m : Nat, (1 ≤ m ∧ m ≤ 60) ∧ T 2 g = nI m) ∧
  ∃ lm : Nat, lm ≤ 4 ∧ (gz ≤ g → lm = 0) ∧ T 3 g = nI lm ∧ zG z g 2 = nI lm ∧ ∀ j, j < lm → ∃ e : Nat, e < gz ∧ e ≠ g ∧ T 4 (g * 4 + j) = nI e ∧ z (10 + 7 * g + 3 + j) = nI e
def rBat (lo gz bz : Nat) (T : Nat → Nat → Int32) (z : Nat → Int32) (b : Nat) : Prop :=
  (T 6 b = zB z b 0 ∧ T 7 b = zB z b 1 ∧ T 8 b = zB z b 2 ∧ T 9 b = zB z b 3 ∧ T 10 b = zB z b 4) ∧ (T 11 b = zB z b 5 ∧ T 13 b = zB z b 6 ∧ T 14 b = zB z b 7 ∧ T 15 b = zB z b 8 ∧ T 12 b = zB z b 9) ∧
  (b < bz → (∃ g : Nat, g < gz ∧ T 6 b = nI g) ∧ (∃ d : Nat, d ≤ 60 ∧ T 8 b = nI d ∧ (T 9 b ≠ nI 0 → lo ≤ d)) ∧ ∃ u : Nat, u ≤ 999 ∧ T 9 b = nI u) ∧ (bz ≤ b → T 9 b = nI 0)
def rOrd (oz tk : Nat) (T : Nat → Nat → Int32) (z : Nat → Int32) (o : Nat) : Prop :=
  (T 18 o = zO z o 0 ∧ T 19 o = zO z o 1 ∧ T 20 o = zO z o 2 ∧ T 21 o = zO z o 3 ∧ T 22 o = zO z o 4) ∧ (T 23 o = zO z o 5 ∧ T 24 o = zO z o 9 ∧ T 25 o = zO z o 6 ∧ T 26 o = zO z o 7 ∧ T 27 o = zO z o 8) ∧
  (o < oz → ∃ ft pt : Nat, T 27 o = nI ft ∧ T 24 o = nI pt ∧ ft + pt ≤ tk) ∧ (oz ≤ o → T 24 o = nI 0)
def rLog (nx : Nat) (T : Nat → Nat → Int32) (z : Nat → Int32) (k : Nat) : Prop :=
  T 34 ((nx + 9 - k) % 10) = z (962 + 4 * k) ∧ T 35 ((nx + 9 - k) % 10) = z (962 + 4 * k + 1) ∧ T 36 ((nx + 9 - k) % 10) = z (962 + 4 * k + 2) ∧ T 37 ((nx + 9 - k) % 10) = z (962 + 4 * k + 3)
def rStg (T : Nat → Nat → Int32) (z : Nat → Int32) (s : Nat) : Prop :=
  T 30 s = z (954 + s) ∧ T 31 s = z (958 + s) ∧ (∃ m : Nat, m ≤ 1120403456 ∧ T 31 s = nI m) ∧ ∃ m : Nat, m ≤ 100 ∧ T 30 s = nI m
/-- how many batches have units on the shelf -/
def xopn (f : Nat → Int32) : Nat → Nat
  | 0 => 0
  | k + 1 => xopn f k + (if f k = nI 0 then 0 else 1)
def rNum (gz bz oz tk lz nx : Nat) (T : Nat → Nat → Int32) (z : Nat → Int32) : Prop :=
  (gz ≤ 12 ∧ bz ≤ 40 ∧ oz ≤ 30 ∧ lz ≤ 10 ∧ nx < 10 ∧ tk + xopn (T 9) bz ≤ bz + oz) ∧ (T 0 0 = nI gz ∧ T 5 0 = nI bz ∧ T 16 0 = nI oz ∧ T 17 0 = nI tk ∧ T 32 0 = nI lz ∧ T 33 0 = nI nx) ∧
  (z 1 = nI gz ∧ z 2 = nI bz ∧ z 3 = nI oz ∧ z 8 = nI tk ∧ z 9 = nI lz ∧ T 40 0 = z 0 ∧ T 39 0 = z 7) ∧ (∃ m : Nat, m ≤ 1106247680 ∧ T 39 0 = nI m) ∧ ∃ m : Nat, m ≤ 2 ∧ T 38 0 = nI m
def RelN (lo gz bz oz tk lz nx : Nat) (T : Nat → Nat → Int32) (z : Nat → Int32) : Prop :=
  rNum gz bz oz tk lz nx T z ∧ (∀ g, g < 12 → rGood gz T z g) ∧ (∀ b, b < 40 → rBat lo gz bz T z b) ∧ (∀ o, o < 30 → rOrd oz tk T z o) ∧ (∀ k, k < 70 → T 28 k = z (794 + 2 * k) ∧ T 29 k = z (795 + 2 * k)) ∧
  (∀ s, s < 4 → rStg T z s) ∧ (∀ k, k < 10 → rLog nx T z k) ∧ (∀ w, w < 3 → T 38 w = z (4 + w))
def RelS (T : Nat → Nat → Int32) (z : Nat → Int32) : Prop := ∃ gz bz oz tk lz nx : Nat, RelN 1 gz bz oz tk lz nx T z
theorem RelN.congr {lo gz bz oz tk lz nx : Nat} {T : Nat → Nat → Int32} {z z' : Nat → Int32} (h : RelN lo gz bz oz tk lz nx T z) (e : ∀ k, k < 1002 → z' k = z k) : RelN lo gz bz oz tk lz nx T z' := by
  obtain ⟨⟨h1, h2, ⟨a1, a2, a3, a4, a5, a6, a7⟩, h4⟩, hg, hb, ho, ht, hs, hl, hw⟩ := h
  refine ⟨⟨h1, h2, ?_, h4⟩, fun g hg1 => ?_, fun b hb1 => ?_, fun o ho1 => ?_, fun k hk => ?_, fun s hs1 => ?_, fun k hk => ?_, fun w hw1 => ?_⟩
  · rw [e 1 (by omega), e 2 (by omega), e 3 (by omega), e 8 (by omega), e 9 (by omega), e 0 (by omega), e 7 (by omega)]
    exact ⟨a1, a2, a3, a4, a5, a6, a7⟩
  · obtain ⟨b1, b2, b3, lm, b4, b5, b6, b7, b8⟩ := hg g hg1
    unfold rGood zG
    rw [e _ (by omega), e _ (by omega), e _ (by omega)]
    refine ⟨b1, b2, b3, lm, b4, b5, b6, b7, fun j hj => ?_⟩
    rw [e _ (by omega)]
    exact b8 j hj
  · obtain ⟨⟨b1, b2, b3, b4, b5⟩, ⟨b6, b7, b8, b9, b10⟩, b11⟩ := hb b hb1
    unfold rBat zB
    rw [e _ (by omega), e _ (by omega), e _ (by omega), e _ (by omega), e _ (by omega), e _ (by omega), e _ (by omega), e _ (by omega), e _ (by omega), e _ (by omega)]
    exact ⟨⟨b1, b2, b3, b4, b5⟩, ⟨b6, b7, b8, b9, b10⟩, b11⟩
  · obtain ⟨⟨b1, b2, b3, b4, b5⟩, ⟨b6, b7, b8, b9, b10⟩, b11⟩ := ho o ho1
    unfold rOrd zO
    rw [e _ (by omega), e _ (by omega), e _ (by omega), e _ (by omega), e _ (by omega), e _ (by omega), e _ (by omega), e _ (by omega), e _ (by omega), e _ (by omega)]
    exact ⟨⟨b1, b2, b3, b4, b5⟩, ⟨b6, b7, b8, b9, b10⟩, b11⟩
  · rw [e _ (by omega), e _ (by omega)]
    exact ht k hk
  · obtain ⟨b1, b2, b3⟩ := hs s hs1
    unfold rStg
    rw [e _ (by omega), e _ (by omega)]
    exact ⟨b1, b2, b3⟩
  · obtain ⟨b1, b2, b3, b4⟩ := hl k hk
    unfold rLog
    rw [e _ (by omega), e _ (by omega), e _ (by omega), e _ (by omega)]
    exact ⟨b1, b2, b3, b4⟩
  · rw [e _ (by omega)]
    exact hw w hw1
theorem RelS.congr {T : Nat → Nat → Int32} {z z' : Nat → Int32} (h : RelS T z) (e : ∀ k, k < 1002 → z' k = z k) : RelS T z' := by
  obtain ⟨gz, bz, oz, tk, lz, nx, h⟩ := h
  exact ⟨gz, bz, oz, tk, lz, nx, h.congr e⟩
theorem xopn_zero {f : Nat → Int32} (h : ∀ k, f k = nI 0) : ∀ n, xopn f n = 0
  | 0 => rfl
  | n + 1 => by
    show xopn f n + _ = 0
    rw [xopn_zero h n, if_pos (h n)]
theorem zT0_at {k : Nat} (h : k < 954 ∨ 962 ≤ k) (h5 : k ≠ 5) (h6 : k ≠ 6) : zT0 0 k = nI 0 := by
  show upd (upd (upd (upd (upd (upd (upd (upd (upd (fun _ => nI 0) 5 (nI 4)) 6 (nI 50)) 954 (nI 100)) 955 (nI 50)) 956 (nI 25)) 957 (nI 10)) 959 (nI 1101004800)) 960 (nI 1109393408)) 961 (nI 1116471296) k = nI 0
  rw [upd_ne _ _ (by omega), upd_ne _ _ (by omega), upd_ne _ _ (by omega), upd_ne _ _ (by omega), upd_ne _ _ (by omega), upd_ne _ _ (by omega), upd_ne _ _ (by omega), upd_ne _ _ (by omega), upd_ne _ _ (by omega)]
theorem RelS.start : RelS xT0 (zT0 0) := by
  refine ⟨0, 0, 0, 0, 0, 0, ⟨⟨by omega, by omega, by omega, by omega, by omega, ?_⟩, ⟨rfl, rfl, rfl, rfl, rfl, rfl⟩, ⟨rfl, rfl, rfl, rfl, rfl, rfl, rfl⟩, ⟨0, by omega, rfl⟩, 0, by omega, rfl⟩, fun g hg => ?_, fun b hb => ?_, fun o ho => ?_, fun k hk => ?_, fun s hs => ?_, fun k hk => ?_, fun w hw => ?_⟩
  · show 0 + 0 ≤ 0 + 0
    omega
  · exact ⟨(zT0_at (by omega) (by omega) (by omega)).symm, (zT0_at (by omega) (by omega) (by omega)).symm, fun h => by omega, 0, by omega, fun _ => rfl, rfl, zT0_at (by omega) (by omega) (by omega), fun j hj => by omega⟩
  · exact ⟨⟨(zT0_at (by omega) (by omega) (by omega)).symm, (zT0_at (by omega) (by omega) (by omega)).symm, (zT0_at (by omega) (by omega) (by omega)).symm, (zT0_at (by omega) (by omega) (by omega)).symm, (zT0_at (by omega) (by omega) (by omega)).symm⟩, ⟨(zT0_at (by omega) (by omega) (by omega)).symm, (zT0_at (by omega) (by omega) (by omega)).symm, (zT0_at (by omega) (by omega) (by omega)).symm, (zT0_at (by omega) (by omega) (by omega)).symm, (zT0_at (by omega) (by omega) (by omega)).symm⟩, fun h => by omega, fun _ => rfl⟩
  · exact ⟨⟨(zT0_at (by omega) (by omega) (by omega)).symm, (zT0_at (by omega) (by omega) (by omega)).symm, (zT0_at (by omega) (by omega) (by omega)).symm, (zT0_at (by omega) (by omega) (by omega)).symm, (zT0_at (by omega) (by omega) (by omega)).symm⟩, ⟨(zT0_at (by omega) (by omega) (by omega)).symm, (zT0_at (by omega) (by omega) (by omega)).symm, (zT0_at (by omega) (by omega) (by omega)).symm, (zT0_at (by omega) (by omega) (by omega)).symm, (zT0_at (by omega) (by omega) (by omega)).symm⟩, fun h => by omega, fun _ => rfl⟩
  · exact ⟨(zT0_at (by omega) (by omega) (by omega)).symm, (zT0_at (by omega) (by omega) (by omega)).symm⟩
  · rcases (show s = 0 ∨ s = 1 ∨ s = 2 ∨ s = 3 by omega) with rfl | rfl | rfl | rfl
    · exact ⟨rfl, rfl, ⟨0, by decide, rfl⟩, 100, by decide, rfl⟩
    · exact ⟨rfl, rfl, ⟨1101004800, by decide, rfl⟩, 50, by decide, rfl⟩
    · exact ⟨rfl, rfl, ⟨1109393408, by decide, rfl⟩, 25, by decide, rfl⟩
    · exact ⟨rfl, rfl, ⟨1116471296, by decide, rfl⟩, 10, by decide, rfl⟩
  · exact ⟨(zT0_at (by omega) (by omega) (by omega)).symm, (zT0_at (by omega) (by omega) (by omega)).symm, (zT0_at (by omega) (by omega) (by omega)).symm, (zT0_at (by omega) (by omega) (by omega)).symm⟩
  · rcases (show w = 0 ∨ w = 1 ∨ w = 2 by omega) with rfl | rfl | rfl <;> rfl
/-- the history of both -/
def RelH (ol sz : Nat) (S : Nat → Nat → Nat → Int32) (past : Nat → Int32) : Prop := ol < 4 ∧ sz ≤ 4 ∧ ∀ k, k < sz → RelS (S ((ol + k) % 4)) (fun i => past (k * 1002 + i))
theorem RelH.push {ol sz : Nat} {S : Nat → Nat → Nat → Int32} {past z : Nat → Int32} {T : Nat → Nat → Int32} (h : RelH ol sz S past) (hT : RelS T z) : RelH (xol ol sz) (xsz sz) (xupS S ((ol + sz) % 4) T) (zrec z past sz) := by
  obtain ⟨h1, h2, h3⟩ := h
  unfold xol xsz zrec
  by_cases h4 : sz = 4
  · rw [if_pos h4, if_pos h4, if_pos h4]
    subst h4
    refine ⟨by omega, by omega, fun k hk => ?_⟩
    by_cases hk3 : k = 3
    · subst hk3
      rw [show ((ol + 1) % 4 + 3) % 4 = (ol + 4) % 4 by omega, xupS_at]
      refine hT.congr fun i hi => ?_
      show (if (4 - 1) * 1002 ≤ 3 * 1002 + i ∧ 3 * 1002 + i < (4 - 1) * 1002 + 1002 then z (3 * 1002 + i - (4 - 1) * 1002) else _) = _
      rw [if_pos (by omega), show 3 * 1002 + i - (4 - 1) * 1002 = i by omega]
    · rw [xupS_ne S T (show ((ol + 1) % 4 + k) % 4 ≠ (ol + 4) % 4 by omega), show ((ol + 1) % 4 + k) % 4 = (ol + (k + 1)) % 4 by omega]
      refine (h3 (k + 1) (by omega)).congr fun i hi => ?_
      show (if (4 - 1) * 1002 ≤ k * 1002 + i ∧ k * 1002 + i < (4 - 1) * 1002 + 1002 then _ else (if k * 1002 + i < 3006 then past (k * 1002 + i + 1002) else _)) = past ((k + 1) * 1002 + i)
      rw [if_neg (by omega), if_pos (by omega), show k * 1002 + i + 1002 = (k + 1) * 1002 + i by omega]
  · rw [if_neg h4, if_neg h4, if_neg h4]
    refine ⟨h1, by omega, fun k hk => ?_⟩
    by_cases hks : k = sz
    · subst hks
      rw [xupS_at]
      refine hT.congr fun i hi => ?_
      show (if k * 1002 ≤ k * 1002 + i ∧ k * 1002 + i < k * 1002 + 1002 then z (k * 1002 + i - k * 1002) else _) = _
      rw [if_pos (by omega), show k * 1002 + i - k * 1002 = i by omega]
    · rw [xupS_ne S T (show (ol + k) % 4 ≠ (ol + sz) % 4 by omega)]
      refine (h3 k (by omega)).congr fun i hi => ?_
      show (if sz * 1002 ≤ k * 1002 + i ∧ k * 1002 + i < sz * 1002 + 1002 then _ else past (k * 1002 + i)) = _
      rw [if_neg (by omega)]
/-- the whole of both -/
def Rel (V : Nat → Int32) (E : Nat → Nat → Int32) (T Ts : Nat → Nat → Int32) (S : Nat → Nat → Nat → Int32) (M : Nat → Int32) (Z : Nat → Nat → Int32) : Prop :=
  RelS T (Z 0) ∧ (∃ ol sz : Nat, V 11 = nI ol ∧ V 12 = nI sz ∧ M 0 = nI sz ∧ RelH ol sz S (Z 1)) ∧ ((V 1 = nI 0 ∧ M 1 = nI 0) ∨ (V 1 = nI 1 ∧ M 1 = nI 1 ∧ RelS Ts (Z 2))) ∧ ∃ tl : Nat, tl ≤ 60 ∧ V 0 = nI tl ∧ M 2 = nI tl ∧ ∀ k, k < tl → E 0 k = Z 4 k
theorem Rel.start : Rel (fun _ => nI 0) (fun _ _ => nI 0) xT0 xT0 (fun _ => xT0) (fun _ => nI 0) zT0 :=
  ⟨RelS.start, ⟨0, 0, rfl, rfl, rfl, by omega, by omega, fun k hk => by omega⟩, Or.inl ⟨rfl, rfl⟩, 0, by omega, rfl, rfl, fun k hk => by omega⟩
