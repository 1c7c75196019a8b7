/-! The reference's reader. -/
def zdg (text : Nat → Int32) (tl j : Nat) : Prop := nI 48 ≤ xlet text tl j ∧ xlet text tl j ≤ nI 57
theorem zdg_dec (text : Nat → Int32) (tl j : Nat) : Nonempty (Decidable (zdg text tl j)) := ⟨Classical.propDecidable _⟩
/-- digits behind the first one -/
def zrl (text : Nat → Int32) (tl : Nat) : Nat → Int32 → Nat → Int32 × Nat
  | 0, v, a => (v, a)
  | f + 1, v, a => if ¬ v ≤ 0 ∧ (nI 48 ≤ xlet text tl a ∧ xlet text tl a ≤ nI 57) then zrl text tl f ((nI 10 * v + xlet text tl a) - nI 48) (a + 1) else (v, a)
theorem zrl_le (text : Nat → Int32) (tl : Nat) : ∀ (f : Nat) (v : Int32) (a : Nat), (zrl text tl f v a).2 ≤ a + f ∧ a ≤ (zrl text tl f v a).2
  | 0, _, _ => ⟨Nat.le_refl _, Nat.le_refl _⟩
  | f + 1, v, a => by
    unfold zrl
    split
    · have := zrl_le text tl f ((nI 10 * v + xlet text tl a) - nI 48) (a + 1)
      omega
    · exact ⟨Nat.le_add_right _ _, Nat.le_refl _⟩
theorem zrl_1 {text : Nat → Int32} {tl : Nat} {f a : Nat} {v : Int32} {E : Int32 × Nat} (h : zrl text tl (f + 1) v a = E) (h1 : ¬ v ≤ 0) (h2 : nI 48 ≤ xlet text tl a ∧ xlet text tl a ≤ nI 57) : zrl text tl f ((nI 10 * v + xlet text tl a) - nI 48) (a + 1) = E := by
  rw [← h]
  exact (if_pos ⟨h1, h2⟩).symm
theorem zrl_2 {text : Nat → Int32} {tl : Nat} {f a : Nat} {v : Int32} {E : Int32 × Nat} (h : zrl text tl (f + 1) v a = E) (h1 : ¬ (¬ v ≤ 0 ∧ (nI 48 ≤ xlet text tl a ∧ xlet text tl a ≤ nI 57))) : (v, a) = E := by
  rw [← h]
  exact (if_neg h1).symm
/-- a number: its value, the place behind it, the fault -/
def zrn (text : Nat → Int32) (tl a : Nat) : Int32 × Nat × Int32 := if nI 48 ≤ xlet text tl a ∧ xlet text tl a ≤ nI 57 then ((zrl text tl 2 (xlet text tl a - nI 48) (a + 1)).1, (zrl text tl 2 (xlet text tl a - nI 48) (a + 1)).2, -5) else (nI 0, a, nI a)
theorem zrn_le (text : Nat → Int32) (tl a : Nat) : (zrn text tl a).2.1 ≤ a + 3 ∧ a ≤ (zrn text tl a).2.1 := by
  unfold zrn
  split
  · have := zrl_le text tl 2 (xlet text tl a - nI 48) (a + 1)
    show (zrl text tl 2 (xlet text tl a - nI 48) (a + 1)).2 ≤ a + 3 ∧ a ≤ (zrl text tl 2 (xlet text tl a - nI 48) (a + 1)).2
    omega
  · exact ⟨Nat.le_add_right _ _, Nat.le_refl _⟩
theorem zrn_ok {text : Nat → Int32} {tl a : Nat} (ha : a < 1000) (h : (zrn text tl a).2.2 = -5) : a + 1 ≤ (zrn text tl a).2.1 := by
  unfold zrn at h ⊢
  split at h
  · rename_i hd
    rw [if_pos hd]
    exact (zrl_le text tl 2 (xlet text tl a - nI 48) (a + 1)).2
  · exact absurd h (nI_ne5 (by omega))
/-- an entry: the place behind it, the fault, the row -/
def zrent (text : Nat → Int32) (tl en a : Nat) (row : Nat → Int32) : Nat × Int32 × (Nat → Int32) :=
  if ¬ (zrn text tl a).2.2 = -5 then ((zrn text tl a).2.1 + 1, (zrn text tl a).2.2, upd (upd row (3 * en) (zrn text tl a).1) (3 * en + 2) (-5))
  else if ¬ xlet text tl (zrn text tl a).2.1 = nI 120 then ((zrn text tl a).2.1 + 1, nI (zrn text tl a).2.1, upd (upd row (3 * en) (zrn text tl a).1) (3 * en + 2) (-5))
  else if ¬ (zrn text tl ((zrn text tl a).2.1 + 1)).2.2 = -5 then ((zrn text tl ((zrn text tl a).2.1 + 1)).2.1, (zrn text tl ((zrn text tl a).2.1 + 1)).2.2, upd (upd (upd row (3 * en) (zrn text tl a).1) (3 * en + 1) (zrn text tl ((zrn text tl a).2.1 + 1)).1) (3 * en + 2) (-5))
  else if ¬ xlet text tl (zrn text tl ((zrn text tl a).2.1 + 1)).2.1 = nI 47 then ((zrn text tl ((zrn text tl a).2.1 + 1)).2.1, (zrn text tl ((zrn text tl a).2.1 + 1)).2.2, upd (upd (upd row (3 * en) (zrn text tl a).1) (3 * en + 1) (zrn text tl ((zrn text tl a).2.1 + 1)).1) (3 * en + 2) (-5))
  else ((zrn text tl ((zrn text tl ((zrn text tl a).2.1 + 1)).2.1 + 1)).2.1, (zrn text tl ((zrn text tl ((zrn text tl a).2.1 + 1)).2.1 + 1)).2.2, upd (upd (upd (upd row (3 * en) (zrn text tl a).1) (3 * en + 1) (zrn text tl ((zrn text tl a).2.1 + 1)).1) (3 * en + 2) (-5)) (3 * en + 2) (zrn text tl ((zrn text tl ((zrn text tl a).2.1 + 1)).2.1 + 1)).1)
theorem zrent_le {text : Nat → Int32} {tl en a : Nat} {row : Nat → Int32} : (zrent text tl en a row).1 ≤ a + 11 := by
  have h1 := zrn_le text tl a
  have h2 := zrn_le text tl ((zrn text tl a).2.1 + 1)
  have h3 := zrn_le text tl ((zrn text tl ((zrn text tl a).2.1 + 1)).2.1 + 1)
  unfold zrent
  split
  · show (zrn text tl a).2.1 + 1 ≤ a + 11; omega
  · split
    · show (zrn text tl a).2.1 + 1 ≤ a + 11; omega
    · split
      · show (zrn text tl ((zrn text tl a).2.1 + 1)).2.1 ≤ a + 11; omega
      · split
        · show (zrn text tl ((zrn text tl a).2.1 + 1)).2.1 ≤ a + 11; omega
        · show (zrn text tl ((zrn text tl ((zrn text tl a).2.1 + 1)).2.1 + 1)).2.1 ≤ a + 11; omega
theorem zrent_ge {text : Nat → Int32} {tl en a : Nat} {row : Nat → Int32} (ha : a < 900) (h : (zrent text tl en a row).2.1 = -5) : a + 3 ≤ (zrent text tl en a row).1 := by
  have h1 := zrn_le text tl a
  have h2 := zrn_le text tl ((zrn text tl a).2.1 + 1)
  have h3 := zrn_le text tl ((zrn text tl ((zrn text tl a).2.1 + 1)).2.1 + 1)
  unfold zrent at h ⊢
  split at h
  · rename_i c; exact absurd h c
  · rename_i c
    have k1 := zrn_ok (text := text) (tl := tl) (a := a) (by omega) (Classical.not_not.mp c)
    rw [if_neg c]
    split at h
    · exact absurd h (nI_ne5 (by omega))
    · rename_i c2
      rw [if_neg c2]
      split at h
      · rename_i c3; exact absurd h c3
      · rename_i c3
        have k2 := zrn_ok (text := text) (tl := tl) (a := (zrn text tl a).2.1 + 1) (by omega) (Classical.not_not.mp c3)
        rw [if_neg c3]
        split
        · show a + 3 ≤ (zrn text tl ((zrn text tl a).2.1 + 1)).2.1; omega
        · show a + 3 ≤ (zrn text tl ((zrn text tl ((zrn text tl a).2.1 + 1)).2.1 + 1)).2.1; omega
/-- the whole text: the place, the fault, how many entries, the row -/
abbrev ZR4 : Type := Nat × Int32 × Nat × (Nat → Int32)
def zrt (text : Nat → Int32) (tl : Nat) : Nat → Nat → Nat → (Nat → Int32) → ZR4
  | 0, a, en, row => (a, -5, en, row)
  | f + 1, a, en, row =>
    if ¬ ((zrent text tl en a row).2.1 = -5 ∧ (zrent text tl en a row).1 < tl) then ((zrent text tl en a row).1 + 1, (zrent text tl en a row).2.1, en + 1, (zrent text tl en a row).2.2)
    else if ¬ xlet text tl (zrent text tl en a row).1 = nI 44 then ((zrent text tl en a row).1 + 1, nI (zrent text tl en a row).1, en + 1, (zrent text tl en a row).2.2)
    else zrt text tl f ((zrent text tl en a row).1 + 1) (en + 1) (zrent text tl en a row).2.2
theorem zrt_1 {text : Nat → Int32} {tl f a en : Nat} {row : Nat → Int32} {E : ZR4} (h : zrt text tl f a en row = E) (hf : 0 < f) (h1 : ¬ ((zrent text tl en a row).2.1 = -5 ∧ (zrent text tl en a row).1 < tl)) : ((zrent text tl en a row).1 + 1, (zrent text tl en a row).2.1, en + 1, (zrent text tl en a row).2.2) = E := by
  obtain ⟨g9, rfl⟩ : ∃ g9, f = g9 + 1 := ⟨f - 1, by omega⟩
  rw [← h]
  exact (if_pos h1).symm
theorem zrt_2 {text : Nat → Int32} {tl f a en : Nat} {row : Nat → Int32} {E : ZR4} (h : zrt text tl f a en row = E) (hf : 0 < f) (h1 : (zrent text tl en a row).2.1 = -5 ∧ (zrent text tl en a row).1 < tl) (h2 : ¬ xlet text tl (zrent text tl en a row).1 = nI 44) : ((zrent text tl en a row).1 + 1, nI (zrent text tl en a row).1, en + 1, (zrent text tl en a row).2.2) = E := by
  obtain ⟨g9, rfl⟩ : ∃ g9, f = g9 + 1 := ⟨f - 1, by omega⟩
  rw [← h]
  exact ((if_neg (fun q => q h1)).trans (if_pos h2)).symm
theorem zrt_3 {text : Nat → Int32} {tl f a en : Nat} {row : Nat → Int32} {E : ZR4} (h : zrt text tl f a en row = E) (hf : 0 < f) (h1 : (zrent text tl en a row).2.1 = -5 ∧ (zrent text tl en a row).1 < tl) (h2 : xlet text tl (zrent text tl en a row).1 = nI 44) : zrt text tl (f - 1) ((zrent text tl en a row).1 + 1) (en + 1) (zrent text tl en a row).2.2 = E := by
  obtain ⟨g9, rfl⟩ : ∃ g9, f = g9 + 1 := ⟨f - 1, by omega⟩
  rw [← h]
  exact ((if_neg (fun q => q h1)).trans (if_neg (fun q => q h2))).symm
def zgl (ent : Nat → Int32) (z : Nat → Int32) (e : Nat) : Int32 := zG z (ent (3 * e)).toNatClampNeg 1
def zsup (ent : Nat → Int32) (z : Nat → Int32) (e : Nat) : Prop := (ent (3 * e + 2) = -5 ∨ (nI 1 ≤ ent (3 * e + 2) ∧ ent (3 * e + 2) ≤ zgl ent z e)) ∧ nI 1 ≤ ent (3 * e + 1) ∧ ent (3 * e + 1) ≤ nI 999
def zdel (ent : Nat → Int32) (z : Nat → Int32) (bz : Nat) : Nat → Nat → Int32
  | 0 => z
  | k + 1 => zputb (zdel ent z bz k) (nI (ent (3 * k)).toNatClampNeg) (ent (3 * k + 1)) (if ent (3 * k + 2) = -5 then zG (zdel ent z bz k) (ent (3 * k)).toNatClampNeg 1 else ent (3 * k + 2)) (bz + k)
theorem zdel_2 {ent : Nat → Int32} {z : Nat → Int32} {bz : Nat} (h : z 2 = nI bz) : ∀ k, zdel ent z bz k 2 = nI (bz + k)
  | 0 => h
  | k + 1 => by
    show zputb _ _ _ _ _ 2 = _
    unfold zputb
    rw [znote_at (by decide) (by decide), upd_ne _ _ (by omega), upd_ne _ _ (by omega), upd_ne _ _ (by omega), upd_ne _ _ (by omega), upd_at]
    rfl
theorem hdV_X10_readNumber : yX10_readNumber.cls = RX10 ∧ yX10_readNumber.cls ≠ "java/lang/invoke/MethodHandle" ∧ yX10_readNumber.cls ≠ "java/lang/invoke/VarHandle" ∧ (parseMethodDescriptor yX10_readNumber.desc).map (fun d => d.parameters.length) = some 0 := by decide +kernel
set_option maxHeartbeats 4000000 in
set_option maxRecDepth 100000 in
theorem c_X10_readNumber (l : Launch) (dC : Nat → ClassId) (dI : Nat → Nat → Nat) (cI cF cC cZ cQ cS : ClassId) (h0 : Nat) (h0_z : Value) (h0_past : Value) (h0_kept : Value) (h0_spare : Value) (h0_pastMany : Value) (h0_isKept : Value) (tq : Nat) (h0_isUsed : Value) (h0_planBatch : Value) (h0_planUnits : Value) (h0_planCents : Value) (h0_planMany : Value) (h0_planGot : Value) (h0_planSubstitutes : Value) (h0_entries : Value) (h0_entry : Value) (text : Nat → Int32) (tl : Nat) (a0 : Nat) (f0 : Int32) (htl : tl ≤ 60) (ha : a0 < 900) (hf0 : f0 = -5) : Met l yX10_readNumber wsX10_readNumber ({ frames := 2, cells := 0, slots := 0, locals := 42 }) (xPre (dC, dI) vwCl [.ref h0] (xtys cI cF cC cZ cQ cS) [(h0, .inr (10, [h0_z, h0_past, h0_kept, h0_spare, h0_pastMany, h0_isKept, .ref tq, .int (nI tl), h0_isUsed, h0_planBatch, h0_planUnits, h0_planCents, h0_planMany, h0_planGot, h0_planSubstitutes, .int (nI a0), .int f0, h0_entries, h0_entry])), (tq, .inl (cC, 60, .inl text))]) (xWi (dC, dI) vwCl [(h0, .inr (10, [h0_z, h0_past, h0_kept, h0_spare, h0_pastMany, h0_isKept, .ref tq, .int (nI tl), h0_isUsed, h0_planBatch, h0_planUnits, h0_planCents, h0_planMany, h0_planGot, h0_planSubstitutes, .int (nI a0), .int f0, h0_entries, h0_entry])), (tq, .inl (cC, 60, .inl text))] (fun r0 w0 => r0 = (zrn text tl a0).1 ∧ w0 = [(h0, .inr (10, [h0_z, h0_past, h0_kept, h0_spare, h0_pastMany, h0_isKept, .ref tq, .int (nI tl), h0_isUsed, h0_planBatch, h0_planUnits, h0_planCents, h0_planMany, h0_planGot, h0_planSubstitutes, .int (nI ((zrn text tl a0).2.1)), .int ((zrn text tl a0).2.2), h0_entries, h0_entry])), (tq, .inl (cC, 60, .inl text))])) 0 0 (va_B [(h0, .inr (10, [h0_z, h0_past, h0_kept, h0_spare, h0_pastMany, h0_isKept, .ref tq, .int (nI tl), h0_isUsed, h0_planBatch, h0_planUnits, h0_planCents, h0_planMany, h0_planGot, h0_planSubstitutes, .int (nI a0), .int f0, h0_entries, h0_entry])), (tq, .inl (cC, 60, .inl text))]) := by
  refine Met.ofW (cc := cX10_readNumber) (maxL := 3) (ret := (some .int)) (by decide) rfl ?_
  intro p e s m args below meth c s₁ B hml hv
  obtain ⟨rfl, hP, hK, hD0, hN⟩ := hv
  have hx := B.exec
  have hb := B.bytes
  have hr := B.returns
  have hts := atoms_spec (ws := wsX10_readNumber) B.pre
  have hown : s.vm.findClass RX10 = some m.cls := findClass_of_methodNamed B.named
  have hlocks := B.notSynchronized
  have k_160 := hts (Cond.fieldLink RX10 160 "ShelfStagesModel" "at" "I") (by decide +kernel)
  have k_166 := hts (Cond.fieldLink RX10 166 "ShelfStagesModel" "fault" "I") (by decide +kernel)
  have i_X10 : ∀ w ∈ wsX100, w ∈ wsX10_readNumber := by decide +kernel
  obtain ⟨A, hA⟩ : ∃ A, A = va_B [(h0, .inr (10, [h0_z, h0_past, h0_kept, h0_spare, h0_pastMany, h0_isKept, .ref tq, .int (nI tl), h0_isUsed, h0_planBatch, h0_planUnits, h0_planCents, h0_planMany, h0_planGot, h0_planSubstitutes, .int (nI a0), .int f0, h0_entries, h0_entry])), (tq, .inl (cC, 60, .inl text))] := ⟨_, rfl⟩
  have hD : va_D A [(h0, .inr (10, [h0_z, h0_past, h0_kept, h0_spare, h0_pastMany, h0_isKept, .ref tq, .int (nI tl), h0_isUsed, h0_planBatch, h0_planUnits, h0_planCents, h0_planMany, h0_planGot, h0_planSubstitutes, .int (nI a0), .int f0, h0_entries, h0_entry])), (tq, .inl (cC, 60, .inl text))] := hA ▸ hD0.own
  have hS : va_S A s.heap s.heap [] := va_S.rf
  have hl := lv_entry ([.ref h0]) (n := 3) (Nat.le_of_ble_eq_true rfl)
  rw [lg_entry_eq]
  generalize (lg_sl ([.ref h0]) ++ List.replicate (3 - (lg_sl ([.ref h0])).length) Slot.unset).toArray = ls at hl ⊢
  have hl : lv_has ls 3 [(0, .ref h0)] := hl
  refine lv_aload_n hx hb dX10_readNumber_0 rfl (lv_at hl 0 rfl) ?_
  refine lv_aload_n hx hb dX10_readNumber_1 rfl (lv_at hl 0 rfl) ?_
  refine va_get (D := (dC, dI)) (ci := 10) (v := .int (nI a0)) (C := RX10) (T := TX10) (N := 19) hx hb hts i_X10 hown hK hP 0 rfl rfl 15 (by decide) k_160 (fun _ h9 => h9) rfl dX10_readNumber_2 ?_
  refine xkRi (xV (As := [.int (nI a0)]) (rest := []) (wc := [(h0, .inr (10, [h0_z, h0_past, h0_kept, h0_spare, h0_pastMany, h0_isKept, .ref tq, .int (nI tl), h0_isUsed, h0_planBatch, h0_planUnits, h0_planCents, h0_planMany, h0_planGot, h0_planSubstitutes, .int (nI a0), .int f0, h0_entries, h0_entry])), (tq, .inl (cC, 60, .inl text))]) hx hb hml hown hts (c_X10_isDigit l dC dI cI cF cC cZ cQ cS h0 h0_z h0_past h0_kept h0_spare h0_pastMany h0_isKept tq h0_isUsed h0_planBatch h0_planUnits h0_planCents h0_planMany h0_planGot h0_planSubstitutes (.int (nI a0)) (.int f0) h0_entries h0_entry text tl a0 (by omega) (by omega)) 1 gX10_readNumber_X10_isDigit rfl rfl rfl hdV_X10_isDigit ⟨Nat.le_of_ble_eq_true rfl, Nat.le_of_ble_eq_true rfl⟩ hN hK hP hD [0, 1] rfl rfl 10 0 rfl rfl rfl hl.1 rfl (Nat.le_of_ble_eq_true rfl) dX10_readNumber_5 ⟨Nat.zero_le _, Nat.zero_le _⟩) (fun r_1 hr_1 => ?_)
  have hr_1 : r_1 = (if nI 48 ≤ xlet text tl a0 ∧ xlet text tl a0 ≤ nI 57 then nI 1 else nI 0) := hr_1
  rcases xi_ite inferInstance hr_1 with ⟨c_2, hr_1⟩ | ⟨c_2, hr_1⟩
  · subst hr_1
    refine xr_ifn1 (tgt := 21) hx hb (by decide) dX10_readNumber_8 (by decide) ?_
    refine lv_aload_n hx hb dX10_readNumber_21 rfl (lv_at hl 0 rfl) ?_
    refine lv_aload_n hx hb dX10_readNumber_22 rfl (lv_at hl 0 rfl) ?_
    refine va_get (D := (dC, dI)) (ci := 10) (v := .int (nI a0)) (C := RX10) (T := TX10) (N := 19) hx hb hts i_X10 hown hK hP 0 rfl rfl 15 (by decide) k_160 (fun _ h9 => h9) rfl dX10_readNumber_23 ?_
    refine xkRi (xV (As := [.int (nI a0)]) (rest := []) (wc := [(h0, .inr (10, [h0_z, h0_past, h0_kept, h0_spare, h0_pastMany, h0_isKept, .ref tq, .int (nI tl), h0_isUsed, h0_planBatch, h0_planUnits, h0_planCents, h0_planMany, h0_planGot, h0_planSubstitutes, .int (nI a0), .int f0, h0_entries, h0_entry])), (tq, .inl (cC, 60, .inl text))]) hx hb hml hown hts (c_X10_letter l dC dI cI cF cC cZ cQ cS h0 h0_z h0_past h0_kept h0_spare h0_pastMany h0_isKept tq h0_isUsed h0_planBatch h0_planUnits h0_planCents h0_planMany h0_planGot h0_planSubstitutes (.int (nI a0)) (.int f0) h0_entries h0_entry text tl a0 (by omega) (by omega)) 1 gX10_readNumber_X10_letter rfl rfl rfl hdV_X10_letter ⟨Nat.le_of_ble_eq_true rfl, Nat.le_of_ble_eq_true rfl⟩ hN hK hP hD [0, 1] rfl rfl 10 0 rfl rfl rfl hl.1 rfl (Nat.le_of_ble_eq_true rfl) dX10_readNumber_26 ⟨Nat.zero_le _, Nat.zero_le _⟩) (fun r_3 hr_3 => ?_)
    obtain rfl : r_3 = xlet text tl a0 := hr_3
    refine lv_bipush (v := nI 48) hx hb dX10_readNumber_29 (by decide) ?_
    refine lv_isub hx hb dX10_readNumber_31 ?_
    refine lv_istore_n (lv' := [(1, .int ((xlet text tl a0) - (nI 48))), (0, .ref h0)]) hx hb dX10_readNumber_32 rfl hl (by decide) rfl (fun ls hl => ?_)
    refine lv_aload_n hx hb dX10_readNumber_33 rfl (lv_at hl 1 rfl) ?_
    refine lv_dup hx hb dX10_readNumber_34 rfl ?_
    refine va_get (D := (dC, dI)) (ci := 10) (v := .int (nI a0)) (C := RX10) (T := TX10) (N := 19) hx hb hts i_X10 hown hK hP 0 rfl rfl 15 (by decide) k_160 (fun _ h9 => h9) rfl dX10_readNumber_35 ?_
    refine lv_iconst (v := nI 1) hx hb dX10_readNumber_38 (by decide) ?_
    refine xr_iadd_n hx hb dX10_readNumber_39 ?_
    refine va_put (D := (dC, dI)) (ci := 10) (v := .int (nI (a0 + 1))) (ty := .int) (C := RX10) (T := TX10) (N := 19) hx hb hts i_X10 tyX10 tyX10_ok nmX10 hown hK hP hD hS 0 rfl rfl 15 (by decide) k_160 (fun _ h9 => h9) rfl (by decide +kernel) rfl rfl (Nat.le_of_ble_eq_true rfl) dX10_readNumber_40 (fun H locs hP hD hS => ?_)
    have hP : va_P (dC, dI) vwCl [(h0, .inr (10, [h0_z, h0_past, h0_kept, h0_spare, h0_pastMany, h0_isKept, .ref tq, .int (nI tl), h0_isUsed, h0_planBatch, h0_planUnits, h0_planCents, h0_planMany, h0_planGot, h0_planSubstitutes, .int (nI (a0 + 1)), .int f0, h0_entries, h0_entry])), (tq, .inl (cC, 60, .inl text))] H := hP
    have hD : va_D A [(h0, .inr (10, [h0_z, h0_past, h0_kept, h0_spare, h0_pastMany, h0_isKept, .ref tq, .int (nI tl), h0_isUsed, h0_planBatch, h0_planUnits, h0_planCents, h0_planMany, h0_planGot, h0_planSubstitutes, .int (nI (a0 + 1)), .int f0, h0_entries, h0_entry])), (tq, .inl (cC, 60, .inl text))] := hD
    refine lv_iconst (v := nI 1) hx hb dX10_readNumber_43 (by decide) ?_
    refine lv_istore_n (lv' := [(2, .int (nI 1)), (1, .int ((xlet text tl a0) - (nI 48))), (0, .ref h0)]) hx hb dX10_readNumber_44 rfl hl (by decide) rfl (fun ls hl => ?_)
    refine xr_loop (J := Nat) (fun n0 H locs g => ∃ (k : Nat) (v9 : Int32) (aj : Nat) (ls : Array Slot), n0 = 4 - k ∧ g = F0 m 45 ls [] ∧ lv_has ls 3 [(2, .int (nI k)), (1, .int v9), (0, .ref h0)] ∧ va_P (dC, dI) vwCl [(h0, .inr (10, [h0_z, h0_past, h0_kept, h0_spare, h0_pastMany, h0_isKept, .ref tq, .int (nI tl), h0_isUsed, h0_planBatch, h0_planUnits, h0_planCents, h0_planMany, h0_planGot, h0_planSubstitutes, .int (nI aj), .int f0, h0_entries, h0_entry])), (tq, .inl (cC, 60, .inl text))] H ∧ va_D A [(h0, .inr (10, [h0_z, h0_past, h0_kept, h0_spare, h0_pastMany, h0_isKept, .ref tq, .int (nI tl), h0_isUsed, h0_planBatch, h0_planUnits, h0_planCents, h0_planMany, h0_planGot, h0_planSubstitutes, .int (nI aj), .int f0, h0_entries, h0_entry])), (tq, .inl (cC, 60, .inl text))] ∧ va_S A s.heap H locs ∧ (1 ≤ k ∧ k ≤ 3) ∧ (aj ≤ a0 + 3 ∧ aj + 3 = a0 + 3 + k) ∧ (zrl text tl (3 - k) v9 aj = zrl text tl 2 (xlet text tl a0 - nI 48) (a0 + 1))) (fun n => n) ?_ (4 - 1) (g := F0 m 45 ls []) ⟨1, ((xlet text tl a0) - (nI 48)), (a0 + 1), ls, rfl, rfl, lv_sub hl [0, 1, 2] rfl, hP, hD, hS, (⟨Nat.le_refl _, by decide⟩), (⟨by omega, by omega⟩), rfl⟩
    intro n0 ih_45 H locs g hp
    obtain ⟨k, v9, aj, ls, rfl, rfl, hl, hP, hD, hS, hk, haj, hz⟩ := hp
    refine lv_iload_n hx hb dX10_readNumber_45 rfl (lv_at hl 0 rfl) ?_
    refine lv_iconst (v := nI 3) hx hb dX10_readNumber_46 (by decide) ?_
    refine xr_ge_n (tgt := 98) hx hb (by omega) (by omega) dX10_readNumber_47 (by decide) (fun c_4 => ?_) (fun c_4 => ?_)
    · skip
      refine lv_iload_n hx hb dX10_readNumber_98 rfl (lv_at hl 1 rfl) ?_
      have hv : (v9, aj) = zrl text tl 2 (xlet text tl a0 - nI 48) (a0 + 1) := by rw [← hz, show 3 - k = 0 from by omega]; rfl
      have hE : zrn text tl a0 = (v9, aj, -5) := by unfold zrn; rw [if_pos c_2, ← hv]
      have hP9 : va_P (dC, dI) vwCl [(h0, .inr (10, [h0_z, h0_past, h0_kept, h0_spare, h0_pastMany, h0_isKept, .ref tq, .int (nI tl), h0_isUsed, h0_planBatch, h0_planUnits, h0_planCents, h0_planMany, h0_planGot, h0_planSubstitutes, .int (nI ((zrn text tl a0).2.1)), .int ((zrn text tl a0).2.2), h0_entries, h0_entry])), (tq, .inl (cC, 60, .inl text))] H := by rw [hE]; rw [hf0] at hP; exact hP
      have hS9 : va_S (va_B [(h0, .inr (10, [h0_z, h0_past, h0_kept, h0_spare, h0_pastMany, h0_isKept, .ref tq, .int (nI tl), h0_isUsed, h0_planBatch, h0_planUnits, h0_planCents, h0_planMany, h0_planGot, h0_planSubstitutes, .int (nI a0), .int f0, h0_entries, h0_entry])), (tq, .inl (cC, 60, .inl text))]) s.heap H locs := by rw [← hA]; exact hS
      exact W.iret (v := v9) hx hb hr (fun t ht hW => ⟨⟨_, _, rfl, ⟨(show v9 = (zrn text tl a0).1 from (by rw [hE])), rfl⟩, by rw [ht]; exact hP9⟩, hS9.X ht⟩) hS9.2.2 dX10_readNumber_99
    refine lv_iload_n hx hb dX10_readNumber_50 rfl (lv_at hl 1 rfl) ?_
    refine lv_if_le (tgt := 98) hx hb dX10_readNumber_51 (by decide) (fun c_5 => ?_) (fun c_5 => ?_)
    · skip
      refine lv_iload_n hx hb dX10_readNumber_98 rfl (lv_at hl 1 rfl) ?_
      have hv : (v9, aj) = zrl text tl 2 (xlet text tl a0 - nI 48) (a0 + 1) := zrl_2 (f := 2 - k) (by rw [show 2 - k + 1 = 3 - k from by omega]; exact hz) (fun q => q.1 c_5)
      have hE : zrn text tl a0 = (v9, aj, -5) := by unfold zrn; rw [if_pos c_2, ← hv]
      have hP9 : va_P (dC, dI) vwCl [(h0, .inr (10, [h0_z, h0_past, h0_kept, h0_spare, h0_pastMany, h0_isKept, .ref tq, .int (nI tl), h0_isUsed, h0_planBatch, h0_planUnits, h0_planCents, h0_planMany, h0_planGot, h0_planSubstitutes, .int (nI ((zrn text tl a0).2.1)), .int ((zrn text tl a0).2.2), h0_entries, h0_entry])), (tq, .inl (cC, 60, .inl text))] H := by rw [hE]; rw [hf0] at hP; exact hP
      have hS9 : va_S (va_B [(h0, .inr (10, [h0_z, h0_past, h0_kept, h0_spare, h0_pastMany, h0_isKept, .ref tq, .int (nI tl), h0_isUsed, h0_planBatch, h0_planUnits, h0_planCents, h0_planMany, h0_planGot, h0_planSubstitutes, .int (nI a0), .int f0, h0_entries, h0_entry])), (tq, .inl (cC, 60, .inl text))]) s.heap H locs := by rw [← hA]; exact hS
      exact W.iret (v := v9) hx hb hr (fun t ht hW => ⟨⟨_, _, rfl, ⟨(show v9 = (zrn text tl a0).1 from (by rw [hE])), rfl⟩, by rw [ht]; exact hP9⟩, hS9.X ht⟩) hS9.2.2 dX10_readNumber_99
    refine lv_aload_n hx hb dX10_readNumber_54 rfl (lv_at hl 2 rfl) ?_
    refine lv_aload_n hx hb dX10_readNumber_55 rfl (lv_at hl 2 rfl) ?_
    refine va_get (D := (dC, dI)) (ci := 10) (v := .int (nI aj)) (C := RX10) (T := TX10) (N := 19) hx hb hts i_X10 hown hK hP 0 rfl rfl 15 (by decide) k_160 (fun _ h9 => h9) rfl dX10_readNumber_56 ?_
    refine xkRi (xV (As := [.int (nI aj)]) (rest := []) (wc := [(h0, .inr (10, [h0_z, h0_past, h0_kept, h0_spare, h0_pastMany, h0_isKept, .ref tq, .int (nI tl), h0_isUsed, h0_planBatch, h0_planUnits, h0_planCents, h0_planMany, h0_planGot, h0_planSubstitutes, .int (nI aj), .int f0, h0_entries, h0_entry])), (tq, .inl (cC, 60, .inl text))]) hx hb hml hown hts (c_X10_isDigit l dC dI cI cF cC cZ cQ cS h0 h0_z h0_past h0_kept h0_spare h0_pastMany h0_isKept tq h0_isUsed h0_planBatch h0_planUnits h0_planCents h0_planMany h0_planGot h0_planSubstitutes (.int (nI aj)) (.int f0) h0_entries h0_entry text tl aj (by omega) (by omega)) 1 gX10_readNumber_X10_isDigit rfl rfl rfl hdV_X10_isDigit ⟨Nat.le_of_ble_eq_true rfl, Nat.le_of_ble_eq_true rfl⟩ hN hK hP hD [0, 1] rfl rfl 10 0 rfl rfl rfl hl.1 rfl (Nat.le_of_ble_eq_true rfl) dX10_readNumber_59 ⟨Nat.zero_le _, Nat.zero_le _⟩) (fun r_6 hr_6 => ?_)
    have hr_6 : r_6 = (if nI 48 ≤ xlet text tl aj ∧ xlet text tl aj ≤ nI 57 then nI 1 else nI 0) := hr_6
    rcases xi_ite inferInstance hr_6 with ⟨c_7, hr_6⟩ | ⟨c_7, hr_6⟩
    · subst hr_6
      refine xr_if1 (tgt := 98) hx hb (by decide) dX10_readNumber_62 (by decide) ?_
      refine lv_bipush (v := nI 10) hx hb dX10_readNumber_65 (by decide) ?_
      refine lv_iload_n hx hb dX10_readNumber_67 rfl (lv_at hl 1 rfl) ?_
      refine lv_imul hx hb dX10_readNumber_68 ?_
      refine lv_aload_n hx hb dX10_readNumber_69 rfl (lv_at hl 2 rfl) ?_
      refine lv_aload_n hx hb dX10_readNumber_70 rfl (lv_at hl 2 rfl) ?_
      refine va_get (D := (dC, dI)) (ci := 10) (v := .int (nI aj)) (C := RX10) (T := TX10) (N := 19) hx hb hts i_X10 hown hK hP 0 rfl rfl 15 (by decide) k_160 (fun _ h9 => h9) rfl dX10_readNumber_71 ?_
      refine xkRi (xV (As := [.int (nI aj)]) (rest := [.int ((nI 10) * v9)]) (wc := [(h0, .inr (10, [h0_z, h0_past, h0_kept, h0_spare, h0_pastMany, h0_isKept, .ref tq, .int (nI tl), h0_isUsed, h0_planBatch, h0_planUnits, h0_planCents, h0_planMany, h0_planGot, h0_planSubstitutes, .int (nI aj), .int f0, h0_entries, h0_entry])), (tq, .inl (cC, 60, .inl text))]) hx hb hml hown hts (c_X10_letter l dC dI cI cF cC cZ cQ cS h0 h0_z h0_past h0_kept h0_spare h0_pastMany h0_isKept tq h0_isUsed h0_planBatch h0_planUnits h0_planCents h0_planMany h0_planGot h0_planSubstitutes (.int (nI aj)) (.int f0) h0_entries h0_entry text tl aj (by omega) (by omega)) 1 gX10_readNumber_X10_letter rfl rfl rfl hdV_X10_letter ⟨Nat.le_of_ble_eq_true rfl, Nat.le_of_ble_eq_true rfl⟩ hN hK hP hD [0, 1] rfl rfl 10 0 rfl rfl rfl hl.1 rfl (Nat.le_of_ble_eq_true rfl) dX10_readNumber_74 ⟨Nat.zero_le _, Nat.zero_le _⟩) (fun r_8 hr_8 => ?_)
      obtain rfl : r_8 = xlet text tl aj := hr_8
      refine lv_iadd hx hb dX10_readNumber_77 ?_
      refine lv_bipush (v := nI 48) hx hb dX10_readNumber_78 (by decide) ?_
      refine lv_isub hx hb dX10_readNumber_80 ?_
      refine lv_istore_n (lv' := [(1, .int ((((nI 10) * v9) + (xlet text tl aj)) - (nI 48))), (2, .int (nI k)), (0, .ref h0)]) hx hb dX10_readNumber_81 rfl hl (by decide) rfl (fun ls hl => ?_)
      refine lv_aload_n hx hb dX10_readNumber_82 rfl (lv_at hl 2 rfl) ?_
      refine lv_dup hx hb dX10_readNumber_83 rfl ?_
      refine va_get (D := (dC, dI)) (ci := 10) (v := .int (nI aj)) (C := RX10) (T := TX10) (N := 19) hx hb hts i_X10 hown hK hP 0 rfl rfl 15 (by decide) k_160 (fun _ h9 => h9) rfl dX10_readNumber_84 ?_
      refine lv_iconst (v := nI 1) hx hb dX10_readNumber_87 (by decide) ?_
      refine xr_iadd_n hx hb dX10_readNumber_88 ?_
      refine va_put (D := (dC, dI)) (ci := 10) (v := .int (nI (aj + 1))) (ty := .int) (C := RX10) (T := TX10) (N := 19) hx hb hts i_X10 tyX10 tyX10_ok nmX10 hown hK hP hD hS 0 rfl rfl 15 (by decide) k_160 (fun _ h9 => h9) rfl (by decide +kernel) rfl rfl (Nat.le_of_ble_eq_true rfl) dX10_readNumber_89 (fun H locs hP hD hS => ?_)
      have hP : va_P (dC, dI) vwCl [(h0, .inr (10, [h0_z, h0_past, h0_kept, h0_spare, h0_pastMany, h0_isKept, .ref tq, .int (nI tl), h0_isUsed, h0_planBatch, h0_planUnits, h0_planCents, h0_planMany, h0_planGot, h0_planSubstitutes, .int (nI (aj + 1)), .int f0, h0_entries, h0_entry])), (tq, .inl (cC, 60, .inl text))] H := hP
      have hD : va_D A [(h0, .inr (10, [h0_z, h0_past, h0_kept, h0_spare, h0_pastMany, h0_isKept, .ref tq, .int (nI tl), h0_isUsed, h0_planBatch, h0_planUnits, h0_planCents, h0_planMany, h0_planGot, h0_planSubstitutes, .int (nI (aj + 1)), .int f0, h0_entries, h0_entry])), (tq, .inl (cC, 60, .inl text))] := hD
      refine lv_iinc (v := nI (k + 1)) (lv' := [(2, .int (nI (k + 1))), (1, .int ((((nI 10) * v9) + (xlet text tl aj)) - (nI 48))), (0, .ref h0)]) hx hb dX10_readNumber_92 hl (k := 1) rfl (nI_inc1 k) (by decide) rfl (fun ls hl => ?_)
      refine lv_goto (tgt := 45) hx hb dX10_readNumber_95 (by decide) ?_
      exact ih_45 (4 - (k + 1)) _ _ _ (show 4 - (k + 1) < 4 - k from by omega) ⟨(k + 1), ((((nI 10) * v9) + (xlet text tl aj)) - (nI 48)), (aj + 1), ls, rfl, rfl, lv_sub hl [0, 1, 2] rfl, hP, hD, hS, (⟨by omega, by omega⟩), (⟨by omega, by omega⟩), (by rw [show 3 - (k + 1) = 2 - k from by omega]; exact zrl_1 (f := 2 - k) (by rw [show 2 - k + 1 = 3 - k from by omega]; exact hz) c_5 c_7)⟩
    subst hr_6
    refine xr_if0 (tgt := 98) hx hb (by decide) dX10_readNumber_62 (by decide) ?_
    refine lv_iload_n hx hb dX10_readNumber_98 rfl (lv_at hl 1 rfl) ?_
    have hv : (v9, aj) = zrl text tl 2 (xlet text tl a0 - nI 48) (a0 + 1) := zrl_2 (f := 2 - k) (by rw [show 2 - k + 1 = 3 - k from by omega]; exact hz) (fun q => c_7 q.2)
    have hE : zrn text tl a0 = (v9, aj, -5) := by unfold zrn; rw [if_pos c_2, ← hv]
    have hP9 : va_P (dC, dI) vwCl [(h0, .inr (10, [h0_z, h0_past, h0_kept, h0_spare, h0_pastMany, h0_isKept, .ref tq, .int (nI tl), h0_isUsed, h0_planBatch, h0_planUnits, h0_planCents, h0_planMany, h0_planGot, h0_planSubstitutes, .int (nI ((zrn text tl a0).2.1)), .int ((zrn text tl a0).2.2), h0_entries, h0_entry])), (tq, .inl (cC, 60, .inl text))] H := by rw [hE]; rw [hf0] at hP; exact hP
    have hS9 : va_S (va_B [(h0, .inr (10, [h0_z, h0_past, h0_kept, h0_spare, h0_pastMany, h0_isKept, .ref tq, .int (nI tl), h0_isUsed, h0_planBatch, h0_planUnits, h0_planCents, h0_planMany, h0_planGot, h0_planSubstitutes, .int (nI a0), .int f0, h0_entries, h0_entry])), (tq, .inl (cC, 60, .inl text))]) s.heap H locs := by rw [← hA]; exact hS
    exact W.iret (v := v9) hx hb hr (fun t ht hW => ⟨⟨_, _, rfl, ⟨(show v9 = (zrn text tl a0).1 from (by rw [hE])), rfl⟩, by rw [ht]; exact hP9⟩, hS9.X ht⟩) hS9.2.2 dX10_readNumber_99
  subst hr_1
  refine xr_ifn0 (tgt := 21) hx hb (by decide) dX10_readNumber_8 (by decide) ?_
  refine lv_aload_n hx hb dX10_readNumber_11 rfl (lv_at hl 0 rfl) ?_
  refine lv_aload_n hx hb dX10_readNumber_12 rfl (lv_at hl 0 rfl) ?_
  refine va_get (D := (dC, dI)) (ci := 10) (v := .int (nI a0)) (C := RX10) (T := TX10) (N := 19) hx hb hts i_X10 hown hK hP 0 rfl rfl 15 (by decide) k_160 (fun _ h9 => h9) rfl dX10_readNumber_13 ?_
  refine va_put (D := (dC, dI)) (ci := 10) (v := .int (nI a0)) (ty := .int) (C := RX10) (T := TX10) (N := 19) hx hb hts i_X10 tyX10 tyX10_ok nmX10 hown hK hP hD hS 0 rfl rfl 16 (by decide) k_166 (fun _ h9 => h9) rfl (by decide +kernel) rfl rfl (Nat.le_of_ble_eq_true rfl) dX10_readNumber_16 (fun H locs hP hD hS => ?_)
  have hP : va_P (dC, dI) vwCl [(h0, .inr (10, [h0_z, h0_past, h0_kept, h0_spare, h0_pastMany, h0_isKept, .ref tq, .int (nI tl), h0_isUsed, h0_planBatch, h0_planUnits, h0_planCents, h0_planMany, h0_planGot, h0_planSubstitutes, .int (nI a0), .int (nI a0), h0_entries, h0_entry])), (tq, .inl (cC, 60, .inl text))] H := hP
  have hD : va_D A [(h0, .inr (10, [h0_z, h0_past, h0_kept, h0_spare, h0_pastMany, h0_isKept, .ref tq, .int (nI tl), h0_isUsed, h0_planBatch, h0_planUnits, h0_planCents, h0_planMany, h0_planGot, h0_planSubstitutes, .int (nI a0), .int (nI a0), h0_entries, h0_entry])), (tq, .inl (cC, 60, .inl text))] := hD
  refine lv_iconst (v := nI 0) hx hb dX10_readNumber_19 (by decide) ?_
  have hE : zrn text tl a0 = (nI 0, a0, nI a0) := if_neg c_2
  have hP9 : va_P (dC, dI) vwCl [(h0, .inr (10, [h0_z, h0_past, h0_kept, h0_spare, h0_pastMany, h0_isKept, .ref tq, .int (nI tl), h0_isUsed, h0_planBatch, h0_planUnits, h0_planCents, h0_planMany, h0_planGot, h0_planSubstitutes, .int (nI ((zrn text tl a0).2.1)), .int ((zrn text tl a0).2.2), h0_entries, h0_entry])), (tq, .inl (cC, 60, .inl text))] H := by rw [hE]; exact hP
  have hS9 : va_S (va_B [(h0, .inr (10, [h0_z, h0_past, h0_kept, h0_spare, h0_pastMany, h0_isKept, .ref tq, .int (nI tl), h0_isUsed, h0_planBatch, h0_planUnits, h0_planCents, h0_planMany, h0_planGot, h0_planSubstitutes, .int (nI a0), .int f0, h0_entries, h0_entry])), (tq, .inl (cC, 60, .inl text))]) s.heap H locs := by rw [← hA]; exact hS
  exact W.iret (v := nI 0) hx hb hr (fun t ht hW => ⟨⟨_, _, rfl, ⟨(show nI 0 = (zrn text tl a0).1 from (by rw [hE])), rfl⟩, by rw [ht]; exact hP9⟩, hS9.X ht⟩) hS9.2.2 dX10_readNumber_20
