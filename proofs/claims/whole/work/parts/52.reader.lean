theorem hdV_X10_letter : yX10_letter.cls = RX10 ∧ yX10_letter.cls ≠ "java/lang/invoke/MethodHandle" ∧ yX10_letter.cls ≠ "java/lang/invoke/VarHandle" ∧ (parseMethodDescriptor yX10_letter.desc).map (fun d => d.parameters.length) = some 1 := by decide +kernel
set_option maxHeartbeats 4000000 in
set_option maxRecDepth 100000 in
theorem c_X10_letter (l : Launch) (dC : Nat → ClassId) (dI : Nat → Nat → Nat) (cI cF cC cZ cQ cS : ClassId) (h0 : Nat) (h0_z : Value) (h0_past : Value) (h0_kept : Value) (h0_spare : Value) (h0_pastMany : Value) (h0_isKept : Value) (tq : Nat) (h0_isUsed : Value) (h0_planBatch : Value) (h0_planUnits : Value) (h0_planCents : Value) (h0_planMany : Value) (h0_planGot : Value) (h0_planSubstitutes : Value) (h0_at : Value) (h0_fault : Value) (h0_entries : Value) (h0_entry : Value) (text : Nat → Int32) (tl : Nat) (jx : Nat) (htl : tl ≤ 60) (hjx : jx < 1000) : Met l yX10_letter wsX10_letter ({ frames := 0, cells := 0, slots := 0, locals := 0 }) (xPre (dC, dI) vwCl [.ref h0, .int (nI jx)] (xtys cI cF cC cZ cQ cS) [(h0, .inr (10, [h0_z, h0_past, h0_kept, h0_spare, h0_pastMany, h0_isKept, .ref tq, .int (nI tl), h0_isUsed, h0_planBatch, h0_planUnits, h0_planCents, h0_planMany, h0_planGot, h0_planSubstitutes, h0_at, h0_fault, h0_entries, h0_entry])), (tq, .inl (cC, 60, .inl text))]) (vp_Si (fun r0 => r0 = xlet text tl jx)) 0 0 (fun _ => False) := by
  refine Met.ofW (cc := cX10_letter) (maxL := 2) (ret := (some .int)) (by decide) rfl ?_
  intro p e s m args below meth c s₁ B hml hv
  obtain ⟨rfl, hP, hK, hD0, hN⟩ := hv
  have hx := B.exec
  have hb := B.bytes
  have hr := B.returns
  have hts := atoms_spec (ws := wsX10_letter) B.pre
  have hown : s.vm.findClass RX10 = some m.cls := findClass_of_methodNamed B.named
  have hlocks := B.notSynchronized
  have k_154 := hts (Cond.fieldLink RX10 154 "ShelfStagesModel" "typed" "I") (by decide +kernel)
  have k_22 := hts (Cond.fieldLink RX10 22 "ShelfStagesModel" "text" "[C") (by decide +kernel)
  have i_X10 : ∀ w ∈ wsX100, w ∈ wsX10_letter := by decide +kernel
  have hD := hD0
  have hl := lv_entry ([.ref h0, .int (nI jx)]) (n := 2) (Nat.le_of_ble_eq_true rfl)
  rw [lg_entry_eq]
  generalize (lg_sl ([.ref h0, .int (nI jx)]) ++ List.replicate (2 - (lg_sl ([.ref h0, .int (nI jx)])).length) Slot.unset).toArray = ls at hl ⊢
  have hl : lv_has ls 2 [(0, .ref h0), (1, .int (nI jx))] := hl
  refine lv_iload_n hx hb dX10_letter_0 rfl (lv_at hl 1 rfl) ?_
  refine lv_aload_n hx hb dX10_letter_1 rfl (lv_at hl 0 rfl) ?_
  refine va_get (D := (dC, dI)) (ci := 10) (v := .int (nI tl)) (C := RX10) (T := TX10) (N := 19) hx hb hts i_X10 hown hK hP 0 rfl rfl 7 (by decide) k_154 (fun _ h9 => h9) rfl dX10_letter_2 ?_
  refine xr_ge_n (tgt := 17) hx hb (by omega) (by omega) dX10_letter_5 (by decide) (fun c_1 => ?_) (fun c_1 => ?_)
  · skip
    refine lv_iconst (v := (-1)) hx hb dX10_letter_17 (by decide) ?_
    exact W.iret (v := (-1)) hx hb hr (fun t ht hW => ⟨_, rfl, (show (-1) = xlet text tl jx from (if_neg (by omega)).symm), ht⟩) (fun q h => by cases h) dX10_letter_18
  refine lv_aload_n hx hb dX10_letter_8 rfl (lv_at hl 0 rfl) ?_
  refine va_get (D := (dC, dI)) (ci := 10) (v := .ref tq) (C := RX10) (T := TX10) (N := 19) hx hb hts i_X10 hown hK hP 0 rfl rfl 6 (by decide) k_22 (fun _ h9 => h9) rfl dX10_letter_9 ?_
  refine lv_iload_n hx hb dX10_letter_12 rfl (lv_at hl 1 rfl) ?_
  refine xr_cald hx hb hK hP 1 2 rfl rfl (i := jx) (by omega) (by decide) dX10_letter_13 ?_
  refine lv_goto (tgt := 18) hx hb dX10_letter_14 (by decide) ?_
  exact W.iret (v := text jx) hx hb hr (fun t ht hW => ⟨_, rfl, (show text jx = xlet text tl jx from (if_pos (by omega)).symm), ht⟩) (fun q h => by cases h) dX10_letter_18
theorem hdV_X10_isDigit : yX10_isDigit.cls = RX10 ∧ yX10_isDigit.cls ≠ "java/lang/invoke/MethodHandle" ∧ yX10_isDigit.cls ≠ "java/lang/invoke/VarHandle" ∧ (parseMethodDescriptor yX10_isDigit.desc).map (fun d => d.parameters.length) = some 1 := by decide +kernel
set_option maxHeartbeats 4000000 in
set_option maxRecDepth 100000 in
theorem c_X10_isDigit (l : Launch) (dC : Nat → ClassId) (dI : Nat → Nat → Nat) (cI cF cC cZ cQ cS : ClassId) (h0 : Nat) (h0_z : Value) (h0_past : Value) (h0_kept : Value) (h0_spare : Value) (h0_pastMany : Value) (h0_isKept : Value) (tq : Nat) (h0_isUsed : Value) (h0_planBatch : Value) (h0_planUnits : Value) (h0_planCents : Value) (h0_planMany : Value) (h0_planGot : Value) (h0_planSubstitutes : Value) (h0_at : Value) (h0_fault : Value) (h0_entries : Value) (h0_entry : Value) (text : Nat → Int32) (tl : Nat) (jx : Nat) (htl : tl ≤ 60) (hjx : jx < 1000) : Met l yX10_isDigit wsX10_isDigit ({ frames := 1, cells := 0, slots := 0, locals := 21 }) (xPre (dC, dI) vwCl [.ref h0, .int (nI jx)] (xtys cI cF cC cZ cQ cS) [(h0, .inr (10, [h0_z, h0_past, h0_kept, h0_spare, h0_pastMany, h0_isKept, .ref tq, .int (nI tl), h0_isUsed, h0_planBatch, h0_planUnits, h0_planCents, h0_planMany, h0_planGot, h0_planSubstitutes, h0_at, h0_fault, h0_entries, h0_entry])), (tq, .inl (cC, 60, .inl text))]) (vp_Si (fun r0 => r0 = (if nI 48 ≤ xlet text tl jx ∧ xlet text tl jx ≤ nI 57 then nI 1 else nI 0))) 0 0 (fun _ => False) := by
  refine Met.ofW (cc := cX10_isDigit) (maxL := 2) (ret := (some .boolean)) (by decide) rfl ?_
  intro p e s m args below meth c s₁ B hml hv
  obtain ⟨rfl, hP, hK, hD0, hN⟩ := hv
  have hx := B.exec
  have hb := B.bytes
  have hr := B.returns
  have hts := atoms_spec (ws := wsX10_isDigit) B.pre
  have hown : s.vm.findClass RX10 = some m.cls := findClass_of_methodNamed B.named
  have hlocks := B.notSynchronized
  have hD := hD0
  have hl := lv_entry ([.ref h0, .int (nI jx)]) (n := 2) (Nat.le_of_ble_eq_true rfl)
  rw [lg_entry_eq]
  generalize (lg_sl ([.ref h0, .int (nI jx)]) ++ List.replicate (2 - (lg_sl ([.ref h0, .int (nI jx)])).length) Slot.unset).toArray = ls at hl ⊢
  have hl : lv_has ls 2 [(0, .ref h0), (1, .int (nI jx))] := hl
  refine lv_aload_n hx hb dX10_isDigit_0 rfl (lv_at hl 0 rfl) ?_
  refine lv_iload_n hx hb dX10_isDigit_1 rfl (lv_at hl 1 rfl) ?_
  refine xkRi (xV (As := [.int (nI jx)]) (rest := []) (wc := [(h0, .inr (10, [h0_z, h0_past, h0_kept, h0_spare, h0_pastMany, h0_isKept, .ref tq, .int (nI tl), h0_isUsed, h0_planBatch, h0_planUnits, h0_planCents, h0_planMany, h0_planGot, h0_planSubstitutes, h0_at, h0_fault, h0_entries, h0_entry])), (tq, .inl (cC, 60, .inl text))]) hx hb hml hown hts (c_X10_letter l dC dI cI cF cC cZ cQ cS h0 h0_z h0_past h0_kept h0_spare h0_pastMany h0_isKept tq h0_isUsed h0_planBatch h0_planUnits h0_planCents h0_planMany h0_planGot h0_planSubstitutes h0_at h0_fault h0_entries h0_entry text tl jx (by omega) (by omega)) 1 gX10_isDigit_X10_letter rfl rfl rfl hdV_X10_letter ⟨Nat.le_of_ble_eq_true rfl, Nat.le_of_ble_eq_true rfl⟩ hN hK hP hD [0, 1] rfl rfl 10 0 rfl rfl rfl hl.1 rfl (Nat.le_of_ble_eq_true rfl) dX10_isDigit_2 ⟨Nat.zero_le _, Nat.zero_le _⟩) (fun r_1 hr_1 => ?_)
  obtain rfl : r_1 = xlet text tl jx := hr_1
  refine lv_bipush (v := nI 48) hx hb dX10_isDigit_5 (by decide) ?_
  refine lv_icmp_lt (tgt := 24) hx hb dX10_isDigit_7 (by decide) (fun c_2 => ?_) (fun c_2 => ?_)
  · skip
    refine lv_iconst (v := nI 0) hx hb dX10_isDigit_24 (by decide) ?_
    exact W.zret (v := nI 0) hx hb hr rfl (fun t ht hW => ⟨_, rfl, (show nI 0 = (if nI 48 ≤ xlet text tl jx ∧ xlet text tl jx ≤ nI 57 then nI 1 else nI 0) from (if_neg (fun q => Int32.not_lt.mpr q.1 c_2)).symm), ht⟩) (fun q h => by cases h) dX10_isDigit_25
  refine lv_aload_n hx hb dX10_isDigit_10 rfl (lv_at hl 0 rfl) ?_
  refine lv_iload_n hx hb dX10_isDigit_11 rfl (lv_at hl 1 rfl) ?_
  refine xkRi (xV (As := [.int (nI jx)]) (rest := []) (wc := [(h0, .inr (10, [h0_z, h0_past, h0_kept, h0_spare, h0_pastMany, h0_isKept, .ref tq, .int (nI tl), h0_isUsed, h0_planBatch, h0_planUnits, h0_planCents, h0_planMany, h0_planGot, h0_planSubstitutes, h0_at, h0_fault, h0_entries, h0_entry])), (tq, .inl (cC, 60, .inl text))]) hx hb hml hown hts (c_X10_letter l dC dI cI cF cC cZ cQ cS h0 h0_z h0_past h0_kept h0_spare h0_pastMany h0_isKept tq h0_isUsed h0_planBatch h0_planUnits h0_planCents h0_planMany h0_planGot h0_planSubstitutes h0_at h0_fault h0_entries h0_entry text tl jx (by omega) (by omega)) 1 gX10_isDigit_X10_letter rfl rfl rfl hdV_X10_letter ⟨Nat.le_of_ble_eq_true rfl, Nat.le_of_ble_eq_true rfl⟩ hN hK hP hD [0, 1] rfl rfl 10 0 rfl rfl rfl hl.1 rfl (Nat.le_of_ble_eq_true rfl) dX10_isDigit_12 ⟨Nat.zero_le _, Nat.zero_le _⟩) (fun r_3 hr_3 => ?_)
  obtain rfl : r_3 = xlet text tl jx := hr_3
  refine lv_bipush (v := nI 57) hx hb dX10_isDigit_15 (by decide) ?_
  refine lv_icmp_gt (tgt := 24) hx hb dX10_isDigit_17 (by decide) (fun c_4 => ?_) (fun c_4 => ?_)
  · skip
    refine lv_iconst (v := nI 0) hx hb dX10_isDigit_24 (by decide) ?_
    exact W.zret (v := nI 0) hx hb hr rfl (fun t ht hW => ⟨_, rfl, (show nI 0 = (if nI 48 ≤ xlet text tl jx ∧ xlet text tl jx ≤ nI 57 then nI 1 else nI 0) from (if_neg (fun q => Int32.not_lt.mpr q.2 c_4)).symm), ht⟩) (fun q h => by cases h) dX10_isDigit_25
  refine lv_iconst (v := nI 1) hx hb dX10_isDigit_20 (by decide) ?_
  refine lv_goto (tgt := 25) hx hb dX10_isDigit_21 (by decide) ?_
  exact W.zret (v := nI 1) hx hb hr rfl (fun t ht hW => ⟨_, rfl, (show nI 1 = (if nI 48 ≤ xlet text tl jx ∧ xlet text tl jx ≤ nI 57 then nI 1 else nI 0) from (if_pos ⟨Int32.not_lt.mp c_2, Int32.not_lt.mp c_4⟩).symm), ht⟩) (fun q h => by cases h) dX10_isDigit_25
