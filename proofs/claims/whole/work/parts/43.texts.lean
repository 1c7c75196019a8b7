theorem hdV_X9_clearText : yX9_clearText.cls = RX9 ∧ yX9_clearText.cls ≠ "java/lang/invoke/MethodHandle" ∧ yX9_clearText.cls ≠ "java/lang/invoke/VarHandle" ∧ (parseMethodDescriptor yX9_clearText.desc).map (fun d => d.parameters.length) = some 0 := by decide +kernel
set_option maxHeartbeats 4000000 in
set_option maxRecDepth 100000 in
theorem c_X9_clearText (l : Launch) (dC : Nat → ClassId) (dI : Nat → Nat → Nat) (cI cF cC cZ cQ cS : ClassId) (x0 : Nat) (x0_now : Value) (x0_snapshot : Value) (x0_trial : Value) (x0_history : Value) (x0_filling : Value) (x0_delivery : Value) (x0_text : Value) (x0_hasSnapshot : Value) (tl : Nat) : Met l yX9_clearText wsX9_clearText ({ frames := 0, cells := 0, slots := 0, locals := 0 }) (xPre (dC, dI) vwCl [.ref x0] (xtys cI cF cC cZ cQ cS) [(x0, .inr (9, [x0_now, x0_snapshot, x0_trial, x0_history, x0_filling, x0_delivery, x0_text, .int (nI tl), x0_hasSnapshot]))]) (xWi (dC, dI) vwCl [(x0, .inr (9, [x0_now, x0_snapshot, x0_trial, x0_history, x0_filling, x0_delivery, x0_text, .int (nI tl), x0_hasSnapshot]))] (fun r0 w0 => r0 = nI tl ∧ w0 = [(x0, .inr (9, [x0_now, x0_snapshot, x0_trial, x0_history, x0_filling, x0_delivery, x0_text, .int (nI 0), x0_hasSnapshot]))])) 0 0 (va_B [(x0, .inr (9, [x0_now, x0_snapshot, x0_trial, x0_history, x0_filling, x0_delivery, x0_text, .int (nI tl), x0_hasSnapshot]))]) := by
  refine Met.ofW (cc := cX9_clearText) (maxL := 2) (ret := (some .int)) (by decide) rfl ?_
  intro p e s m args below meth c s₁ B hml hv
  obtain ⟨rfl, hP, hK, hD0, hN⟩ := hv
  have hx := B.exec
  have hb := B.bytes
  have hr := B.returns
  have hts := atoms_spec (ws := wsX9_clearText) B.pre
  have hown : s.vm.findClass RX9 = some m.cls := findClass_of_methodNamed B.named
  have hlocks := B.notSynchronized
  have k_140 := hts (Cond.fieldLink RX9 140 "ShelfStages" "textLength" "I") (by decide +kernel)
  have i_X9 : ∀ w ∈ wsX90, w ∈ wsX9_clearText := by decide +kernel
  obtain ⟨A, hA⟩ : ∃ A, A = va_B [(x0, .inr (9, [x0_now, x0_snapshot, x0_trial, x0_history, x0_filling, x0_delivery, x0_text, .int (nI tl), x0_hasSnapshot]))] := ⟨_, rfl⟩
  have hD : va_D A [(x0, .inr (9, [x0_now, x0_snapshot, x0_trial, x0_history, x0_filling, x0_delivery, x0_text, .int (nI tl), x0_hasSnapshot]))] := hA ▸ hD0.own
  have hS : va_S A s.heap s.heap [] := va_S.rf
  have hl := lv_entry ([.ref x0]) (n := 2) (Nat.le_of_ble_eq_true rfl)
  rw [lg_entry_eq]
  generalize (lg_sl ([.ref x0]) ++ List.replicate (2 - (lg_sl ([.ref x0])).length) Slot.unset).toArray = ls at hl ⊢
  have hl : lv_has ls 2 [(0, .ref x0)] := hl
  refine lv_aload_n hx hb dX9_clearText_0 rfl (lv_at hl 0 rfl) ?_
  refine va_get (D := (dC, dI)) (ci := 9) (v := .int (nI tl)) (C := RX9) (T := TX9) (N := 9) hx hb hts i_X9 hown hK hP 0 rfl rfl 7 (by decide) k_140 (fun _ h9 => h9) rfl dX9_clearText_1 ?_
  refine lv_istore_n (lv' := [(1, .int (nI tl)), (0, .ref x0)]) hx hb dX9_clearText_4 rfl hl (by decide) rfl (fun ls hl => ?_)
  refine lv_aload_n hx hb dX9_clearText_5 rfl (lv_at hl 1 rfl) ?_
  refine lv_iconst (v := nI 0) hx hb dX9_clearText_6 (by decide) ?_
  refine va_put (D := (dC, dI)) (ci := 9) (v := .int (nI 0)) (ty := .int) (C := RX9) (T := TX9) (N := 9) hx hb hts i_X9 tyX9 tyX9_ok nmX9 hown hK hP hD hS 0 rfl rfl 7 (by decide) k_140 (fun _ h9 => h9) rfl (by decide +kernel) rfl rfl (Nat.le_of_ble_eq_true rfl) dX9_clearText_7 (fun H locs hP hD hS => ?_)
  have hP : va_P (dC, dI) vwCl [(x0, .inr (9, [x0_now, x0_snapshot, x0_trial, x0_history, x0_filling, x0_delivery, x0_text, .int (nI 0), x0_hasSnapshot]))] H := hP
  have hD : va_D A [(x0, .inr (9, [x0_now, x0_snapshot, x0_trial, x0_history, x0_filling, x0_delivery, x0_text, .int (nI 0), x0_hasSnapshot]))] := hD
  refine lv_iload_n hx hb dX9_clearText_10 rfl (lv_at hl 0 rfl) ?_
  have hP9 : va_P (dC, dI) vwCl [(x0, .inr (9, [x0_now, x0_snapshot, x0_trial, x0_history, x0_filling, x0_delivery, x0_text, .int (nI 0), x0_hasSnapshot]))] H := hP
  have hS9 : va_S (va_B [(x0, .inr (9, [x0_now, x0_snapshot, x0_trial, x0_history, x0_filling, x0_delivery, x0_text, .int (nI tl), x0_hasSnapshot]))]) s.heap H locs := by rw [← hA]; exact hS
  exact W.iret (v := nI tl) hx hb hr (fun t ht hW => ⟨⟨_, _, rfl, ⟨(show nI tl = nI tl from rfl), rfl⟩, by rw [ht]; exact hP9⟩, hS9.X ht⟩) hS9.2.2 dX9_clearText_11
theorem hdV_X10_clearText : yX10_clearText.cls = RX10 ∧ yX10_clearText.cls ≠ "java/lang/invoke/MethodHandle" ∧ yX10_clearText.cls ≠ "java/lang/invoke/VarHandle" ∧ (parseMethodDescriptor yX10_clearText.desc).map (fun d => d.parameters.length) = some 0 := by decide +kernel
set_option maxHeartbeats 4000000 in
set_option maxRecDepth 100000 in
theorem c_X10_clearText (l : Launch) (dC : Nat → ClassId) (dI : Nat → Nat → Nat) (cI cF cC cZ cQ cS : ClassId) (h0 : Nat) (zq : Nat) (h0_past : Value) (h0_kept : Value) (h0_spare : Value) (h0_pastMany : Value) (h0_isKept : Value) (h0_text : Value) (h0_isUsed : Value) (h0_planBatch : Value) (h0_planUnits : Value) (h0_planCents : Value) (h0_planMany : Value) (h0_planGot : Value) (h0_planSubstitutes : Value) (h0_at : Value) (h0_fault : Value) (h0_entries : Value) (h0_entry : Value) (z : Nat → Int32) (tl : Nat) : Met l yX10_clearText wsX10_clearText ({ frames := 0, cells := 0, slots := 0, locals := 0 }) (xPre (dC, dI) vwCl [.ref h0] (xtys cI cF cC cZ cQ cS) [(h0, .inr (10, [.ref zq, h0_past, h0_kept, h0_spare, h0_pastMany, h0_isKept, h0_text, .int (nI tl), h0_isUsed, h0_planBatch, h0_planUnits, h0_planCents, h0_planMany, h0_planGot, h0_planSubstitutes, h0_at, h0_fault, h0_entries, h0_entry]))]) (xWi (dC, dI) vwCl [(h0, .inr (10, [.ref zq, h0_past, h0_kept, h0_spare, h0_pastMany, h0_isKept, h0_text, .int (nI tl), h0_isUsed, h0_planBatch, h0_planUnits, h0_planCents, h0_planMany, h0_planGot, h0_planSubstitutes, h0_at, h0_fault, h0_entries, h0_entry]))] (fun r0 w0 => r0 = nI tl ∧ w0 = [(h0, .inr (10, [.ref zq, h0_past, h0_kept, h0_spare, h0_pastMany, h0_isKept, h0_text, .int (nI 0), h0_isUsed, h0_planBatch, h0_planUnits, h0_planCents, h0_planMany, h0_planGot, h0_planSubstitutes, h0_at, h0_fault, h0_entries, h0_entry]))])) 0 0 (va_B [(h0, .inr (10, [.ref zq, h0_past, h0_kept, h0_spare, h0_pastMany, h0_isKept, h0_text, .int (nI tl), h0_isUsed, h0_planBatch, h0_planUnits, h0_planCents, h0_planMany, h0_planGot, h0_planSubstitutes, h0_at, h0_fault, h0_entries, h0_entry]))]) := by
  refine Met.ofW (cc := cX10_clearText) (maxL := 2) (ret := (some .int)) (by decide) rfl ?_
  intro p e s m args below meth c s₁ B hml hv
  obtain ⟨rfl, hP, hK, hD0, hN⟩ := hv
  have hx := B.exec
  have hb := B.bytes
  have hr := B.returns
  have hts := atoms_spec (ws := wsX10_clearText) B.pre
  have hown : s.vm.findClass RX10 = some m.cls := findClass_of_methodNamed B.named
  have hlocks := B.notSynchronized
  have k_154 := hts (Cond.fieldLink RX10 154 "ShelfStagesModel" "typed" "I") (by decide +kernel)
  have i_X10 : ∀ w ∈ wsX100, w ∈ wsX10_clearText := by decide +kernel
  obtain ⟨A, hA⟩ : ∃ A, A = va_B [(h0, .inr (10, [.ref zq, h0_past, h0_kept, h0_spare, h0_pastMany, h0_isKept, h0_text, .int (nI tl), h0_isUsed, h0_planBatch, h0_planUnits, h0_planCents, h0_planMany, h0_planGot, h0_planSubstitutes, h0_at, h0_fault, h0_entries, h0_entry]))] := ⟨_, rfl⟩
  have hD : va_D A [(h0, .inr (10, [.ref zq, h0_past, h0_kept, h0_spare, h0_pastMany, h0_isKept, h0_text, .int (nI tl), h0_isUsed, h0_planBatch, h0_planUnits, h0_planCents, h0_planMany, h0_planGot, h0_planSubstitutes, h0_at, h0_fault, h0_entries, h0_entry]))] := hA ▸ hD0.own
  have hS : va_S A s.heap s.heap [] := va_S.rf
  have hl := lv_entry ([.ref h0]) (n := 2) (Nat.le_of_ble_eq_true rfl)
  rw [lg_entry_eq]
  generalize (lg_sl ([.ref h0]) ++ List.replicate (2 - (lg_sl ([.ref h0])).length) Slot.unset).toArray = ls at hl ⊢
  have hl : lv_has ls 2 [(0, .ref h0)] := hl
  refine lv_aload_n hx hb dX10_clearText_0 rfl (lv_at hl 0 rfl) ?_
  refine va_get (D := (dC, dI)) (ci := 10) (v := .int (nI tl)) (C := RX10) (T := TX10) (N := 19) hx hb hts i_X10 hown hK hP 0 rfl rfl 7 (by decide) k_154 (fun _ h9 => h9) rfl dX10_clearText_1 ?_
  refine lv_istore_n (lv' := [(1, .int (nI tl)), (0, .ref h0)]) hx hb dX10_clearText_4 rfl hl (by decide) rfl (fun ls hl => ?_)
  refine lv_aload_n hx hb dX10_clearText_5 rfl (lv_at hl 1 rfl) ?_
  refine lv_iconst (v := nI 0) hx hb dX10_clearText_6 (by decide) ?_
  refine va_put (D := (dC, dI)) (ci := 10) (v := .int (nI 0)) (ty := .int) (C := RX10) (T := TX10) (N := 19) hx hb hts i_X10 tyX10 tyX10_ok nmX10 hown hK hP hD hS 0 rfl rfl 7 (by decide) k_154 (fun _ h9 => h9) rfl (by decide +kernel) rfl rfl (Nat.le_of_ble_eq_true rfl) dX10_clearText_7 (fun H locs hP hD hS => ?_)
  have hP : va_P (dC, dI) vwCl [(h0, .inr (10, [.ref zq, h0_past, h0_kept, h0_spare, h0_pastMany, h0_isKept, h0_text, .int (nI 0), h0_isUsed, h0_planBatch, h0_planUnits, h0_planCents, h0_planMany, h0_planGot, h0_planSubstitutes, h0_at, h0_fault, h0_entries, h0_entry]))] H := hP
  have hD : va_D A [(h0, .inr (10, [.ref zq, h0_past, h0_kept, h0_spare, h0_pastMany, h0_isKept, h0_text, .int (nI 0), h0_isUsed, h0_planBatch, h0_planUnits, h0_planCents, h0_planMany, h0_planGot, h0_planSubstitutes, h0_at, h0_fault, h0_entries, h0_entry]))] := hD
  refine lv_iload_n hx hb dX10_clearText_10 rfl (lv_at hl 0 rfl) ?_
  have hP9 : va_P (dC, dI) vwCl [(h0, .inr (10, [.ref zq, h0_past, h0_kept, h0_spare, h0_pastMany, h0_isKept, h0_text, .int (nI 0), h0_isUsed, h0_planBatch, h0_planUnits, h0_planCents, h0_planMany, h0_planGot, h0_planSubstitutes, h0_at, h0_fault, h0_entries, h0_entry]))] H := hP
  have hS9 : va_S (va_B [(h0, .inr (10, [.ref zq, h0_past, h0_kept, h0_spare, h0_pastMany, h0_isKept, h0_text, .int (nI tl), h0_isUsed, h0_planBatch, h0_planUnits, h0_planCents, h0_planMany, h0_planGot, h0_planSubstitutes, h0_at, h0_fault, h0_entries, h0_entry]))]) s.heap H locs := by rw [← hA]; exact hS
  exact W.iret (v := nI tl) hx hb hr (fun t ht hW => ⟨⟨_, _, rfl, ⟨(show nI tl = nI tl from rfl), rfl⟩, by rw [ht]; exact hP9⟩, hS9.X ht⟩) hS9.2.2 dX10_clearText_11
theorem hdV_X10_undo : yX10_undo.cls = RX10 ∧ yX10_undo.cls ≠ "java/lang/invoke/MethodHandle" ∧ yX10_undo.cls ≠ "java/lang/invoke/VarHandle" ∧ (parseMethodDescriptor yX10_undo.desc).map (fun d => d.parameters.length) = some 0 := by decide +kernel
set_option maxHeartbeats 4000000 in
set_option maxRecDepth 100000 in
theorem c_X10_undoe (l : Launch) (dC : Nat → ClassId) (dI : Nat → Nat → Nat) (cI cF cC cZ cQ cS : ClassId) (h0 : Nat) (h0_z : Value) (h0_past : Value) (h0_kept : Value) (h0_spare : Value) (h0_isKept : Value) (h0_text : Value) (h0_typed : Value) (h0_isUsed : Value) (h0_planBatch : Value) (h0_planUnits : Value) (h0_planCents : Value) (h0_planMany : Value) (h0_planGot : Value) (h0_planSubstitutes : Value) (h0_at : Value) (h0_fault : Value) (h0_entries : Value) (h0_entry : Value) : Met l yX10_undo wsX10_undo ({ frames := 0, cells := 0, slots := 0, locals := 0 }) (xPre (dC, dI) vwCl [.ref h0] (xtys cI cF cC cZ cQ cS) [(h0, .inr (10, [h0_z, h0_past, h0_kept, h0_spare, .int (nI 0), h0_isKept, h0_text, h0_typed, h0_isUsed, h0_planBatch, h0_planUnits, h0_planCents, h0_planMany, h0_planGot, h0_planSubstitutes, h0_at, h0_fault, h0_entries, h0_entry]))]) (vp_Si (fun r0 => r0 = (-5))) 0 0 (fun _ => False) := by
  refine Met.ofW (cc := cX10_undo) (maxL := 2) (ret := (some .int)) (by decide) rfl ?_
  intro p e s m args below meth c s₁ B hml hv
  obtain ⟨rfl, hP, hK, hD0, hN⟩ := hv
  have hx := B.exec
  have hb := B.bytes
  have hr := B.returns
  have hts := atoms_spec (ws := wsX10_undo) B.pre
  have hown : s.vm.findClass RX10 = some m.cls := findClass_of_methodNamed B.named
  have hlocks := B.notSynchronized
  have k_45 := hts (Cond.fieldLink RX10 45 "ShelfStagesModel" "pastMany" "I") (by decide +kernel)
  have i_X10 : ∀ w ∈ wsX100, w ∈ wsX10_undo := by decide +kernel
  have hD := hD0
  have hl := lv_entry ([.ref h0]) (n := 2) (Nat.le_of_ble_eq_true rfl)
  rw [lg_entry_eq]
  generalize (lg_sl ([.ref h0]) ++ List.replicate (2 - (lg_sl ([.ref h0])).length) Slot.unset).toArray = ls at hl ⊢
  have hl : lv_has ls 2 [(0, .ref h0)] := hl
  refine lv_aload_n hx hb dX10_undo_0 rfl (lv_at hl 0 rfl) ?_
  refine va_get (D := (dC, dI)) (ci := 10) (v := .int (nI 0)) (C := RX10) (T := TX10) (N := 19) hx hb hts i_X10 hown hK hP 0 rfl rfl 4 (by decide) k_45 (fun _ h9 => h9) rfl dX10_undo_1 ?_
  refine xr_ifn0 (tgt := 10) hx hb (by decide) dX10_undo_4 (by decide) ?_
  refine lv_bipush (v := (-5)) hx hb dX10_undo_7 (by decide) ?_
  exact W.iret (v := (-5)) hx hb hr (fun t ht hW => ⟨_, rfl, (show (-5) = (-5) from rfl), ht⟩) (fun q h => by cases h) dX10_undo_9
theorem hdV_X9_undo : yX9_undo.cls = RX9 ∧ yX9_undo.cls ≠ "java/lang/invoke/MethodHandle" ∧ yX9_undo.cls ≠ "java/lang/invoke/VarHandle" ∧ (parseMethodDescriptor yX9_undo.desc).map (fun d => d.parameters.length) = some 0 := by decide +kernel
set_option maxHeartbeats 4000000 in
set_option maxRecDepth 100000 in
theorem c_X9_undoe (l : Launch) (dC : Nat → ClassId) (dI : Nat → Nat → Nat) (cI cF cC cZ cQ cS : ClassId) (x0 : Nat) (x0_now : Value) (x0_snapshot : Value) (x0_trial : Value) (y0 : Nat) (x0_filling : Value) (x0_delivery : Value) (x0_text : Value) (x0_textLength : Value) (x0_hasSnapshot : Value) (y0_states : Value) (y0_oldest : Value) : Met l yX9_undo wsX9_undo ({ frames := 0, cells := 0, slots := 0, locals := 0 }) (xPre (dC, dI) vwCl [.ref x0] (xtys cI cF cC cZ cQ cS) [(x0, .inr (9, [x0_now, x0_snapshot, x0_trial, .ref y0, x0_filling, x0_delivery, x0_text, x0_textLength, x0_hasSnapshot])), (y0, .inr (4, [y0_states, y0_oldest, .int (nI 0)]))]) (vp_Si (fun r0 => r0 = (-5))) 0 0 (fun _ => False) := by
  refine Met.ofW (cc := cX9_undo) (maxL := 1) (ret := (some .int)) (by decide) rfl ?_
  intro p e s m args below meth c s₁ B hml hv
  obtain ⟨rfl, hP, hK, hD0, hN⟩ := hv
  have hx := B.exec
  have hb := B.bytes
  have hr := B.returns
  have hts := atoms_spec (ws := wsX9_undo) B.pre
  have hown : s.vm.findClass RX9 = some m.cls := findClass_of_methodNamed B.named
  have hlocks := B.notSynchronized
  have k_209 := hts (Cond.fieldLink RX9 209 "ShelfStages$History" "size" "I") (by decide +kernel)
  have k_25 := hts (Cond.fieldLink RX9 25 "ShelfStages" "history" "LShelfStages$History;") (by decide +kernel)
  have i_X4 : ∀ w ∈ wsX40, w ∈ wsX9_undo := by decide +kernel
  have i_X9 : ∀ w ∈ wsX90, w ∈ wsX9_undo := by decide +kernel
  have hD := hD0
  have hl := lv_entry ([.ref x0]) (n := 1) (Nat.le_of_ble_eq_true rfl)
  rw [lg_entry_eq]
  generalize (lg_sl ([.ref x0]) ++ List.replicate (1 - (lg_sl ([.ref x0])).length) Slot.unset).toArray = ls at hl ⊢
  have hl : lv_has ls 1 [(0, .ref x0)] := hl
  refine lv_aload_n hx hb dX9_undo_0 rfl (lv_at hl 0 rfl) ?_
  refine va_get (D := (dC, dI)) (ci := 9) (v := .ref y0) (C := RX9) (T := TX9) (N := 9) hx hb hts i_X9 hown hK hP 0 rfl rfl 3 (by decide) k_25 (fun _ h9 => h9) rfl dX9_undo_1 ?_
  refine va_get (D := (dC, dI)) (ci := 4) (v := .int (nI 0)) (C := RX4) (T := TX4) (N := 3) hx hb hts i_X4 hown hK hP 1 rfl rfl 2 (by decide) k_209 (fun _ h9 => h9) rfl dX9_undo_4 ?_
  refine xr_ifn0 (tgt := 13) hx hb (by decide) dX9_undo_7 (by decide) ?_
  refine lv_bipush (v := (-5)) hx hb dX9_undo_10 (by decide) ?_
  exact W.iret (v := (-5)) hx hb hr (fun t ht hW => ⟨_, rfl, (show (-5) = (-5) from rfl), ht⟩) (fun q h => by cases h) dX9_undo_12
theorem hdV_X9_restore : yX9_restore.cls = RX9 ∧ yX9_restore.cls ≠ "java/lang/invoke/MethodHandle" ∧ yX9_restore.cls ≠ "java/lang/invoke/VarHandle" ∧ (parseMethodDescriptor yX9_restore.desc).map (fun d => d.parameters.length) = some 0 := by decide +kernel
set_option maxHeartbeats 4000000 in
set_option maxRecDepth 100000 in
theorem c_X9_restoree (l : Launch) (dC : Nat → ClassId) (dI : Nat → Nat → Nat) (cI cF cC cZ cQ cS : ClassId) (x0 : Nat) (x0_now : Value) (x0_snapshot : Value) (x0_trial : Value) (x0_history : Value) (x0_filling : Value) (x0_delivery : Value) (x0_text : Value) (x0_textLength : Value) : Met l yX9_restore wsX9_restore ({ frames := 0, cells := 0, slots := 0, locals := 0 }) (xPre (dC, dI) vwCl [.ref x0] (xtys cI cF cC cZ cQ cS) [(x0, .inr (9, [x0_now, x0_snapshot, x0_trial, x0_history, x0_filling, x0_delivery, x0_text, x0_textLength, .int (nI 0)]))]) (vp_Si (fun r0 => r0 = (-5))) 0 0 (fun _ => False) := by
  refine Met.ofW (cc := cX9_restore) (maxL := 1) (ret := (some .int)) (by decide) rfl ?_
  intro p e s m args below meth c s₁ B hml hv
  obtain ⟨rfl, hP, hK, hD0, hN⟩ := hv
  have hx := B.exec
  have hb := B.bytes
  have hr := B.returns
  have hts := atoms_spec (ws := wsX9_restore) B.pre
  have hown : s.vm.findClass RX9 = some m.cls := findClass_of_methodNamed B.named
  have hlocks := B.notSynchronized
  have k_216 := hts (Cond.fieldLink RX9 216 "ShelfStages" "hasSnapshot" "Z") (by decide +kernel)
  have i_X9 : ∀ w ∈ wsX90, w ∈ wsX9_restore := by decide +kernel
  have hD := hD0
  have hl := lv_entry ([.ref x0]) (n := 1) (Nat.le_of_ble_eq_true rfl)
  rw [lg_entry_eq]
  generalize (lg_sl ([.ref x0]) ++ List.replicate (1 - (lg_sl ([.ref x0])).length) Slot.unset).toArray = ls at hl ⊢
  have hl : lv_has ls 1 [(0, .ref x0)] := hl
  refine lv_aload_n hx hb dX9_restore_0 rfl (lv_at hl 0 rfl) ?_
  refine va_get (D := (dC, dI)) (ci := 9) (v := .int (nI 0)) (C := RX9) (T := TX9) (N := 9) hx hb hts i_X9 hown hK hP 0 rfl rfl 8 (by decide) k_216 (fun _ h9 => h9) rfl dX9_restore_1 ?_
  refine xr_ifn0 (tgt := 10) hx hb (by decide) dX9_restore_4 (by decide) ?_
  refine lv_bipush (v := (-5)) hx hb dX9_restore_7 (by decide) ?_
  exact W.iret (v := (-5)) hx hb hr (fun t ht hW => ⟨_, rfl, (show (-5) = (-5) from rfl), ht⟩) (fun q h => by cases h) dX9_restore_9
theorem hdV_X10_restore : yX10_restore.cls = RX10 ∧ yX10_restore.cls ≠ "java/lang/invoke/MethodHandle" ∧ yX10_restore.cls ≠ "java/lang/invoke/VarHandle" ∧ (parseMethodDescriptor yX10_restore.desc).map (fun d => d.parameters.length) = some 0 := by decide +kernel
set_option maxHeartbeats 4000000 in
set_option maxRecDepth 100000 in
theorem c_X10_restoree (l : Launch) (dC : Nat → ClassId) (dI : Nat → Nat → Nat) (cI cF cC cZ cQ cS : ClassId) (h0 : Nat) (h0_z : Value) (h0_past : Value) (h0_kept : Value) (h0_spare : Value) (h0_pastMany : Value) (h0_text : Value) (h0_typed : Value) (h0_isUsed : Value) (h0_planBatch : Value) (h0_planUnits : Value) (h0_planCents : Value) (h0_planMany : Value) (h0_planGot : Value) (h0_planSubstitutes : Value) (h0_at : Value) (h0_fault : Value) (h0_entries : Value) (h0_entry : Value) : Met l yX10_restore wsX10_restore ({ frames := 0, cells := 0, slots := 0, locals := 0 }) (xPre (dC, dI) vwCl [.ref h0] (xtys cI cF cC cZ cQ cS) [(h0, .inr (10, [h0_z, h0_past, h0_kept, h0_spare, h0_pastMany, .int (nI 0), h0_text, h0_typed, h0_isUsed, h0_planBatch, h0_planUnits, h0_planCents, h0_planMany, h0_planGot, h0_planSubstitutes, h0_at, h0_fault, h0_entries, h0_entry]))]) (vp_Si (fun r0 => r0 = (-5))) 0 0 (fun _ => False) := by
  refine Met.ofW (cc := cX10_restore) (maxL := 2) (ret := (some .int)) (by decide) rfl ?_
  intro p e s m args below meth c s₁ B hml hv
  obtain ⟨rfl, hP, hK, hD0, hN⟩ := hv
  have hx := B.exec
  have hb := B.bytes
  have hr := B.returns
  have hts := atoms_spec (ws := wsX10_restore) B.pre
  have hown : s.vm.findClass RX10 = some m.cls := findClass_of_methodNamed B.named
  have hlocks := B.notSynchronized
  have k_49 := hts (Cond.fieldLink RX10 49 "ShelfStagesModel" "isKept" "Z") (by decide +kernel)
  have i_X10 : ∀ w ∈ wsX100, w ∈ wsX10_restore := by decide +kernel
  have hD := hD0
  have hl := lv_entry ([.ref h0]) (n := 2) (Nat.le_of_ble_eq_true rfl)
  rw [lg_entry_eq]
  generalize (lg_sl ([.ref h0]) ++ List.replicate (2 - (lg_sl ([.ref h0])).length) Slot.unset).toArray = ls at hl ⊢
  have hl : lv_has ls 2 [(0, .ref h0)] := hl
  refine lv_aload_n hx hb dX10_restore_0 rfl (lv_at hl 0 rfl) ?_
  refine va_get (D := (dC, dI)) (ci := 10) (v := .int (nI 0)) (C := RX10) (T := TX10) (N := 19) hx hb hts i_X10 hown hK hP 0 rfl rfl 5 (by decide) k_49 (fun _ h9 => h9) rfl dX10_restore_1 ?_
  refine xr_ifn0 (tgt := 10) hx hb (by decide) dX10_restore_4 (by decide) ?_
  refine lv_bipush (v := (-5)) hx hb dX10_restore_7 (by decide) ?_
  exact W.iret (v := (-5)) hx hb hr (fun t ht hW => ⟨_, rfl, (show (-5) = (-5) from rfl), ht⟩) (fun q h => by cases h) dX10_restore_9
theorem hdV_X9_type : yX9_type.cls = RX9 ∧ yX9_type.cls ≠ "java/lang/invoke/MethodHandle" ∧ yX9_type.cls ≠ "java/lang/invoke/VarHandle" ∧ (parseMethodDescriptor yX9_type.desc).map (fun d => d.parameters.length) = some 1 := by decide +kernel
set_option maxHeartbeats 4000000 in
set_option maxRecDepth 100000 in
theorem c_X9_typee (l : Launch) (dC : Nat → ClassId) (dI : Nat → Nat → Nat) (cI cF cC cZ cQ cS : ClassId) (x0 : Nat) (x0_now : Value) (x0_snapshot : Value) (x0_trial : Value) (x0_history : Value) (x0_filling : Value) (x0_delivery : Value) (tq : Nat) (x0_hasSnapshot : Value) (text : Nat → Int32) (tl : Nat) (ch : Int32) (htl : tl = 60) : Met l yX9_type wsX9_type ({ frames := 0, cells := 0, slots := 0, locals := 0 }) (xPre (dC, dI) vwCl [.ref x0, .int ch] (xtys cI cF cC cZ cQ cS) [(x0, .inr (9, [x0_now, x0_snapshot, x0_trial, x0_history, x0_filling, x0_delivery, .ref tq, .int (nI tl), x0_hasSnapshot])), (tq, .inl (cC, 60, .inl text))]) (vp_Si (fun r0 => r0 = (-3))) 0 0 (fun _ => False) := by
  refine Met.ofW (cc := cX9_type) (maxL := 2) (ret := (some .int)) (by decide) rfl ?_
  intro p e s m args below meth c s₁ B hml hv
  obtain ⟨rfl, hP, hK, hD0, hN⟩ := hv
  have hx := B.exec
  have hb := B.bytes
  have hr := B.returns
  have hts := atoms_spec (ws := wsX9_type) B.pre
  have hown : s.vm.findClass RX9 = some m.cls := findClass_of_methodNamed B.named
  have hlocks := B.notSynchronized
  have k_140 := hts (Cond.fieldLink RX9 140 "ShelfStages" "textLength" "I") (by decide +kernel)
  have i_X9 : ∀ w ∈ wsX90, w ∈ wsX9_type := by decide +kernel
  have hD := hD0
  have hl := lv_entry ([.ref x0, .int ch]) (n := 2) (Nat.le_of_ble_eq_true rfl)
  rw [lg_entry_eq]
  generalize (lg_sl ([.ref x0, .int ch]) ++ List.replicate (2 - (lg_sl ([.ref x0, .int ch])).length) Slot.unset).toArray = ls at hl ⊢
  have hl : lv_has ls 2 [(0, .ref x0), (1, .int ch)] := hl
  refine lv_aload_n hx hb dX9_type_0 rfl (lv_at hl 0 rfl) ?_
  refine va_get (D := (dC, dI)) (ci := 9) (v := .int (nI tl)) (C := RX9) (T := TX9) (N := 9) hx hb hts i_X9 hown hK hP 0 rfl rfl 7 (by decide) k_140 (fun _ h9 => h9) rfl dX9_type_1 ?_
  refine lv_bipush (v := nI 60) hx hb dX9_type_4 (by decide) ?_
  refine xr_lt_n (tgt := 12) hx hb (by omega) (by omega) dX9_type_6 (by decide) (fun c_1 => False.elim (by omega)) (fun c_1 => ?_)
  refine lv_bipush (v := (-3)) hx hb dX9_type_9 (by decide) ?_
  exact W.iret (v := (-3)) hx hb hr (fun t ht hW => ⟨_, rfl, (show (-3) = (-3) from rfl), ht⟩) (fun q h => by cases h) dX9_type_11
theorem hdV_X10_type : yX10_type.cls = RX10 ∧ yX10_type.cls ≠ "java/lang/invoke/MethodHandle" ∧ yX10_type.cls ≠ "java/lang/invoke/VarHandle" ∧ (parseMethodDescriptor yX10_type.desc).map (fun d => d.parameters.length) = some 1 := by decide +kernel
set_option maxHeartbeats 4000000 in
set_option maxRecDepth 100000 in
theorem c_X10_typee (l : Launch) (dC : Nat → ClassId) (dI : Nat → Nat → Nat) (cI cF cC cZ cQ cS : ClassId) (h0 : Nat) (h0_z : Value) (h0_past : Value) (h0_kept : Value) (h0_spare : Value) (h0_pastMany : Value) (h0_isKept : Value) (tq : Nat) (h0_isUsed : Value) (h0_planBatch : Value) (h0_planUnits : Value) (h0_planCents : Value) (h0_planMany : Value) (h0_planGot : Value) (h0_planSubstitutes : Value) (h0_at : Value) (h0_fault : Value) (h0_entries : Value) (h0_entry : Value) (text : Nat → Int32) (tl : Nat) (ch : Int32) (htl : tl = 60) : Met l yX10_type wsX10_type ({ frames := 0, cells := 0, slots := 0, locals := 0 }) (xPre (dC, dI) vwCl [.ref h0, .int ch] (xtys cI cF cC cZ cQ cS) [(h0, .inr (10, [h0_z, h0_past, h0_kept, h0_spare, h0_pastMany, h0_isKept, .ref tq, .int (nI tl), h0_isUsed, h0_planBatch, h0_planUnits, h0_planCents, h0_planMany, h0_planGot, h0_planSubstitutes, h0_at, h0_fault, h0_entries, h0_entry])), (tq, .inl (cC, 60, .inl text))]) (vp_Si (fun r0 => r0 = (-3))) 0 0 (fun _ => False) := by
  refine Met.ofW (cc := cX10_type) (maxL := 2) (ret := (some .int)) (by decide) rfl ?_
  intro p e s m args below meth c s₁ B hml hv
  obtain ⟨rfl, hP, hK, hD0, hN⟩ := hv
  have hx := B.exec
  have hb := B.bytes
  have hr := B.returns
  have hts := atoms_spec (ws := wsX10_type) B.pre
  have hown : s.vm.findClass RX10 = some m.cls := findClass_of_methodNamed B.named
  have hlocks := B.notSynchronized
  have k_154 := hts (Cond.fieldLink RX10 154 "ShelfStagesModel" "typed" "I") (by decide +kernel)
  have i_X10 : ∀ w ∈ wsX100, w ∈ wsX10_type := by decide +kernel
  have hD := hD0
  have hl := lv_entry ([.ref h0, .int ch]) (n := 2) (Nat.le_of_ble_eq_true rfl)
  rw [lg_entry_eq]
  generalize (lg_sl ([.ref h0, .int ch]) ++ List.replicate (2 - (lg_sl ([.ref h0, .int ch])).length) Slot.unset).toArray = ls at hl ⊢
  have hl : lv_has ls 2 [(0, .ref h0), (1, .int ch)] := hl
  refine lv_aload_n hx hb dX10_type_0 rfl (lv_at hl 0 rfl) ?_
  refine va_get (D := (dC, dI)) (ci := 10) (v := .int (nI tl)) (C := RX10) (T := TX10) (N := 19) hx hb hts i_X10 hown hK hP 0 rfl rfl 7 (by decide) k_154 (fun _ h9 => h9) rfl dX10_type_1 ?_
  refine lv_bipush (v := nI 60) hx hb dX10_type_4 (by decide) ?_
  refine xr_ne_n (tgt := 12) hx hb (by omega) (by omega) dX10_type_6 (by decide) (fun c_1 => False.elim (by exact c_1 htl)) (fun c_1 => ?_)
  refine lv_bipush (v := (-3)) hx hb dX10_type_9 (by decide) ?_
  exact W.iret (v := (-3)) hx hb hr (fun t ht hW => ⟨_, rfl, (show (-3) = (-3) from rfl), ht⟩) (fun q h => by cases h) dX10_type_11
set_option maxHeartbeats 4000000 in
set_option maxRecDepth 100000 in
theorem c_X9_types (l : Launch) (dC : Nat → ClassId) (dI : Nat → Nat → Nat) (cI cF cC cZ cQ cS : ClassId) (x0 : Nat) (x0_now : Value) (x0_snapshot : Value) (x0_trial : Value) (x0_history : Value) (x0_filling : Value) (x0_delivery : Value) (tq : Nat) (x0_hasSnapshot : Value) (text : Nat → Int32) (tl : Nat) (ch : Int32) (htl : tl < 60) (hch : vp_nar .char ch = ch) : Met l yX9_type wsX9_type ({ frames := 0, cells := 0, slots := 0, locals := 0 }) (xPre (dC, dI) vwCl [.ref x0, .int ch] (xtys cI cF cC cZ cQ cS) [(x0, .inr (9, [x0_now, x0_snapshot, x0_trial, x0_history, x0_filling, x0_delivery, .ref tq, .int (nI tl), x0_hasSnapshot])), (tq, .inl (cC, 60, .inl text))]) (xWi (dC, dI) vwCl [(x0, .inr (9, [x0_now, x0_snapshot, x0_trial, x0_history, x0_filling, x0_delivery, .ref tq, .int (nI tl), x0_hasSnapshot])), (tq, .inl (cC, 60, .inl text))] (fun r0 w0 => r0 = nI (tl + 1) ∧ w0 = [(x0, .inr (9, [x0_now, x0_snapshot, x0_trial, x0_history, x0_filling, x0_delivery, .ref tq, .int (nI (tl + 1)), x0_hasSnapshot])), (tq, .inl (cC, 60, .inl (upd text tl ch)))])) 0 0 (va_B [(x0, .inr (9, [x0_now, x0_snapshot, x0_trial, x0_history, x0_filling, x0_delivery, .ref tq, .int (nI tl), x0_hasSnapshot])), (tq, .inl (cC, 60, .inl text))]) := by
  refine Met.ofW (cc := cX9_type) (maxL := 2) (ret := (some .int)) (by decide) rfl ?_
  intro p e s m args below meth c s₁ B hml hv
  obtain ⟨rfl, hP, hK, hD0, hN⟩ := hv
  have hx := B.exec
  have hb := B.bytes
  have hr := B.returns
  have hts := atoms_spec (ws := wsX9_type) B.pre
  have hown : s.vm.findClass RX9 = some m.cls := findClass_of_methodNamed B.named
  have hlocks := B.notSynchronized
  have k_140 := hts (Cond.fieldLink RX9 140 "ShelfStages" "textLength" "I") (by decide +kernel)
  have k_43 := hts (Cond.fieldLink RX9 43 "ShelfStages" "text" "[C") (by decide +kernel)
  have i_X9 : ∀ w ∈ wsX90, w ∈ wsX9_type := by decide +kernel
  obtain ⟨A, hA⟩ : ∃ A, A = va_B [(x0, .inr (9, [x0_now, x0_snapshot, x0_trial, x0_history, x0_filling, x0_delivery, .ref tq, .int (nI tl), x0_hasSnapshot])), (tq, .inl (cC, 60, .inl text))] := ⟨_, rfl⟩
  have hD : va_D A [(x0, .inr (9, [x0_now, x0_snapshot, x0_trial, x0_history, x0_filling, x0_delivery, .ref tq, .int (nI tl), x0_hasSnapshot])), (tq, .inl (cC, 60, .inl text))] := hA ▸ hD0.own
  have hS : va_S A s.heap s.heap [] := va_S.rf
  have hl := lv_entry ([.ref x0, .int ch]) (n := 2) (Nat.le_of_ble_eq_true rfl)
  rw [lg_entry_eq]
  generalize (lg_sl ([.ref x0, .int ch]) ++ List.replicate (2 - (lg_sl ([.ref x0, .int ch])).length) Slot.unset).toArray = ls at hl ⊢
  have hl : lv_has ls 2 [(0, .ref x0), (1, .int ch)] := hl
  refine lv_aload_n hx hb dX9_type_0 rfl (lv_at hl 0 rfl) ?_
  refine va_get (D := (dC, dI)) (ci := 9) (v := .int (nI tl)) (C := RX9) (T := TX9) (N := 9) hx hb hts i_X9 hown hK hP 0 rfl rfl 7 (by decide) k_140 (fun _ h9 => h9) rfl dX9_type_1 ?_
  refine lv_bipush (v := nI 60) hx hb dX9_type_4 (by decide) ?_
  refine xr_lt_n (tgt := 12) hx hb (by omega) (by omega) dX9_type_6 (by decide) (fun c_1 => ?_) (fun c_1 => False.elim (by omega))
  refine lv_aload_n hx hb dX9_type_12 rfl (lv_at hl 0 rfl) ?_
  refine va_get (D := (dC, dI)) (ci := 9) (v := .ref tq) (C := RX9) (T := TX9) (N := 9) hx hb hts i_X9 hown hK hP 0 rfl rfl 6 (by decide) k_43 (fun _ h9 => h9) rfl dX9_type_13 ?_
  refine lv_aload_n hx hb dX9_type_16 rfl (lv_at hl 0 rfl) ?_
  refine va_get (D := (dC, dI)) (ci := 9) (v := .int (nI tl)) (C := RX9) (T := TX9) (N := 9) hx hb hts i_X9 hown hK hP 0 rfl rfl 7 (by decide) k_140 (fun _ h9 => h9) rfl dX9_type_17 ?_
  refine lv_iload_n hx hb dX9_type_20 rfl (lv_at hl 1 rfl) ?_
  refine xr_cast hx hb hK hP hD hS 1 2 rfl rfl (i := tl) (by omega) (by decide) (y := ch) hch dX9_type_21 (fun H locs hP hD hS => ?_)
  have hP : va_P (dC, dI) vwCl [(x0, .inr (9, [x0_now, x0_snapshot, x0_trial, x0_history, x0_filling, x0_delivery, .ref tq, .int (nI tl), x0_hasSnapshot])), (tq, .inl (cC, 60, .inl (upd text tl ch)))] H := hP
  have hD : va_D A [(x0, .inr (9, [x0_now, x0_snapshot, x0_trial, x0_history, x0_filling, x0_delivery, .ref tq, .int (nI tl), x0_hasSnapshot])), (tq, .inl (cC, 60, .inl (upd text tl ch)))] := hD
  refine lv_aload_n hx hb dX9_type_22 rfl (lv_at hl 0 rfl) ?_
  refine lv_dup hx hb dX9_type_23 rfl ?_
  refine va_get (D := (dC, dI)) (ci := 9) (v := .int (nI tl)) (C := RX9) (T := TX9) (N := 9) hx hb hts i_X9 hown hK hP 0 rfl rfl 7 (by decide) k_140 (fun _ h9 => h9) rfl dX9_type_24 ?_
  refine lv_iconst (v := nI 1) hx hb dX9_type_27 (by decide) ?_
  refine xr_iadd_n hx hb dX9_type_28 ?_
  refine va_put (D := (dC, dI)) (ci := 9) (v := .int (nI (tl + 1))) (ty := .int) (C := RX9) (T := TX9) (N := 9) hx hb hts i_X9 tyX9 tyX9_ok nmX9 hown hK hP hD hS 0 rfl rfl 7 (by decide) k_140 (fun _ h9 => h9) rfl (by decide +kernel) rfl rfl (Nat.le_of_ble_eq_true rfl) dX9_type_29 (fun H locs hP hD hS => ?_)
  have hP : va_P (dC, dI) vwCl [(x0, .inr (9, [x0_now, x0_snapshot, x0_trial, x0_history, x0_filling, x0_delivery, .ref tq, .int (nI (tl + 1)), x0_hasSnapshot])), (tq, .inl (cC, 60, .inl (upd text tl ch)))] H := hP
  have hD : va_D A [(x0, .inr (9, [x0_now, x0_snapshot, x0_trial, x0_history, x0_filling, x0_delivery, .ref tq, .int (nI (tl + 1)), x0_hasSnapshot])), (tq, .inl (cC, 60, .inl (upd text tl ch)))] := hD
  refine lv_aload_n hx hb dX9_type_32 rfl (lv_at hl 0 rfl) ?_
  refine va_get (D := (dC, dI)) (ci := 9) (v := .int (nI (tl + 1))) (C := RX9) (T := TX9) (N := 9) hx hb hts i_X9 hown hK hP 0 rfl rfl 7 (by decide) k_140 (fun _ h9 => h9) rfl dX9_type_33 ?_
  have hP9 : va_P (dC, dI) vwCl [(x0, .inr (9, [x0_now, x0_snapshot, x0_trial, x0_history, x0_filling, x0_delivery, .ref tq, .int (nI (tl + 1)), x0_hasSnapshot])), (tq, .inl (cC, 60, .inl (upd text tl ch)))] H := hP
  have hS9 : va_S (va_B [(x0, .inr (9, [x0_now, x0_snapshot, x0_trial, x0_history, x0_filling, x0_delivery, .ref tq, .int (nI tl), x0_hasSnapshot])), (tq, .inl (cC, 60, .inl text))]) s.heap H locs := by rw [← hA]; exact hS
  exact W.iret (v := nI (tl + 1)) hx hb hr (fun t ht hW => ⟨⟨_, _, rfl, ⟨(show nI (tl + 1) = nI (tl + 1) from rfl), rfl⟩, by rw [ht]; exact hP9⟩, hS9.X ht⟩) hS9.2.2 dX9_type_36
set_option maxHeartbeats 4000000 in
set_option maxRecDepth 100000 in
theorem c_X10_types (l : Launch) (dC : Nat → ClassId) (dI : Nat → Nat → Nat) (cI cF cC cZ cQ cS : ClassId) (h0 : Nat) (h0_z : Value) (h0_past : Value) (h0_kept : Value) (h0_spare : Value) (h0_pastMany : Value) (h0_isKept : Value) (tq : Nat) (h0_isUsed : Value) (h0_planBatch : Value) (h0_planUnits : Value) (h0_planCents : Value) (h0_planMany : Value) (h0_planGot : Value) (h0_planSubstitutes : Value) (h0_at : Value) (h0_fault : Value) (h0_entries : Value) (h0_entry : Value) (text : Nat → Int32) (tl : Nat) (ch : Int32) (htl : tl < 60) (hch : vp_nar .char ch = ch) : Met l yX10_type wsX10_type ({ frames := 0, cells := 0, slots := 0, locals := 0 }) (xPre (dC, dI) vwCl [.ref h0, .int ch] (xtys cI cF cC cZ cQ cS) [(h0, .inr (10, [h0_z, h0_past, h0_kept, h0_spare, h0_pastMany, h0_isKept, .ref tq, .int (nI tl), h0_isUsed, h0_planBatch, h0_planUnits, h0_planCents, h0_planMany, h0_planGot, h0_planSubstitutes, h0_at, h0_fault, h0_entries, h0_entry])), (tq, .inl (cC, 60, .inl text))]) (xWi (dC, dI) vwCl [(h0, .inr (10, [h0_z, h0_past, h0_kept, h0_spare, h0_pastMany, h0_isKept, .ref tq, .int (nI tl), h0_isUsed, h0_planBatch, h0_planUnits, h0_planCents, h0_planMany, h0_planGot, h0_planSubstitutes, h0_at, h0_fault, h0_entries, h0_entry])), (tq, .inl (cC, 60, .inl text))] (fun r0 w0 => r0 = nI (tl + 1) ∧ w0 = [(h0, .inr (10, [h0_z, h0_past, h0_kept, h0_spare, h0_pastMany, h0_isKept, .ref tq, .int (nI (tl + 1)), h0_isUsed, h0_planBatch, h0_planUnits, h0_planCents, h0_planMany, h0_planGot, h0_planSubstitutes, h0_at, h0_fault, h0_entries, h0_entry])), (tq, .inl (cC, 60, .inl (upd text tl ch)))])) 0 0 (va_B [(h0, .inr (10, [h0_z, h0_past, h0_kept, h0_spare, h0_pastMany, h0_isKept, .ref tq, .int (nI tl), h0_isUsed, h0_planBatch, h0_planUnits, h0_planCents, h0_planMany, h0_planGot, h0_planSubstitutes, h0_at, h0_fault, h0_entries, h0_entry])), (tq, .inl (cC, 60, .inl text))]) := by
  refine Met.ofW (cc := cX10_type) (maxL := 2) (ret := (some .int)) (by decide) rfl ?_
  intro p e s m args below meth c s₁ B hml hv
  obtain ⟨rfl, hP, hK, hD0, hN⟩ := hv
  have hx := B.exec
  have hb := B.bytes
  have hr := B.returns
  have hts := atoms_spec (ws := wsX10_type) B.pre
  have hown : s.vm.findClass RX10 = some m.cls := findClass_of_methodNamed B.named
  have hlocks := B.notSynchronized
  have k_154 := hts (Cond.fieldLink RX10 154 "ShelfStagesModel" "typed" "I") (by decide +kernel)
  have k_22 := hts (Cond.fieldLink RX10 22 "ShelfStagesModel" "text" "[C") (by decide +kernel)
  have i_X10 : ∀ w ∈ wsX100, w ∈ wsX10_type := by decide +kernel
  obtain ⟨A, hA⟩ : ∃ A, A = va_B [(h0, .inr (10, [h0_z, h0_past, h0_kept, h0_spare, h0_pastMany, h0_isKept, .ref tq, .int (nI tl), h0_isUsed, h0_planBatch, h0_planUnits, h0_planCents, h0_planMany, h0_planGot, h0_planSubstitutes, h0_at, h0_fault, h0_entries, h0_entry])), (tq, .inl (cC, 60, .inl text))] := ⟨_, rfl⟩
  have hD : va_D A [(h0, .inr (10, [h0_z, h0_past, h0_kept, h0_spare, h0_pastMany, h0_isKept, .ref tq, .int (nI tl), h0_isUsed, h0_planBatch, h0_planUnits, h0_planCents, h0_planMany, h0_planGot, h0_planSubstitutes, h0_at, h0_fault, h0_entries, h0_entry])), (tq, .inl (cC, 60, .inl text))] := hA ▸ hD0.own
  have hS : va_S A s.heap s.heap [] := va_S.rf
  have hl := lv_entry ([.ref h0, .int ch]) (n := 2) (Nat.le_of_ble_eq_true rfl)
  rw [lg_entry_eq]
  generalize (lg_sl ([.ref h0, .int ch]) ++ List.replicate (2 - (lg_sl ([.ref h0, .int ch])).length) Slot.unset).toArray = ls at hl ⊢
  have hl : lv_has ls 2 [(0, .ref h0), (1, .int ch)] := hl
  refine lv_aload_n hx hb dX10_type_0 rfl (lv_at hl 0 rfl) ?_
  refine va_get (D := (dC, dI)) (ci := 10) (v := .int (nI tl)) (C := RX10) (T := TX10) (N := 19) hx hb hts i_X10 hown hK hP 0 rfl rfl 7 (by decide) k_154 (fun _ h9 => h9) rfl dX10_type_1 ?_
  refine lv_bipush (v := nI 60) hx hb dX10_type_4 (by decide) ?_
  refine xr_ne_n (tgt := 12) hx hb (by omega) (by omega) dX10_type_6 (by decide) (fun c_1 => ?_) (fun c_1 => False.elim (by omega))
  refine lv_aload_n hx hb dX10_type_12 rfl (lv_at hl 0 rfl) ?_
  refine va_get (D := (dC, dI)) (ci := 10) (v := .ref tq) (C := RX10) (T := TX10) (N := 19) hx hb hts i_X10 hown hK hP 0 rfl rfl 6 (by decide) k_22 (fun _ h9 => h9) rfl dX10_type_13 ?_
  refine lv_aload_n hx hb dX10_type_16 rfl (lv_at hl 0 rfl) ?_
  refine va_get (D := (dC, dI)) (ci := 10) (v := .int (nI tl)) (C := RX10) (T := TX10) (N := 19) hx hb hts i_X10 hown hK hP 0 rfl rfl 7 (by decide) k_154 (fun _ h9 => h9) rfl dX10_type_17 ?_
  refine lv_iload_n hx hb dX10_type_20 rfl (lv_at hl 1 rfl) ?_
  refine xr_cast hx hb hK hP hD hS 1 2 rfl rfl (i := tl) (by omega) (by decide) (y := ch) hch dX10_type_21 (fun H locs hP hD hS => ?_)
  have hP : va_P (dC, dI) vwCl [(h0, .inr (10, [h0_z, h0_past, h0_kept, h0_spare, h0_pastMany, h0_isKept, .ref tq, .int (nI tl), h0_isUsed, h0_planBatch, h0_planUnits, h0_planCents, h0_planMany, h0_planGot, h0_planSubstitutes, h0_at, h0_fault, h0_entries, h0_entry])), (tq, .inl (cC, 60, .inl (upd text tl ch)))] H := hP
  have hD : va_D A [(h0, .inr (10, [h0_z, h0_past, h0_kept, h0_spare, h0_pastMany, h0_isKept, .ref tq, .int (nI tl), h0_isUsed, h0_planBatch, h0_planUnits, h0_planCents, h0_planMany, h0_planGot, h0_planSubstitutes, h0_at, h0_fault, h0_entries, h0_entry])), (tq, .inl (cC, 60, .inl (upd text tl ch)))] := hD
  refine lv_aload_n hx hb dX10_type_22 rfl (lv_at hl 0 rfl) ?_
  refine lv_dup hx hb dX10_type_23 rfl ?_
  refine va_get (D := (dC, dI)) (ci := 10) (v := .int (nI tl)) (C := RX10) (T := TX10) (N := 19) hx hb hts i_X10 hown hK hP 0 rfl rfl 7 (by decide) k_154 (fun _ h9 => h9) rfl dX10_type_24 ?_
  refine lv_iconst (v := nI 1) hx hb dX10_type_27 (by decide) ?_
  refine xr_iadd_n hx hb dX10_type_28 ?_
  refine va_put (D := (dC, dI)) (ci := 10) (v := .int (nI (tl + 1))) (ty := .int) (C := RX10) (T := TX10) (N := 19) hx hb hts i_X10 tyX10 tyX10_ok nmX10 hown hK hP hD hS 0 rfl rfl 7 (by decide) k_154 (fun _ h9 => h9) rfl (by decide +kernel) rfl rfl (Nat.le_of_ble_eq_true rfl) dX10_type_29 (fun H locs hP hD hS => ?_)
  have hP : va_P (dC, dI) vwCl [(h0, .inr (10, [h0_z, h0_past, h0_kept, h0_spare, h0_pastMany, h0_isKept, .ref tq, .int (nI (tl + 1)), h0_isUsed, h0_planBatch, h0_planUnits, h0_planCents, h0_planMany, h0_planGot, h0_planSubstitutes, h0_at, h0_fault, h0_entries, h0_entry])), (tq, .inl (cC, 60, .inl (upd text tl ch)))] H := hP
  have hD : va_D A [(h0, .inr (10, [h0_z, h0_past, h0_kept, h0_spare, h0_pastMany, h0_isKept, .ref tq, .int (nI (tl + 1)), h0_isUsed, h0_planBatch, h0_planUnits, h0_planCents, h0_planMany, h0_planGot, h0_planSubstitutes, h0_at, h0_fault, h0_entries, h0_entry])), (tq, .inl (cC, 60, .inl (upd text tl ch)))] := hD
  refine lv_aload_n hx hb dX10_type_32 rfl (lv_at hl 0 rfl) ?_
  refine va_get (D := (dC, dI)) (ci := 10) (v := .int (nI (tl + 1))) (C := RX10) (T := TX10) (N := 19) hx hb hts i_X10 hown hK hP 0 rfl rfl 7 (by decide) k_154 (fun _ h9 => h9) rfl dX10_type_33 ?_
  have hP9 : va_P (dC, dI) vwCl [(h0, .inr (10, [h0_z, h0_past, h0_kept, h0_spare, h0_pastMany, h0_isKept, .ref tq, .int (nI (tl + 1)), h0_isUsed, h0_planBatch, h0_planUnits, h0_planCents, h0_planMany, h0_planGot, h0_planSubstitutes, h0_at, h0_fault, h0_entries, h0_entry])), (tq, .inl (cC, 60, .inl (upd text tl ch)))] H := hP
  have hS9 : va_S (va_B [(h0, .inr (10, [h0_z, h0_past, h0_kept, h0_spare, h0_pastMany, h0_isKept, .ref tq, .int (nI tl), h0_isUsed, h0_planBatch, h0_planUnits, h0_planCents, h0_planMany, h0_planGot, h0_planSubstitutes, h0_at, h0_fault, h0_entries, h0_entry])), (tq, .inl (cC, 60, .inl text))]) s.heap H locs := by rw [← hA]; exact hS
  exact W.iret (v := nI (tl + 1)) hx hb hr (fun t ht hW => ⟨⟨_, _, rfl, ⟨(show nI (tl + 1) = nI (tl + 1) from rfl), rfl⟩, by rw [ht]; exact hP9⟩, hS9.X ht⟩) hS9.2.2 dX10_type_36
theorem hdV_X10_keep : yX10_keep.cls = RX10 ∧ yX10_keep.cls ≠ "java/lang/invoke/MethodHandle" ∧ yX10_keep.cls ≠ "java/lang/invoke/VarHandle" ∧ (parseMethodDescriptor yX10_keep.desc).map (fun d => d.parameters.length) = some 0 := by decide +kernel
set_option maxHeartbeats 4000000 in
set_option maxRecDepth 100000 in
theorem c_X10_keep (l : Launch) (dC : Nat → ClassId) (dI : Nat → Nat → Nat) (cI cF cC cZ cQ cS : ClassId) (h0 : Nat) (zq : Nat) (h0_past : Value) (yq : Nat) (h0_spare : Value) (h0_pastMany : Value) (h0_isKept : Value) (h0_text : Value) (h0_typed : Value) (h0_isUsed : Value) (h0_planBatch : Value) (h0_planUnits : Value) (h0_planCents : Value) (h0_planMany : Value) (h0_planGot : Value) (h0_planSubstitutes : Value) (h0_at : Value) (h0_fault : Value) (h0_entries : Value) (h0_entry : Value) (z : Nat → Int32) (kept : Nat → Int32) : Met l yX10_keep wsX10_keep ({ frames := 0, cells := 0, slots := 0, locals := 0 }) (xPre (dC, dI) vwCl [.ref h0] (xtys cI cF cC cZ cQ cS) [(h0, .inr (10, [.ref zq, h0_past, .ref yq, h0_spare, h0_pastMany, h0_isKept, h0_text, h0_typed, h0_isUsed, h0_planBatch, h0_planUnits, h0_planCents, h0_planMany, h0_planGot, h0_planSubstitutes, h0_at, h0_fault, h0_entries, h0_entry])), (zq, .inl (cI, 1002, .inl z)), (yq, .inl (cI, 1002, .inl kept))]) (xWi (dC, dI) vwCl [(h0, .inr (10, [.ref zq, h0_past, .ref yq, h0_spare, h0_pastMany, h0_isKept, h0_text, h0_typed, h0_isUsed, h0_planBatch, h0_planUnits, h0_planCents, h0_planMany, h0_planGot, h0_planSubstitutes, h0_at, h0_fault, h0_entries, h0_entry])), (zq, .inl (cI, 1002, .inl z)), (yq, .inl (cI, 1002, .inl kept))] (fun r0 w0 => r0 = z 0 ∧ w0 = [(h0, .inr (10, [.ref zq, h0_past, .ref yq, h0_spare, h0_pastMany, .int (nI 1), h0_text, h0_typed, h0_isUsed, h0_planBatch, h0_planUnits, h0_planCents, h0_planMany, h0_planGot, h0_planSubstitutes, h0_at, h0_fault, h0_entries, h0_entry])), (zq, .inl (cI, 1002, .inl z)), (yq, .inl (cI, 1002, .inl (zcp z kept 1002)))])) 0 0 (va_B [(h0, .inr (10, [.ref zq, h0_past, .ref yq, h0_spare, h0_pastMany, h0_isKept, h0_text, h0_typed, h0_isUsed, h0_planBatch, h0_planUnits, h0_planCents, h0_planMany, h0_planGot, h0_planSubstitutes, h0_at, h0_fault, h0_entries, h0_entry])), (zq, .inl (cI, 1002, .inl z)), (yq, .inl (cI, 1002, .inl kept))]) := by
  refine Met.ofW (cc := cX10_keep) (maxL := 2) (ret := (some .int)) (by decide) rfl ?_
  intro p e s m args below meth c s₁ B hml hv
  obtain ⟨rfl, hP, hK, hD0, hN⟩ := hv
  have hx := B.exec
  have hb := B.bytes
  have hr := B.returns
  have hts := atoms_spec (ws := wsX10_keep) B.pre
  have hown : s.vm.findClass RX10 = some m.cls := findClass_of_methodNamed B.named
  have hlocks := B.notSynchronized
  have k_16 := hts (Cond.fieldLink RX10 16 "ShelfStagesModel" "kept" "[I") (by decide +kernel)
  have k_49 := hts (Cond.fieldLink RX10 49 "ShelfStagesModel" "isKept" "Z") (by decide +kernel)
  have k_7 := hts (Cond.fieldLink RX10 7 "ShelfStagesModel" "z" "[I") (by decide +kernel)
  have i_X10 : ∀ w ∈ wsX100, w ∈ wsX10_keep := by decide +kernel
  obtain ⟨A, hA⟩ : ∃ A, A = va_B [(h0, .inr (10, [.ref zq, h0_past, .ref yq, h0_spare, h0_pastMany, h0_isKept, h0_text, h0_typed, h0_isUsed, h0_planBatch, h0_planUnits, h0_planCents, h0_planMany, h0_planGot, h0_planSubstitutes, h0_at, h0_fault, h0_entries, h0_entry])), (zq, .inl (cI, 1002, .inl z)), (yq, .inl (cI, 1002, .inl kept))] := ⟨_, rfl⟩
  have hD : va_D A [(h0, .inr (10, [.ref zq, h0_past, .ref yq, h0_spare, h0_pastMany, h0_isKept, h0_text, h0_typed, h0_isUsed, h0_planBatch, h0_planUnits, h0_planCents, h0_planMany, h0_planGot, h0_planSubstitutes, h0_at, h0_fault, h0_entries, h0_entry])), (zq, .inl (cI, 1002, .inl z)), (yq, .inl (cI, 1002, .inl kept))] := hA ▸ hD0.own
  have hS : va_S A s.heap s.heap [] := va_S.rf
  have hl := lv_entry ([.ref h0]) (n := 2) (Nat.le_of_ble_eq_true rfl)
  rw [lg_entry_eq]
  generalize (lg_sl ([.ref h0]) ++ List.replicate (2 - (lg_sl ([.ref h0])).length) Slot.unset).toArray = ls at hl ⊢
  have hl : lv_has ls 2 [(0, .ref h0)] := hl
  refine lv_aload_n hx hb dX10_keep_0 rfl (lv_at hl 0 rfl) ?_
  refine lv_iconst (v := nI 1) hx hb dX10_keep_1 (by decide) ?_
  refine va_put (D := (dC, dI)) (ci := 10) (v := .int (nI 1)) (ty := .boolean) (C := RX10) (T := TX10) (N := 19) hx hb hts i_X10 tyX10 tyX10_ok nmX10 hown hK hP hD hS 0 rfl rfl 5 (by decide) k_49 (fun _ h9 => h9) rfl (by decide +kernel) rfl rfl (Nat.le_of_ble_eq_true rfl) dX10_keep_2 (fun H locs hP hD hS => ?_)
  have hP : va_P (dC, dI) vwCl [(h0, .inr (10, [.ref zq, h0_past, .ref yq, h0_spare, h0_pastMany, .int (nI 1), h0_text, h0_typed, h0_isUsed, h0_planBatch, h0_planUnits, h0_planCents, h0_planMany, h0_planGot, h0_planSubstitutes, h0_at, h0_fault, h0_entries, h0_entry])), (zq, .inl (cI, 1002, .inl z)), (yq, .inl (cI, 1002, .inl kept))] H := hP
  have hD : va_D A [(h0, .inr (10, [.ref zq, h0_past, .ref yq, h0_spare, h0_pastMany, .int (nI 1), h0_text, h0_typed, h0_isUsed, h0_planBatch, h0_planUnits, h0_planCents, h0_planMany, h0_planGot, h0_planSubstitutes, h0_at, h0_fault, h0_entries, h0_entry])), (zq, .inl (cI, 1002, .inl z)), (yq, .inl (cI, 1002, .inl kept))] := hD
  refine lv_iconst (v := nI 0) hx hb dX10_keep_5 (by decide) ?_
  refine lv_istore_n (lv' := [(1, .int (nI 0)), (0, .ref h0)]) hx hb dX10_keep_6 rfl hl (by decide) rfl (fun ls hl => ?_)
  refine xr_loop (J := Nat) (fun n0 H locs g => ∃ (k : Nat) (lf : Nat → Int32) (ls : Array Slot), n0 = 1002 - k ∧ g = F0 m 7 ls [] ∧ lv_has ls 2 [(1, .int (nI k)), (0, .ref h0)] ∧ va_P (dC, dI) vwCl [(h0, .inr (10, [.ref zq, h0_past, .ref yq, h0_spare, h0_pastMany, .int (nI 1), h0_text, h0_typed, h0_isUsed, h0_planBatch, h0_planUnits, h0_planCents, h0_planMany, h0_planGot, h0_planSubstitutes, h0_at, h0_fault, h0_entries, h0_entry])), (zq, .inl (cI, 1002, .inl z)), (yq, .inl (cI, 1002, .inl lf))] H ∧ va_D A [(h0, .inr (10, [.ref zq, h0_past, .ref yq, h0_spare, h0_pastMany, .int (nI 1), h0_text, h0_typed, h0_isUsed, h0_planBatch, h0_planUnits, h0_planCents, h0_planMany, h0_planGot, h0_planSubstitutes, h0_at, h0_fault, h0_entries, h0_entry])), (zq, .inl (cI, 1002, .inl z)), (yq, .inl (cI, 1002, .inl lf))] ∧ va_S A s.heap H locs ∧ (k ≤ 1002) ∧ (lf = zcp z kept k)) (fun n => n) ?_ (1002 - 0) (g := F0 m 7 ls []) ⟨0, kept, ls, rfl, rfl, lv_sub hl [0, 1] rfl, hP, hD, hS, (Nat.zero_le _), (zcp_0 _ _)⟩
  intro n0 ih_7 H locs g hp
  obtain ⟨k, lf, ls, rfl, rfl, hl, hP, hD, hS, hk, hlf⟩ := hp
  refine lv_iload_n hx hb dX10_keep_7 rfl (lv_at hl 0 rfl) ?_
  refine lv_sipush (v := nI 1002) hx hb dX10_keep_8 (by decide) ?_
  refine xr_ge_n (tgt := 32) hx hb (by omega) (by omega) dX10_keep_11 (by decide) (fun c_1 => ?_) (fun c_1 => ?_)
  · skip
    refine lv_aload_n hx hb dX10_keep_32 rfl (lv_at hl 1 rfl) ?_
    refine va_get (D := (dC, dI)) (ci := 10) (v := .ref zq) (C := RX10) (T := TX10) (N := 19) hx hb hts i_X10 hown hK hP 0 rfl rfl 0 (by decide) k_7 (fun _ h9 => h9) rfl dX10_keep_33 ?_
    refine lv_iconst (v := nI 0) hx hb dX10_keep_36 (by decide) ?_
    refine xr_iald hx hb hK hP 1 0 rfl rfl (i := 0) (by omega) (by decide) dX10_keep_37 ?_
    rw [hlf, show k = 1002 from by omega] at hP
    have hP9 : va_P (dC, dI) vwCl [(h0, .inr (10, [.ref zq, h0_past, .ref yq, h0_spare, h0_pastMany, .int (nI 1), h0_text, h0_typed, h0_isUsed, h0_planBatch, h0_planUnits, h0_planCents, h0_planMany, h0_planGot, h0_planSubstitutes, h0_at, h0_fault, h0_entries, h0_entry])), (zq, .inl (cI, 1002, .inl z)), (yq, .inl (cI, 1002, .inl (zcp z kept 1002)))] H := hP
    have hS9 : va_S (va_B [(h0, .inr (10, [.ref zq, h0_past, .ref yq, h0_spare, h0_pastMany, h0_isKept, h0_text, h0_typed, h0_isUsed, h0_planBatch, h0_planUnits, h0_planCents, h0_planMany, h0_planGot, h0_planSubstitutes, h0_at, h0_fault, h0_entries, h0_entry])), (zq, .inl (cI, 1002, .inl z)), (yq, .inl (cI, 1002, .inl kept))]) s.heap H locs := by rw [← hA]; exact hS
    exact W.iret (v := z 0) hx hb hr (fun t ht hW => ⟨⟨_, _, rfl, ⟨(show z 0 = z 0 from rfl), rfl⟩, by rw [ht]; exact hP9⟩, hS9.X ht⟩) hS9.2.2 dX10_keep_38
  refine lv_aload_n hx hb dX10_keep_14 rfl (lv_at hl 1 rfl) ?_
  refine va_get (D := (dC, dI)) (ci := 10) (v := .ref yq) (C := RX10) (T := TX10) (N := 19) hx hb hts i_X10 hown hK hP 0 rfl rfl 2 (by decide) k_16 (fun _ h9 => h9) rfl dX10_keep_15 ?_
  refine lv_iload_n hx hb dX10_keep_18 rfl (lv_at hl 0 rfl) ?_
  refine lv_aload_n hx hb dX10_keep_19 rfl (lv_at hl 1 rfl) ?_
  refine va_get (D := (dC, dI)) (ci := 10) (v := .ref zq) (C := RX10) (T := TX10) (N := 19) hx hb hts i_X10 hown hK hP 0 rfl rfl 0 (by decide) k_7 (fun _ h9 => h9) rfl dX10_keep_20 ?_
  refine lv_iload_n hx hb dX10_keep_23 rfl (lv_at hl 0 rfl) ?_
  refine xr_iald hx hb hK hP 1 0 rfl rfl (i := k) (by omega) (by decide) dX10_keep_24 ?_
  refine xr_iast hx hb hK hP hD hS 2 0 rfl rfl (i := k) (by omega) (by decide) dX10_keep_25 (fun H locs hP hD hS => ?_)
  have hP : va_P (dC, dI) vwCl [(h0, .inr (10, [.ref zq, h0_past, .ref yq, h0_spare, h0_pastMany, .int (nI 1), h0_text, h0_typed, h0_isUsed, h0_planBatch, h0_planUnits, h0_planCents, h0_planMany, h0_planGot, h0_planSubstitutes, h0_at, h0_fault, h0_entries, h0_entry])), (zq, .inl (cI, 1002, .inl z)), (yq, .inl (cI, 1002, .inl (upd lf k (z k))))] H := hP
  have hD : va_D A [(h0, .inr (10, [.ref zq, h0_past, .ref yq, h0_spare, h0_pastMany, .int (nI 1), h0_text, h0_typed, h0_isUsed, h0_planBatch, h0_planUnits, h0_planCents, h0_planMany, h0_planGot, h0_planSubstitutes, h0_at, h0_fault, h0_entries, h0_entry])), (zq, .inl (cI, 1002, .inl z)), (yq, .inl (cI, 1002, .inl (upd lf k (z k))))] := hD
  refine lv_iinc (v := nI (k + 1)) (lv' := [(1, .int (nI (k + 1))), (0, .ref h0)]) hx hb dX10_keep_26 hl (k := 0) rfl (nI_inc1 k) (by decide) rfl (fun ls hl => ?_)
  refine lv_goto (tgt := 7) hx hb dX10_keep_29 (by decide) ?_
  exact ih_7 (1002 - (k + 1)) _ _ _ (show 1002 - (k + 1) < 1002 - k from by omega) ⟨(k + 1), (upd lf k (z k)), ls, rfl, rfl, lv_sub hl [0, 1] rfl, hP, hD, hS, (by omega), (by rw [hlf]; exact zcp_1 _ _ _)⟩
set_option maxHeartbeats 4000000 in
set_option maxRecDepth 100000 in
theorem c_X10_undos (l : Launch) (dC : Nat → ClassId) (dI : Nat → Nat → Nat) (cI cF cC cZ cQ cS : ClassId) (h0 : Nat) (zq : Nat) (pq : Nat) (h0_kept : Value) (h0_spare : Value) (h0_isKept : Value) (h0_text : Value) (h0_typed : Value) (h0_isUsed : Value) (h0_planBatch : Value) (h0_planUnits : Value) (h0_planCents : Value) (h0_planMany : Value) (h0_planGot : Value) (h0_planSubstitutes : Value) (h0_at : Value) (h0_fault : Value) (h0_entries : Value) (h0_entry : Value) (z : Nat → Int32) (past : Nat → Int32) (pm : Nat) (hpm : 1 ≤ pm ∧ pm ≤ 4) : Met l yX10_undo wsX10_undo ({ frames := 0, cells := 0, slots := 0, locals := 0 }) (xPre (dC, dI) vwCl [.ref h0] (xtys cI cF cC cZ cQ cS) [(h0, .inr (10, [.ref zq, .ref pq, h0_kept, h0_spare, .int (nI pm), h0_isKept, h0_text, h0_typed, h0_isUsed, h0_planBatch, h0_planUnits, h0_planCents, h0_planMany, h0_planGot, h0_planSubstitutes, h0_at, h0_fault, h0_entries, h0_entry])), (zq, .inl (cI, 1002, .inl z)), (pq, .inl (cI, 4008, .inl past))]) (xWi (dC, dI) vwCl [(h0, .inr (10, [.ref zq, .ref pq, h0_kept, h0_spare, .int (nI pm), h0_isKept, h0_text, h0_typed, h0_isUsed, h0_planBatch, h0_planUnits, h0_planCents, h0_planMany, h0_planGot, h0_planSubstitutes, h0_at, h0_fault, h0_entries, h0_entry])), (zq, .inl (cI, 1002, .inl z)), (pq, .inl (cI, 4008, .inl past))] (fun r0 w0 => r0 = nI (pm - 1) ∧ w0 = [(h0, .inr (10, [.ref zq, .ref pq, h0_kept, h0_spare, .int (nI (pm - 1)), h0_isKept, h0_text, h0_typed, h0_isUsed, h0_planBatch, h0_planUnits, h0_planCents, h0_planMany, h0_planGot, h0_planSubstitutes, h0_at, h0_fault, h0_entries, h0_entry])), (zq, .inl (cI, 1002, .inl (zcp (fun j => past ((pm - 1) * 1002 + j)) z 1002))), (pq, .inl (cI, 4008, .inl past))])) 0 0 (va_B [(h0, .inr (10, [.ref zq, .ref pq, h0_kept, h0_spare, .int (nI pm), h0_isKept, h0_text, h0_typed, h0_isUsed, h0_planBatch, h0_planUnits, h0_planCents, h0_planMany, h0_planGot, h0_planSubstitutes, h0_at, h0_fault, h0_entries, h0_entry])), (zq, .inl (cI, 1002, .inl z)), (pq, .inl (cI, 4008, .inl past))]) := by
  refine Met.ofW (cc := cX10_undo) (maxL := 2) (ret := (some .int)) (by decide) rfl ?_
  intro p e s m args below meth c s₁ B hml hv
  obtain ⟨rfl, hP, hK, hD0, hN⟩ := hv
  have hx := B.exec
  have hb := B.bytes
  have hr := B.returns
  have hts := atoms_spec (ws := wsX10_undo) B.pre
  have hown : s.vm.findClass RX10 = some m.cls := findClass_of_methodNamed B.named
  have hlocks := B.notSynchronized
  have k_13 := hts (Cond.fieldLink RX10 13 "ShelfStagesModel" "past" "[I") (by decide +kernel)
  have k_45 := hts (Cond.fieldLink RX10 45 "ShelfStagesModel" "pastMany" "I") (by decide +kernel)
  have k_7 := hts (Cond.fieldLink RX10 7 "ShelfStagesModel" "z" "[I") (by decide +kernel)
  have i_X10 : ∀ w ∈ wsX100, w ∈ wsX10_undo := by decide +kernel
  obtain ⟨A, hA⟩ : ∃ A, A = va_B [(h0, .inr (10, [.ref zq, .ref pq, h0_kept, h0_spare, .int (nI pm), h0_isKept, h0_text, h0_typed, h0_isUsed, h0_planBatch, h0_planUnits, h0_planCents, h0_planMany, h0_planGot, h0_planSubstitutes, h0_at, h0_fault, h0_entries, h0_entry])), (zq, .inl (cI, 1002, .inl z)), (pq, .inl (cI, 4008, .inl past))] := ⟨_, rfl⟩
  have hD : va_D A [(h0, .inr (10, [.ref zq, .ref pq, h0_kept, h0_spare, .int (nI pm), h0_isKept, h0_text, h0_typed, h0_isUsed, h0_planBatch, h0_planUnits, h0_planCents, h0_planMany, h0_planGot, h0_planSubstitutes, h0_at, h0_fault, h0_entries, h0_entry])), (zq, .inl (cI, 1002, .inl z)), (pq, .inl (cI, 4008, .inl past))] := hA ▸ hD0.own
  have hS : va_S A s.heap s.heap [] := va_S.rf
  have hl := lv_entry ([.ref h0]) (n := 2) (Nat.le_of_ble_eq_true rfl)
  rw [lg_entry_eq]
  generalize (lg_sl ([.ref h0]) ++ List.replicate (2 - (lg_sl ([.ref h0])).length) Slot.unset).toArray = ls at hl ⊢
  have hl : lv_has ls 2 [(0, .ref h0)] := hl
  refine lv_aload_n hx hb dX10_undo_0 rfl (lv_at hl 0 rfl) ?_
  refine va_get (D := (dC, dI)) (ci := 10) (v := .int (nI pm)) (C := RX10) (T := TX10) (N := 19) hx hb hts i_X10 hown hK hP 0 rfl rfl 4 (by decide) k_45 (fun _ h9 => h9) rfl dX10_undo_1 ?_
  refine xr_zne_n (tgt := 10) hx hb (by omega) dX10_undo_4 (by decide) (fun c_1 => ?_) (fun c_1 => False.elim (by omega))
  refine lv_aload_n hx hb dX10_undo_10 rfl (lv_at hl 0 rfl) ?_
  refine lv_dup hx hb dX10_undo_11 rfl ?_
  refine va_get (D := (dC, dI)) (ci := 10) (v := .int (nI pm)) (C := RX10) (T := TX10) (N := 19) hx hb hts i_X10 hown hK hP 0 rfl rfl 4 (by decide) k_45 (fun _ h9 => h9) rfl dX10_undo_12 ?_
  refine lv_iconst (v := nI 1) hx hb dX10_undo_15 (by decide) ?_
  refine xr_isub_n hx hb (by omega) dX10_undo_16 ?_
  refine va_put (D := (dC, dI)) (ci := 10) (v := .int (nI (pm - 1))) (ty := .int) (C := RX10) (T := TX10) (N := 19) hx hb hts i_X10 tyX10 tyX10_ok nmX10 hown hK hP hD hS 0 rfl rfl 4 (by decide) k_45 (fun _ h9 => h9) rfl (by decide +kernel) rfl rfl (Nat.le_of_ble_eq_true rfl) dX10_undo_17 (fun H locs hP hD hS => ?_)
  have hP : va_P (dC, dI) vwCl [(h0, .inr (10, [.ref zq, .ref pq, h0_kept, h0_spare, .int (nI (pm - 1)), h0_isKept, h0_text, h0_typed, h0_isUsed, h0_planBatch, h0_planUnits, h0_planCents, h0_planMany, h0_planGot, h0_planSubstitutes, h0_at, h0_fault, h0_entries, h0_entry])), (zq, .inl (cI, 1002, .inl z)), (pq, .inl (cI, 4008, .inl past))] H := hP
  have hD : va_D A [(h0, .inr (10, [.ref zq, .ref pq, h0_kept, h0_spare, .int (nI (pm - 1)), h0_isKept, h0_text, h0_typed, h0_isUsed, h0_planBatch, h0_planUnits, h0_planCents, h0_planMany, h0_planGot, h0_planSubstitutes, h0_at, h0_fault, h0_entries, h0_entry])), (zq, .inl (cI, 1002, .inl z)), (pq, .inl (cI, 4008, .inl past))] := hD
  refine lv_iconst (v := nI 0) hx hb dX10_undo_20 (by decide) ?_
  refine lv_istore_n (lv' := [(1, .int (nI 0)), (0, .ref h0)]) hx hb dX10_undo_21 rfl hl (by decide) rfl (fun ls hl => ?_)
  refine xr_loop (J := Nat) (fun n0 H locs g => ∃ (k : Nat) (lf : Nat → Int32) (ls : Array Slot), n0 = 1002 - k ∧ g = F0 m 22 ls [] ∧ lv_has ls 2 [(1, .int (nI k)), (0, .ref h0)] ∧ va_P (dC, dI) vwCl [(h0, .inr (10, [.ref zq, .ref pq, h0_kept, h0_spare, .int (nI (pm - 1)), h0_isKept, h0_text, h0_typed, h0_isUsed, h0_planBatch, h0_planUnits, h0_planCents, h0_planMany, h0_planGot, h0_planSubstitutes, h0_at, h0_fault, h0_entries, h0_entry])), (zq, .inl (cI, 1002, .inl lf)), (pq, .inl (cI, 4008, .inl past))] H ∧ va_D A [(h0, .inr (10, [.ref zq, .ref pq, h0_kept, h0_spare, .int (nI (pm - 1)), h0_isKept, h0_text, h0_typed, h0_isUsed, h0_planBatch, h0_planUnits, h0_planCents, h0_planMany, h0_planGot, h0_planSubstitutes, h0_at, h0_fault, h0_entries, h0_entry])), (zq, .inl (cI, 1002, .inl lf)), (pq, .inl (cI, 4008, .inl past))] ∧ va_S A s.heap H locs ∧ (k ≤ 1002) ∧ (lf = zcp (fun j => past ((pm - 1) * 1002 + j)) z k)) (fun n => n) ?_ (1002 - 0) (g := F0 m 22 ls []) ⟨0, z, ls, rfl, rfl, lv_sub hl [0, 1] rfl, hP, hD, hS, (Nat.zero_le _), (zcp_0 _ _)⟩
  intro n0 ih_22 H locs g hp
  obtain ⟨k, lf, ls, rfl, rfl, hl, hP, hD, hS, hk, hlf⟩ := hp
  refine lv_iload_n hx hb dX10_undo_22 rfl (lv_at hl 0 rfl) ?_
  refine lv_sipush (v := nI 1002) hx hb dX10_undo_23 (by decide) ?_
  refine xr_ge_n (tgt := 56) hx hb (by omega) (by omega) dX10_undo_26 (by decide) (fun c_2 => ?_) (fun c_2 => ?_)
  · skip
    refine lv_aload_n hx hb dX10_undo_56 rfl (lv_at hl 1 rfl) ?_
    refine va_get (D := (dC, dI)) (ci := 10) (v := .int (nI (pm - 1))) (C := RX10) (T := TX10) (N := 19) hx hb hts i_X10 hown hK hP 0 rfl rfl 4 (by decide) k_45 (fun _ h9 => h9) rfl dX10_undo_57 ?_
    rw [hlf, show k = 1002 from by omega] at hP
    have hP9 : va_P (dC, dI) vwCl [(h0, .inr (10, [.ref zq, .ref pq, h0_kept, h0_spare, .int (nI (pm - 1)), h0_isKept, h0_text, h0_typed, h0_isUsed, h0_planBatch, h0_planUnits, h0_planCents, h0_planMany, h0_planGot, h0_planSubstitutes, h0_at, h0_fault, h0_entries, h0_entry])), (zq, .inl (cI, 1002, .inl (zcp (fun j => past ((pm - 1) * 1002 + j)) z 1002))), (pq, .inl (cI, 4008, .inl past))] H := hP
    have hS9 : va_S (va_B [(h0, .inr (10, [.ref zq, .ref pq, h0_kept, h0_spare, .int (nI pm), h0_isKept, h0_text, h0_typed, h0_isUsed, h0_planBatch, h0_planUnits, h0_planCents, h0_planMany, h0_planGot, h0_planSubstitutes, h0_at, h0_fault, h0_entries, h0_entry])), (zq, .inl (cI, 1002, .inl z)), (pq, .inl (cI, 4008, .inl past))]) s.heap H locs := by rw [← hA]; exact hS
    exact W.iret (v := nI (pm - 1)) hx hb hr (fun t ht hW => ⟨⟨_, _, rfl, ⟨(show nI (pm - 1) = nI (pm - 1) from rfl), rfl⟩, by rw [ht]; exact hP9⟩, hS9.X ht⟩) hS9.2.2 dX10_undo_60
  refine lv_aload_n hx hb dX10_undo_29 rfl (lv_at hl 1 rfl) ?_
  refine va_get (D := (dC, dI)) (ci := 10) (v := .ref zq) (C := RX10) (T := TX10) (N := 19) hx hb hts i_X10 hown hK hP 0 rfl rfl 0 (by decide) k_7 (fun _ h9 => h9) rfl dX10_undo_30 ?_
  refine lv_iload_n hx hb dX10_undo_33 rfl (lv_at hl 0 rfl) ?_
  refine lv_aload_n hx hb dX10_undo_34 rfl (lv_at hl 1 rfl) ?_
  refine va_get (D := (dC, dI)) (ci := 10) (v := .ref pq) (C := RX10) (T := TX10) (N := 19) hx hb hts i_X10 hown hK hP 0 rfl rfl 1 (by decide) k_13 (fun _ h9 => h9) rfl dX10_undo_35 ?_
  refine lv_aload_n hx hb dX10_undo_38 rfl (lv_at hl 1 rfl) ?_
  refine va_get (D := (dC, dI)) (ci := 10) (v := .int (nI (pm - 1))) (C := RX10) (T := TX10) (N := 19) hx hb hts i_X10 hown hK hP 0 rfl rfl 4 (by decide) k_45 (fun _ h9 => h9) rfl dX10_undo_39 ?_
  refine lv_sipush (v := nI 1002) hx hb dX10_undo_42 (by decide) ?_
  refine xr_imul_n hx hb dX10_undo_45 ?_
  refine lv_iload_n hx hb dX10_undo_46 rfl (lv_at hl 0 rfl) ?_
  refine xr_iadd_n hx hb dX10_undo_47 ?_
  refine xr_iald hx hb hK hP 2 0 rfl rfl (i := ((pm - 1) * 1002) + k) (by omega) (by decide) dX10_undo_48 ?_
  refine xr_iast hx hb hK hP hD hS 1 0 rfl rfl (i := k) (by omega) (by decide) dX10_undo_49 (fun H locs hP hD hS => ?_)
  have hP : va_P (dC, dI) vwCl [(h0, .inr (10, [.ref zq, .ref pq, h0_kept, h0_spare, .int (nI (pm - 1)), h0_isKept, h0_text, h0_typed, h0_isUsed, h0_planBatch, h0_planUnits, h0_planCents, h0_planMany, h0_planGot, h0_planSubstitutes, h0_at, h0_fault, h0_entries, h0_entry])), (zq, .inl (cI, 1002, .inl (upd lf k (past (((pm - 1) * 1002) + k))))), (pq, .inl (cI, 4008, .inl past))] H := hP
  have hD : va_D A [(h0, .inr (10, [.ref zq, .ref pq, h0_kept, h0_spare, .int (nI (pm - 1)), h0_isKept, h0_text, h0_typed, h0_isUsed, h0_planBatch, h0_planUnits, h0_planCents, h0_planMany, h0_planGot, h0_planSubstitutes, h0_at, h0_fault, h0_entries, h0_entry])), (zq, .inl (cI, 1002, .inl (upd lf k (past (((pm - 1) * 1002) + k))))), (pq, .inl (cI, 4008, .inl past))] := hD
  refine lv_iinc (v := nI (k + 1)) (lv' := [(1, .int (nI (k + 1))), (0, .ref h0)]) hx hb dX10_undo_50 hl (k := 0) rfl (nI_inc1 k) (by decide) rfl (fun ls hl => ?_)
  refine lv_goto (tgt := 22) hx hb dX10_undo_53 (by decide) ?_
  exact ih_22 (1002 - (k + 1)) _ _ _ (show 1002 - (k + 1) < 1002 - k from by omega) ⟨(k + 1), (upd lf k (past (((pm - 1) * 1002) + k))), ls, rfl, rfl, lv_sub hl [0, 1] rfl, hP, hD, hS, (by omega), (by rw [hlf]; exact zcp_1 _ _ _)⟩
