theorem hdV_X9_hasGood : yX9_hasGood.cls = RX9 ∧ yX9_hasGood.cls ≠ "java/lang/invoke/MethodHandle" ∧ yX9_hasGood.cls ≠ "java/lang/invoke/VarHandle" ∧ (parseMethodDescriptor yX9_hasGood.desc).map (fun d => d.parameters.length) = some 1 := by decide +kernel
set_option maxHeartbeats 4000000 in
set_option maxRecDepth 100000 in
theorem c_X9_hasGood (l : Launch) (dC : Nat → ClassId) (dI : Nat → Nat → Nat) (cI cF cC cZ cQ cS : ClassId) (x0 : Nat) (o0 : Nat) (x0_snapshot : Value) (x0_trial : Value) (x0_history : Value) (x0_filling : Value) (x0_delivery : Value) (x0_text : Value) (x0_textLength : Value) (x0_hasSnapshot : Value) (o1 : Nat) (o0_batches : Value) (o0_orders : Value) (o0_stages : Value) (o0_log : Value) (o0_settings : Value) (o0_rebate : Value) (o0_day : Value) (gz : Nat) (o1_price : Value) (o1_life : Value) (o1_listed : Value) (o1_list : Value) (v : Int32) (hz : gz ≤ 40) : Met l yX9_hasGood wsX9_hasGood ({ frames := 1, cells := 0, slots := 0, locals := 22 }) (xPre (dC, dI) vwCl [.ref x0, .int v] (xtys cI cF cC cZ cQ cS) [(x0, .inr (9, [.ref o0, x0_snapshot, x0_trial, x0_history, x0_filling, x0_delivery, x0_text, x0_textLength, x0_hasSnapshot])), (o0, .inr (8, [.ref o1, o0_batches, o0_orders, o0_stages, o0_log, o0_settings, o0_rebate, o0_day])), (o1, .inr (3, [.int (nI gz), o1_price, o1_life, o1_listed, o1_list]))]) (vp_Si (fun r0 => r0 = (if xhas v gz then nI 1 else nI 0))) 0 0 (fun _ => False) := by
  refine Met.ofW (cc := cX9_hasGood) (maxL := 2) (ret := (some .boolean)) (by decide) rfl ?_
  intro p e s m args below meth c s₁ B hml hv
  obtain ⟨rfl, hP, hK, hD0, hN⟩ := hv
  have hx := B.exec
  have hb := B.bytes
  have hr := B.returns
  have hts := atoms_spec (ws := wsX9_hasGood) B.pre
  have hown : s.vm.findClass RX9 = some m.cls := findClass_of_methodNamed B.named
  have hlocks := B.notSynchronized
  have k_12 := hts (Cond.fieldLink RX9 12 "ShelfStages" "now" "LShelfStages$State;") (by decide +kernel)
  have k_51 := hts (Cond.fieldLink RX9 51 "ShelfStages$State" "goods" "LShelfStages$Goods;") (by decide +kernel)
  have k_55 := hts (Cond.fieldLink RX9 55 "ShelfStages$Goods" "size" "I") (by decide +kernel)
  have i_X3 : ∀ w ∈ wsX30, w ∈ wsX9_hasGood := by decide +kernel
  have i_X8 : ∀ w ∈ wsX80, w ∈ wsX9_hasGood := by decide +kernel
  have i_X9 : ∀ w ∈ wsX90, w ∈ wsX9_hasGood := by decide +kernel
  have hD := hD0
  have hl := lv_entry ([.ref x0, .int v]) (n := 2) (Nat.le_of_ble_eq_true rfl)
  rw [lg_entry_eq]
  generalize (lg_sl ([.ref x0, .int v]) ++ List.replicate (2 - (lg_sl ([.ref x0, .int v])).length) Slot.unset).toArray = ls at hl ⊢
  have hl : lv_has ls 2 [(0, .ref x0), (1, .int v)] := hl
  refine lv_iload_n hx hb dX9_hasGood_0 rfl (lv_at hl 1 rfl) ?_
  refine lv_iconst (v := nI 0) hx hb dX9_hasGood_1 (by decide) ?_
  refine lv_aload_n hx hb dX9_hasGood_2 rfl (lv_at hl 0 rfl) ?_
  refine va_get (D := (dC, dI)) (ci := 9) (v := .ref o0) (C := RX9) (T := TX9) (N := 9) hx hb hts i_X9 hown hK hP 0 rfl rfl 0 (by decide) k_12 (fun _ h9 => h9) rfl dX9_hasGood_3 ?_
  refine va_get (D := (dC, dI)) (ci := 8) (v := .ref o1) (C := RX8) (T := TX8) (N := 8) hx hb hts i_X8 hown hK hP 1 rfl rfl 0 (by decide) k_51 (fun _ h9 => h9) rfl dX9_hasGood_6 ?_
  refine va_get (D := (dC, dI)) (ci := 3) (v := .int (nI gz)) (C := RX3) (T := TX3) (N := 5) hx hb hts i_X3 hown hK hP 2 rfl rfl 0 (by decide) k_55 (fun _ h9 => h9) rfl dX9_hasGood_9 ?_
  refine lv_iconst (v := nI 1) hx hb dX9_hasGood_12 (by decide) ?_
  refine lv_isub hx hb dX9_hasGood_13 ?_
  refine xkRi (xSs (Ws' := ([] : List Cond)) (As := [.int v, .int (nI 0), .int ((nI gz) - (nI 1))]) (rest := []) (wc := []) hx hb hml hown hts (c_X9_within l dC dI cI cF cC cZ cQ cS v (nI 0) ((nI gz) - (nI 1))) 3 (fun hR => va_cwS 3 hts gX9_hasGood_X9_within rfl rfl rfl hdN_X9_within hR) ⟨Nat.le_of_ble_eq_true rfl, Nat.le_of_ble_eq_true rfl⟩ hN hK hP hD [] rfl rfl rfl hl.1 rfl (Nat.le_of_ble_eq_true rfl) dX9_hasGood_14 ⟨Nat.zero_le _, Nat.zero_le _⟩) (fun r_1 hr_1 => ?_)
  have hr_1 : r_1 = (if (nI 0) ≤ v ∧ v ≤ ((nI gz) - (nI 1)) then nI 1 else nI 0) := hr_1
  subst hr_1
  exact W.zret (v := (if (nI 0) ≤ v ∧ v ≤ ((nI gz) - (nI 1)) then nI 1 else nI 0)) hx hb hr (by split <;> rfl) (fun t ht hW => ⟨_, rfl, (show (if (nI 0) ≤ v ∧ v ≤ ((nI gz) - (nI 1)) then nI 1 else nI 0) = (if xhas v gz then nI 1 else nI 0) from (xif_congr (xhas_iff (by omega)) _ _)), ht⟩) (fun q h => by cases h) dX9_hasGood_17
theorem hdV_X9_hasBatch : yX9_hasBatch.cls = RX9 ∧ yX9_hasBatch.cls ≠ "java/lang/invoke/MethodHandle" ∧ yX9_hasBatch.cls ≠ "java/lang/invoke/VarHandle" ∧ (parseMethodDescriptor yX9_hasBatch.desc).map (fun d => d.parameters.length) = some 1 := by decide +kernel
set_option maxHeartbeats 4000000 in
set_option maxRecDepth 100000 in
theorem c_X9_hasBatch (l : Launch) (dC : Nat → ClassId) (dI : Nat → Nat → Nat) (cI cF cC cZ cQ cS : ClassId) (x0 : Nat) (o0 : Nat) (x0_snapshot : Value) (x0_trial : Value) (x0_history : Value) (x0_filling : Value) (x0_delivery : Value) (x0_text : Value) (x0_textLength : Value) (x0_hasSnapshot : Value) (o0_goods : Value) (o6 : Nat) (o0_orders : Value) (o0_stages : Value) (o0_log : Value) (o0_settings : Value) (o0_rebate : Value) (o0_day : Value) (bz : Nat) (o6_good : Value) (o6_came : Value) (o6_left : Value) (o6_shelf : Value) (o6_sold : Value) (o6_given : Value) (o6_cents : Value) (o6_wasted : Value) (v : Int32) (hz : bz ≤ 40) : Met l yX9_hasBatch wsX9_hasBatch ({ frames := 1, cells := 0, slots := 0, locals := 22 }) (xPre (dC, dI) vwCl [.ref x0, .int v] (xtys cI cF cC cZ cQ cS) [(x0, .inr (9, [.ref o0, x0_snapshot, x0_trial, x0_history, x0_filling, x0_delivery, x0_text, x0_textLength, x0_hasSnapshot])), (o0, .inr (8, [o0_goods, .ref o6, o0_orders, o0_stages, o0_log, o0_settings, o0_rebate, o0_day])), (o6, .inr (0, [.int (nI bz), o6_good, o6_came, o6_left, o6_shelf, o6_sold, o6_given, o6_cents, o6_wasted]))]) (vp_Si (fun r0 => r0 = (if xhas v bz then nI 1 else nI 0))) 0 0 (fun _ => False) := by
  refine Met.ofW (cc := cX9_hasBatch) (maxL := 2) (ret := (some .boolean)) (by decide) rfl ?_
  intro p e s m args below meth c s₁ B hml hv
  obtain ⟨rfl, hP, hK, hD0, hN⟩ := hv
  have hx := B.exec
  have hb := B.bytes
  have hr := B.returns
  have hts := atoms_spec (ws := wsX9_hasBatch) B.pre
  have hown : s.vm.findClass RX9 = some m.cls := findClass_of_methodNamed B.named
  have hlocks := B.notSynchronized
  have k_12 := hts (Cond.fieldLink RX9 12 "ShelfStages" "now" "LShelfStages$State;") (by decide +kernel)
  have k_129 := hts (Cond.fieldLink RX9 129 "ShelfStages$State" "batches" "LShelfStages$Batches;") (by decide +kernel)
  have k_133 := hts (Cond.fieldLink RX9 133 "ShelfStages$Batches" "size" "I") (by decide +kernel)
  have i_X0 : ∀ w ∈ wsX00, w ∈ wsX9_hasBatch := by decide +kernel
  have i_X8 : ∀ w ∈ wsX80, w ∈ wsX9_hasBatch := by decide +kernel
  have i_X9 : ∀ w ∈ wsX90, w ∈ wsX9_hasBatch := by decide +kernel
  have hD := hD0
  have hl := lv_entry ([.ref x0, .int v]) (n := 2) (Nat.le_of_ble_eq_true rfl)
  rw [lg_entry_eq]
  generalize (lg_sl ([.ref x0, .int v]) ++ List.replicate (2 - (lg_sl ([.ref x0, .int v])).length) Slot.unset).toArray = ls at hl ⊢
  have hl : lv_has ls 2 [(0, .ref x0), (1, .int v)] := hl
  refine lv_iload_n hx hb dX9_hasBatch_0 rfl (lv_at hl 1 rfl) ?_
  refine lv_iconst (v := nI 0) hx hb dX9_hasBatch_1 (by decide) ?_
  refine lv_aload_n hx hb dX9_hasBatch_2 rfl (lv_at hl 0 rfl) ?_
  refine va_get (D := (dC, dI)) (ci := 9) (v := .ref o0) (C := RX9) (T := TX9) (N := 9) hx hb hts i_X9 hown hK hP 0 rfl rfl 0 (by decide) k_12 (fun _ h9 => h9) rfl dX9_hasBatch_3 ?_
  refine va_get (D := (dC, dI)) (ci := 8) (v := .ref o6) (C := RX8) (T := TX8) (N := 8) hx hb hts i_X8 hown hK hP 1 rfl rfl 1 (by decide) k_129 (fun _ h9 => h9) rfl dX9_hasBatch_6 ?_
  refine va_get (D := (dC, dI)) (ci := 0) (v := .int (nI bz)) (C := RX0) (T := TX0) (N := 9) hx hb hts i_X0 hown hK hP 2 rfl rfl 0 (by decide) k_133 (fun _ h9 => h9) rfl dX9_hasBatch_9 ?_
  refine lv_iconst (v := nI 1) hx hb dX9_hasBatch_12 (by decide) ?_
  refine lv_isub hx hb dX9_hasBatch_13 ?_
  refine xkRi (xSs (Ws' := ([] : List Cond)) (As := [.int v, .int (nI 0), .int ((nI bz) - (nI 1))]) (rest := []) (wc := []) hx hb hml hown hts (c_X9_within l dC dI cI cF cC cZ cQ cS v (nI 0) ((nI bz) - (nI 1))) 3 (fun hR => va_cwS 3 hts gX9_hasBatch_X9_within rfl rfl rfl hdN_X9_within hR) ⟨Nat.le_of_ble_eq_true rfl, Nat.le_of_ble_eq_true rfl⟩ hN hK hP hD [] rfl rfl rfl hl.1 rfl (Nat.le_of_ble_eq_true rfl) dX9_hasBatch_14 ⟨Nat.zero_le _, Nat.zero_le _⟩) (fun r_1 hr_1 => ?_)
  have hr_1 : r_1 = (if (nI 0) ≤ v ∧ v ≤ ((nI bz) - (nI 1)) then nI 1 else nI 0) := hr_1
  subst hr_1
  exact W.zret (v := (if (nI 0) ≤ v ∧ v ≤ ((nI bz) - (nI 1)) then nI 1 else nI 0)) hx hb hr (by split <;> rfl) (fun t ht hW => ⟨_, rfl, (show (if (nI 0) ≤ v ∧ v ≤ ((nI bz) - (nI 1)) then nI 1 else nI 0) = (if xhas v bz then nI 1 else nI 0) from (xif_congr (xhas_iff (by omega)) _ _)), ht⟩) (fun q h => by cases h) dX9_hasBatch_17
theorem hdV_X9_hasOrder : yX9_hasOrder.cls = RX9 ∧ yX9_hasOrder.cls ≠ "java/lang/invoke/MethodHandle" ∧ yX9_hasOrder.cls ≠ "java/lang/invoke/VarHandle" ∧ (parseMethodDescriptor yX9_hasOrder.desc).map (fun d => d.parameters.length) = some 1 := by decide +kernel
set_option maxHeartbeats 4000000 in
set_option maxRecDepth 100000 in
theorem c_X9_hasOrder (l : Launch) (dC : Nat → ClassId) (dI : Nat → Nat → Nat) (cI cF cC cZ cQ cS : ClassId) (x0 : Nat) (o0 : Nat) (x0_snapshot : Value) (x0_trial : Value) (x0_history : Value) (x0_filling : Value) (x0_delivery : Value) (x0_text : Value) (x0_textLength : Value) (x0_hasSnapshot : Value) (o0_goods : Value) (o0_batches : Value) (o18 : Nat) (o0_stages : Value) (o0_log : Value) (o0_settings : Value) (o0_rebate : Value) (o0_day : Value) (oz : Nat) (o18_takes : Value) (o18_good : Value) (o18_wanted : Value) (o18_got : Value) (o18_replaced : Value) (o18_least : Value) (o18_accepts : Value) (o18_parts : Value) (o18_due : Value) (o18_day : Value) (o18_firstTake : Value) (o18_takeBatch : Value) (o18_takeUnits : Value) (v : Int32) (hz : oz ≤ 40) : Met l yX9_hasOrder wsX9_hasOrder ({ frames := 1, cells := 0, slots := 0, locals := 22 }) (xPre (dC, dI) vwCl [.ref x0, .int v] (xtys cI cF cC cZ cQ cS) [(x0, .inr (9, [.ref o0, x0_snapshot, x0_trial, x0_history, x0_filling, x0_delivery, x0_text, x0_textLength, x0_hasSnapshot])), (o0, .inr (8, [o0_goods, o0_batches, .ref o18, o0_stages, o0_log, o0_settings, o0_rebate, o0_day])), (o18, .inr (6, [.int (nI oz), o18_takes, o18_good, o18_wanted, o18_got, o18_replaced, o18_least, o18_accepts, o18_parts, o18_due, o18_day, o18_firstTake, o18_takeBatch, o18_takeUnits]))]) (vp_Si (fun r0 => r0 = (if xhas v oz then nI 1 else nI 0))) 0 0 (fun _ => False) := by
  refine Met.ofW (cc := cX9_hasOrder) (maxL := 2) (ret := (some .boolean)) (by decide) rfl ?_
  intro p e s m args below meth c s₁ B hml hv
  obtain ⟨rfl, hP, hK, hD0, hN⟩ := hv
  have hx := B.exec
  have hb := B.bytes
  have hr := B.returns
  have hts := atoms_spec (ws := wsX9_hasOrder) B.pre
  have hown : s.vm.findClass RX9 = some m.cls := findClass_of_methodNamed B.named
  have hlocks := B.notSynchronized
  have k_12 := hts (Cond.fieldLink RX9 12 "ShelfStages" "now" "LShelfStages$State;") (by decide +kernel)
  have k_165 := hts (Cond.fieldLink RX9 165 "ShelfStages$State" "orders" "LShelfStages$Orders;") (by decide +kernel)
  have k_169 := hts (Cond.fieldLink RX9 169 "ShelfStages$Orders" "size" "I") (by decide +kernel)
  have i_X6 : ∀ w ∈ wsX60, w ∈ wsX9_hasOrder := by decide +kernel
  have i_X8 : ∀ w ∈ wsX80, w ∈ wsX9_hasOrder := by decide +kernel
  have i_X9 : ∀ w ∈ wsX90, w ∈ wsX9_hasOrder := by decide +kernel
  have hD := hD0
  have hl := lv_entry ([.ref x0, .int v]) (n := 2) (Nat.le_of_ble_eq_true rfl)
  rw [lg_entry_eq]
  generalize (lg_sl ([.ref x0, .int v]) ++ List.replicate (2 - (lg_sl ([.ref x0, .int v])).length) Slot.unset).toArray = ls at hl ⊢
  have hl : lv_has ls 2 [(0, .ref x0), (1, .int v)] := hl
  refine lv_iload_n hx hb dX9_hasOrder_0 rfl (lv_at hl 1 rfl) ?_
  refine lv_iconst (v := nI 0) hx hb dX9_hasOrder_1 (by decide) ?_
  refine lv_aload_n hx hb dX9_hasOrder_2 rfl (lv_at hl 0 rfl) ?_
  refine va_get (D := (dC, dI)) (ci := 9) (v := .ref o0) (C := RX9) (T := TX9) (N := 9) hx hb hts i_X9 hown hK hP 0 rfl rfl 0 (by decide) k_12 (fun _ h9 => h9) rfl dX9_hasOrder_3 ?_
  refine va_get (D := (dC, dI)) (ci := 8) (v := .ref o18) (C := RX8) (T := TX8) (N := 8) hx hb hts i_X8 hown hK hP 1 rfl rfl 2 (by decide) k_165 (fun _ h9 => h9) rfl dX9_hasOrder_6 ?_
  refine va_get (D := (dC, dI)) (ci := 6) (v := .int (nI oz)) (C := RX6) (T := TX6) (N := 14) hx hb hts i_X6 hown hK hP 2 rfl rfl 0 (by decide) k_169 (fun _ h9 => h9) rfl dX9_hasOrder_9 ?_
  refine lv_iconst (v := nI 1) hx hb dX9_hasOrder_12 (by decide) ?_
  refine lv_isub hx hb dX9_hasOrder_13 ?_
  refine xkRi (xSs (Ws' := ([] : List Cond)) (As := [.int v, .int (nI 0), .int ((nI oz) - (nI 1))]) (rest := []) (wc := []) hx hb hml hown hts (c_X9_within l dC dI cI cF cC cZ cQ cS v (nI 0) ((nI oz) - (nI 1))) 3 (fun hR => va_cwS 3 hts gX9_hasOrder_X9_within rfl rfl rfl hdN_X9_within hR) ⟨Nat.le_of_ble_eq_true rfl, Nat.le_of_ble_eq_true rfl⟩ hN hK hP hD [] rfl rfl rfl hl.1 rfl (Nat.le_of_ble_eq_true rfl) dX9_hasOrder_14 ⟨Nat.zero_le _, Nat.zero_le _⟩) (fun r_1 hr_1 => ?_)
  have hr_1 : r_1 = (if (nI 0) ≤ v ∧ v ≤ ((nI oz) - (nI 1)) then nI 1 else nI 0) := hr_1
  subst hr_1
  exact W.zret (v := (if (nI 0) ≤ v ∧ v ≤ ((nI oz) - (nI 1)) then nI 1 else nI 0)) hx hb hr (by split <;> rfl) (fun t ht hW => ⟨_, rfl, (show (if (nI 0) ≤ v ∧ v ≤ ((nI oz) - (nI 1)) then nI 1 else nI 0) = (if xhas v oz then nI 1 else nI 0) from (xif_congr (xhas_iff (by omega)) _ _)), ht⟩) (fun q h => by cases h) dX9_hasOrder_17
theorem hdN_X9_isStage : yX9_isStage.cls ≠ "java/lang/invoke/MethodHandle" ∧ yX9_isStage.cls ≠ "java/lang/invoke/VarHandle" ∧ (parseMethodDescriptor yX9_isStage.desc).map (fun d => d.parameters.length) = some 1 := by decide +kernel
theorem hdS_X9_isStage : yX9_isStage.cls = RX9 ∧ yX9_isStage.cls ≠ "java/lang/invoke/MethodHandle" ∧ yX9_isStage.cls ≠ "java/lang/invoke/VarHandle" ∧ (parseMethodDescriptor yX9_isStage.desc).map (fun d => d.parameters.length) = some 1 := by decide +kernel
set_option maxHeartbeats 4000000 in
set_option maxRecDepth 100000 in
theorem c_X9_isStage (l : Launch) (dC : Nat → ClassId) (dI : Nat → Nat → Nat) (cI cF cC cZ cQ cS : ClassId) (v : Int32) : Met l yX9_isStage wsX9_isStage ({ frames := 1, cells := 0, slots := 0, locals := 22 }) (xPre (dC, dI) vwCl [.int v] (xtys cI cF cC cZ cQ cS) []) (vp_Si (fun r0 => r0 = (if xhas v 4 then nI 1 else nI 0))) 0 0 (fun _ => False) := by
  refine Met.ofW (cc := cX9_isStage) (maxL := 1) (ret := (some .boolean)) (by decide) rfl ?_
  intro p e s m args below meth c s₁ B hml hv
  obtain ⟨rfl, hP, hK, hD0, hN⟩ := hv
  have hx := B.exec
  have hb := B.bytes
  have hr := B.returns
  have hts := atoms_spec (ws := wsX9_isStage) B.pre
  have hown : s.vm.findClass RX9 = some m.cls := findClass_of_methodNamed B.named
  have hlocks := B.notSynchronized
  have hD := hD0
  have hl := lv_entry ([.int v]) (n := 1) (Nat.le_of_ble_eq_true rfl)
  rw [lg_entry_eq]
  generalize (lg_sl ([.int v]) ++ List.replicate (1 - (lg_sl ([.int v])).length) Slot.unset).toArray = ls at hl ⊢
  have hl : lv_has ls 1 [(0, .int v)] := hl
  refine lv_iload_n hx hb dX9_isStage_0 rfl (lv_at hl 0 rfl) ?_
  refine lv_iconst (v := nI 0) hx hb dX9_isStage_1 (by decide) ?_
  refine lv_iconst (v := nI 3) hx hb dX9_isStage_2 (by decide) ?_
  refine xkRi (xSs (Ws' := ([] : List Cond)) (As := [.int v, .int (nI 0), .int (nI 3)]) (rest := []) (wc := []) hx hb hml hown hts (c_X9_within l dC dI cI cF cC cZ cQ cS v (nI 0) (nI 3)) 3 (fun hR => va_cwS 3 hts gX9_isStage_X9_within rfl rfl rfl hdN_X9_within hR) ⟨Nat.le_of_ble_eq_true rfl, Nat.le_of_ble_eq_true rfl⟩ hN hK hP hD [] rfl rfl rfl hl.1 rfl (Nat.le_of_ble_eq_true rfl) dX9_isStage_3 ⟨Nat.zero_le _, Nat.zero_le _⟩) (fun r_1 hr_1 => ?_)
  have hr_1 : r_1 = (if (nI 0) ≤ v ∧ v ≤ (nI 3) then nI 1 else nI 0) := hr_1
  subst hr_1
  exact W.zret (v := (if (nI 0) ≤ v ∧ v ≤ (nI 3) then nI 1 else nI 0)) hx hb hr (by split <;> rfl) (fun t ht hW => ⟨_, rfl, (show (if (nI 0) ≤ v ∧ v ≤ (nI 3) then nI 1 else nI 0) = (if xhas v 4 then nI 1 else nI 0) from (xif_congr (xhas_iff4 _) _ _)), ht⟩) (fun q h => by cases h) dX9_isStage_6
theorem hdN_X9_isSetting : yX9_isSetting.cls ≠ "java/lang/invoke/MethodHandle" ∧ yX9_isSetting.cls ≠ "java/lang/invoke/VarHandle" ∧ (parseMethodDescriptor yX9_isSetting.desc).map (fun d => d.parameters.length) = some 2 := by decide +kernel
theorem hdS_X9_isSetting : yX9_isSetting.cls = RX9 ∧ yX9_isSetting.cls ≠ "java/lang/invoke/MethodHandle" ∧ yX9_isSetting.cls ≠ "java/lang/invoke/VarHandle" ∧ (parseMethodDescriptor yX9_isSetting.desc).map (fun d => d.parameters.length) = some 2 := by decide +kernel
set_option maxHeartbeats 4000000 in
set_option maxRecDepth 100000 in
theorem c_X9_isSetting (l : Launch) (dC : Nat → ClassId) (dI : Nat → Nat → Nat) (cI cF cC cZ cQ cS : ClassId) (what : Int32) (v : Int32) : Met l yX9_isSetting wsX9_isSetting ({ frames := 1, cells := 0, slots := 0, locals := 22 }) (xPre (dC, dI) vwCl [.int what, .int v] (xtys cI cF cC cZ cQ cS) []) (vp_Si (fun r0 => r0 = xisset what v)) 0 0 (fun _ => False) := by
  refine Met.ofW (cc := cX9_isSetting) (maxL := 2) (ret := (some .boolean)) (by decide) rfl ?_
  intro p e s m args below meth c s₁ B hml hv
  obtain ⟨rfl, hP, hK, hD0, hN⟩ := hv
  have hx := B.exec
  have hb := B.bytes
  have hr := B.returns
  have hts := atoms_spec (ws := wsX9_isSetting) B.pre
  have hown : s.vm.findClass RX9 = some m.cls := findClass_of_methodNamed B.named
  have hlocks := B.notSynchronized
  have hD := hD0
  have hl := lv_entry ([.int what, .int v]) (n := 2) (Nat.le_of_ble_eq_true rfl)
  rw [lg_entry_eq]
  generalize (lg_sl ([.int what, .int v]) ++ List.replicate (2 - (lg_sl ([.int what, .int v])).length) Slot.unset).toArray = ls at hl ⊢
  have hl : lv_has ls 2 [(0, .int what), (1, .int v)] := hl
  refine lv_iload_n hx hb dX9_isSetting_0 rfl (lv_at hl 0 rfl) ?_
  by_cases cs_1 : what = nI 0
  · skip
    refine lv_tableIn (tgt := 28) hx hb dX9_isSetting_1 (by rw [cs_1]; decide) (by rw [cs_1]; decide) (by rw [cs_1]; rfl) (by decide) ?_
    refine lv_iload_n hx hb dX9_isSetting_28 rfl (lv_at hl 1 rfl) ?_
    refine lv_iconst (v := nI 0) hx hb dX9_isSetting_29 (by decide) ?_
    refine lv_iconst (v := nI 2) hx hb dX9_isSetting_30 (by decide) ?_
    refine xkRi (xSs (Ws' := ([] : List Cond)) (As := [.int v, .int (nI 0), .int (nI 2)]) (rest := []) (wc := []) hx hb hml hown hts (c_X9_within l dC dI cI cF cC cZ cQ cS v (nI 0) (nI 2)) 3 (fun hR => va_cwS 3 hts gX9_isSetting_X9_within rfl rfl rfl hdN_X9_within hR) ⟨Nat.le_of_ble_eq_true rfl, Nat.le_of_ble_eq_true rfl⟩ hN hK hP hD [] rfl rfl rfl hl.1 rfl (Nat.le_of_ble_eq_true rfl) dX9_isSetting_31 ⟨Nat.zero_le _, Nat.zero_le _⟩) (fun r_2 hr_2 => ?_)
    have hr_2 : r_2 = (if (nI 0) ≤ v ∧ v ≤ (nI 2) then nI 1 else nI 0) := hr_2
    subst hr_2
    exact W.zret (v := (if (nI 0) ≤ v ∧ v ≤ (nI 2) then nI 1 else nI 0)) hx hb hr (by split <;> rfl) (fun t ht hW => ⟨_, rfl, (show (if (nI 0) ≤ v ∧ v ≤ (nI 2) then nI 1 else nI 0) = xisset what v from (by unfold xisset; rw [if_pos cs_1])), ht⟩) (fun q h => by cases h) dX9_isSetting_34
  by_cases cs_3 : what = nI 1
  · skip
    refine lv_tableIn (tgt := 35) hx hb dX9_isSetting_1 (by rw [cs_3]; decide) (by rw [cs_3]; decide) (by rw [cs_3]; rfl) (by decide) ?_
    refine lv_iload_n hx hb dX9_isSetting_35 rfl (lv_at hl 1 rfl) ?_
    refine lv_iconst (v := nI 1) hx hb dX9_isSetting_36 (by decide) ?_
    refine lv_iconst (v := nI 4) hx hb dX9_isSetting_37 (by decide) ?_
    refine xkRi (xSs (Ws' := ([] : List Cond)) (As := [.int v, .int (nI 1), .int (nI 4)]) (rest := []) (wc := []) hx hb hml hown hts (c_X9_within l dC dI cI cF cC cZ cQ cS v (nI 1) (nI 4)) 3 (fun hR => va_cwS 3 hts gX9_isSetting_X9_within rfl rfl rfl hdN_X9_within hR) ⟨Nat.le_of_ble_eq_true rfl, Nat.le_of_ble_eq_true rfl⟩ hN hK hP hD [] rfl rfl rfl hl.1 rfl (Nat.le_of_ble_eq_true rfl) dX9_isSetting_38 ⟨Nat.zero_le _, Nat.zero_le _⟩) (fun r_4 hr_4 => ?_)
    have hr_4 : r_4 = (if (nI 1) ≤ v ∧ v ≤ (nI 4) then nI 1 else nI 0) := hr_4
    subst hr_4
    exact W.zret (v := (if (nI 1) ≤ v ∧ v ≤ (nI 4) then nI 1 else nI 0)) hx hb hr (by split <;> rfl) (fun t ht hW => ⟨_, rfl, (show (if (nI 1) ≤ v ∧ v ≤ (nI 4) then nI 1 else nI 0) = xisset what v from (by unfold xisset; rw [if_neg cs_1, if_pos cs_3])), ht⟩) (fun q h => by cases h) dX9_isSetting_41
  by_cases cs_5 : what = nI 2
  · skip
    refine lv_tableIn (tgt := 42) hx hb dX9_isSetting_1 (by rw [cs_5]; decide) (by rw [cs_5]; decide) (by rw [cs_5]; rfl) (by decide) ?_
    refine lv_iload_n hx hb dX9_isSetting_42 rfl (lv_at hl 1 rfl) ?_
    refine lv_iconst (v := nI 0) hx hb dX9_isSetting_43 (by decide) ?_
    refine lv_sipush (v := nI 999) hx hb dX9_isSetting_44 (by decide) ?_
    refine xkRi (xSs (Ws' := ([] : List Cond)) (As := [.int v, .int (nI 0), .int (nI 999)]) (rest := []) (wc := []) hx hb hml hown hts (c_X9_within l dC dI cI cF cC cZ cQ cS v (nI 0) (nI 999)) 3 (fun hR => va_cwS 3 hts gX9_isSetting_X9_within rfl rfl rfl hdN_X9_within hR) ⟨Nat.le_of_ble_eq_true rfl, Nat.le_of_ble_eq_true rfl⟩ hN hK hP hD [] rfl rfl rfl hl.1 rfl (Nat.le_of_ble_eq_true rfl) dX9_isSetting_47 ⟨Nat.zero_le _, Nat.zero_le _⟩) (fun r_6 hr_6 => ?_)
    have hr_6 : r_6 = (if (nI 0) ≤ v ∧ v ≤ (nI 999) then nI 1 else nI 0) := hr_6
    subst hr_6
    exact W.zret (v := (if (nI 0) ≤ v ∧ v ≤ (nI 999) then nI 1 else nI 0)) hx hb hr (by split <;> rfl) (fun t ht hW => ⟨_, rfl, (show (if (nI 0) ≤ v ∧ v ≤ (nI 999) then nI 1 else nI 0) = xisset what v from (by unfold xisset; rw [if_neg cs_1, if_neg cs_3, if_pos cs_5])), ht⟩) (fun q h => by cases h) dX9_isSetting_50
  refine lv_tableOut (tgt := 51) hx hb dX9_isSetting_1 (xsw_out 3 (by decide) (fun j hj => by
      rcases (show j = 0 ∨ j = 1 ∨ j = 2 by omega) with rfl | rfl | rfl
      · exact cs_1
      · exact cs_3
      · exact cs_5)) (by decide) ?_
  refine lv_iconst (v := nI 0) hx hb dX9_isSetting_51 (by decide) ?_
  exact W.zret (v := nI 0) hx hb hr rfl (fun t ht hW => ⟨_, rfl, (show nI 0 = xisset what v from (by unfold xisset; rw [if_neg cs_1, if_neg cs_3, if_neg cs_5])), ht⟩) (fun q h => by cases h) dX9_isSetting_52
theorem hdV_X9_isSupply : yX9_isSupply.cls = RX9 ∧ yX9_isSupply.cls ≠ "java/lang/invoke/MethodHandle" ∧ yX9_isSupply.cls ≠ "java/lang/invoke/VarHandle" ∧ (parseMethodDescriptor yX9_isSupply.desc).map (fun d => d.parameters.length) = some 3 := by decide +kernel
set_option maxHeartbeats 4000000 in
set_option maxRecDepth 100000 in
theorem c_X9_isSupply (l : Launch) (dC : Nat → ClassId) (dI : Nat → Nat → Nat) (cI cF cC cZ cQ cS : ClassId) (x0 : Nat) (o0 : Nat) (x0_snapshot : Value) (x0_trial : Value) (x0_history : Value) (x0_filling : Value) (x0_delivery : Value) (x0_text : Value) (x0_textLength : Value) (x0_hasSnapshot : Value) (o1 : Nat) (o0_batches : Value) (o0_orders : Value) (o0_stages : Value) (o0_log : Value) (o0_settings : Value) (o0_rebate : Value) (o0_day : Value) (o1_size : Value) (o1_price : Value) (o3 : Nat) (o1_listed : Value) (o1_list : Value) (life : Nat → Int32) (gd : Nat) (un : Int32) (dl : Int32) (hg : gd < 12) : Met l yX9_isSupply wsX9_isSupply ({ frames := 1, cells := 0, slots := 0, locals := 22 }) (xPre (dC, dI) vwCl [.ref x0, .int (nI gd), .int un, .int dl] (xtys cI cF cC cZ cQ cS) [(x0, .inr (9, [.ref o0, x0_snapshot, x0_trial, x0_history, x0_filling, x0_delivery, x0_text, x0_textLength, x0_hasSnapshot])), (o0, .inr (8, [.ref o1, o0_batches, o0_orders, o0_stages, o0_log, o0_settings, o0_rebate, o0_day])), (o1, .inr (3, [o1_size, o1_price, .ref o3, o1_listed, o1_list])), (o3, .inl (cI, 12, .inl life))]) (vp_Si (fun r0 => r0 = (if (nI 1 ≤ un ∧ un ≤ nI 999) ∧ nI 1 ≤ dl ∧ dl ≤ life gd then nI 1 else nI 0))) 0 0 (fun _ => False) := by
  refine Met.ofW (cc := cX9_isSupply) (maxL := 4) (ret := (some .boolean)) (by decide) rfl ?_
  intro p e s m args below meth c s₁ B hml hv
  obtain ⟨rfl, hP, hK, hD0, hN⟩ := hv
  have hx := B.exec
  have hb := B.bytes
  have hr := B.returns
  have hts := atoms_spec (ws := wsX9_isSupply) B.pre
  have hown : s.vm.findClass RX9 = some m.cls := findClass_of_methodNamed B.named
  have hlocks := B.notSynchronized
  have k_12 := hts (Cond.fieldLink RX9 12 "ShelfStages" "now" "LShelfStages$State;") (by decide +kernel)
  have k_220 := hts (Cond.fieldLink RX9 220 "ShelfStages$Goods" "life" "[I") (by decide +kernel)
  have k_51 := hts (Cond.fieldLink RX9 51 "ShelfStages$State" "goods" "LShelfStages$Goods;") (by decide +kernel)
  have i_X3 : ∀ w ∈ wsX30, w ∈ wsX9_isSupply := by decide +kernel
  have i_X8 : ∀ w ∈ wsX80, w ∈ wsX9_isSupply := by decide +kernel
  have i_X9 : ∀ w ∈ wsX90, w ∈ wsX9_isSupply := by decide +kernel
  have hD := hD0
  have hl := lv_entry ([.ref x0, .int (nI gd), .int un, .int dl]) (n := 4) (Nat.le_of_ble_eq_true rfl)
  rw [lg_entry_eq]
  generalize (lg_sl ([.ref x0, .int (nI gd), .int un, .int dl]) ++ List.replicate (4 - (lg_sl ([.ref x0, .int (nI gd), .int un, .int dl])).length) Slot.unset).toArray = ls at hl ⊢
  have hl : lv_has ls 4 [(0, .ref x0), (1, .int (nI gd)), (2, .int un), (3, .int dl)] := hl
  refine lv_iload_n hx hb dX9_isSupply_0 rfl (lv_at hl 2 rfl) ?_
  refine lv_iconst (v := nI 1) hx hb dX9_isSupply_1 (by decide) ?_
  refine lv_sipush (v := nI 999) hx hb dX9_isSupply_2 (by decide) ?_
  refine xkRi (xSs (Ws' := ([] : List Cond)) (As := [.int un, .int (nI 1), .int (nI 999)]) (rest := []) (wc := []) hx hb hml hown hts (c_X9_within l dC dI cI cF cC cZ cQ cS un (nI 1) (nI 999)) 3 (fun hR => va_cwS 3 hts gX9_isSupply_X9_within rfl rfl rfl hdN_X9_within hR) ⟨Nat.le_of_ble_eq_true rfl, Nat.le_of_ble_eq_true rfl⟩ hN hK hP hD [] rfl rfl rfl hl.1 rfl (Nat.le_of_ble_eq_true rfl) dX9_isSupply_5 ⟨Nat.zero_le _, Nat.zero_le _⟩) (fun r_1 hr_1 => ?_)
  have hr_1 : r_1 = (if (nI 1) ≤ un ∧ un ≤ (nI 999) then nI 1 else nI 0) := hr_1
  rcases xi_ite inferInstance hr_1 with ⟨c_2, hr_1⟩ | ⟨c_2, hr_1⟩
  · subst hr_1
    refine xr_if1 (tgt := 35) hx hb (by decide) dX9_isSupply_8 (by decide) ?_
    refine lv_iload_n hx hb dX9_isSupply_11 rfl (lv_at hl 3 rfl) ?_
    refine lv_iconst (v := nI 1) hx hb dX9_isSupply_12 (by decide) ?_
    refine lv_aload_n hx hb dX9_isSupply_13 rfl (lv_at hl 0 rfl) ?_
    refine va_get (D := (dC, dI)) (ci := 9) (v := .ref o0) (C := RX9) (T := TX9) (N := 9) hx hb hts i_X9 hown hK hP 0 rfl rfl 0 (by decide) k_12 (fun _ h9 => h9) rfl dX9_isSupply_14 ?_
    refine va_get (D := (dC, dI)) (ci := 8) (v := .ref o1) (C := RX8) (T := TX8) (N := 8) hx hb hts i_X8 hown hK hP 1 rfl rfl 0 (by decide) k_51 (fun _ h9 => h9) rfl dX9_isSupply_17 ?_
    refine va_get (D := (dC, dI)) (ci := 3) (v := .ref o3) (C := RX3) (T := TX3) (N := 5) hx hb hts i_X3 hown hK hP 2 rfl rfl 2 (by decide) k_220 (fun _ h9 => h9) rfl dX9_isSupply_20 ?_
    refine lv_iload_n hx hb dX9_isSupply_23 rfl (lv_at hl 1 rfl) ?_
    refine xr_iald hx hb hK hP 3 0 rfl rfl (i := gd) (by omega) (by decide) dX9_isSupply_24 ?_
    refine xkRi (xSs (Ws' := ([] : List Cond)) (As := [.int dl, .int (nI 1), .int (life gd)]) (rest := []) (wc := []) hx hb hml hown hts (c_X9_within l dC dI cI cF cC cZ cQ cS dl (nI 1) (life gd)) 3 (fun hR => va_cwS 3 hts gX9_isSupply_X9_within rfl rfl rfl hdN_X9_within hR) ⟨Nat.le_of_ble_eq_true rfl, Nat.le_of_ble_eq_true rfl⟩ hN hK hP hD [] rfl rfl rfl hl.1 rfl (Nat.le_of_ble_eq_true rfl) dX9_isSupply_25 ⟨Nat.zero_le _, Nat.zero_le _⟩) (fun r_3 hr_3 => ?_)
    have hr_3 : r_3 = (if (nI 1) ≤ dl ∧ dl ≤ (life gd) then nI 1 else nI 0) := hr_3
    rcases xi_ite inferInstance hr_3 with ⟨c_4, hr_3⟩ | ⟨c_4, hr_3⟩
    · subst hr_3
      refine xr_if1 (tgt := 35) hx hb (by decide) dX9_isSupply_28 (by decide) ?_
      refine lv_iconst (v := nI 1) hx hb dX9_isSupply_31 (by decide) ?_
      refine lv_goto (tgt := 36) hx hb dX9_isSupply_32 (by decide) ?_
      exact W.zret (v := nI 1) hx hb hr rfl (fun t ht hW => ⟨_, rfl, (show nI 1 = (if (nI 1 ≤ un ∧ un ≤ nI 999) ∧ nI 1 ≤ dl ∧ dl ≤ life gd then nI 1 else nI 0) from (if_pos ⟨c_2, c_4⟩).symm), ht⟩) (fun q h => by cases h) dX9_isSupply_36
    subst hr_3
    refine xr_if0 (tgt := 35) hx hb (by decide) dX9_isSupply_28 (by decide) ?_
    refine lv_iconst (v := nI 0) hx hb dX9_isSupply_35 (by decide) ?_
    exact W.zret (v := nI 0) hx hb hr rfl (fun t ht hW => ⟨_, rfl, (show nI 0 = (if (nI 1 ≤ un ∧ un ≤ nI 999) ∧ nI 1 ≤ dl ∧ dl ≤ life gd then nI 1 else nI 0) from (if_neg (fun q => c_4 q.2)).symm), ht⟩) (fun q h => by cases h) dX9_isSupply_36
  subst hr_1
  refine xr_if0 (tgt := 35) hx hb (by decide) dX9_isSupply_8 (by decide) ?_
  refine lv_iconst (v := nI 0) hx hb dX9_isSupply_35 (by decide) ?_
  exact W.zret (v := nI 0) hx hb hr rfl (fun t ht hW => ⟨_, rfl, (show nI 0 = (if (nI 1 ≤ un ∧ un ≤ nI 999) ∧ nI 1 ≤ dl ∧ dl ≤ life gd then nI 1 else nI 0) from (if_neg (fun q => c_2 q.1)).symm), ht⟩) (fun q h => by cases h) dX9_isSupply_36
theorem hdV_X9_placeError : yX9_placeError.cls = RX9 ∧ yX9_placeError.cls ≠ "java/lang/invoke/MethodHandle" ∧ yX9_placeError.cls ≠ "java/lang/invoke/VarHandle" ∧ (parseMethodDescriptor yX9_placeError.desc).map (fun d => d.parameters.length) = some 2 := by decide +kernel
set_option maxHeartbeats 4000000 in
set_option maxRecDepth 100000 in
theorem c_X9_placeError (l : Launch) (dC : Nat → ClassId) (dI : Nat → Nat → Nat) (cI cF cC cZ cQ cS : ClassId) (x0 : Nat) (o0 : Nat) (x0_snapshot : Value) (x0_trial : Value) (x0_history : Value) (x0_filling : Value) (x0_delivery : Value) (x0_text : Value) (x0_textLength : Value) (x0_hasSnapshot : Value) (o1 : Nat) (o0_batches : Value) (o0_orders : Value) (o0_stages : Value) (o0_log : Value) (o0_settings : Value) (o0_rebate : Value) (o0_day : Value) (gz : Nat) (o1_price : Value) (o1_life : Value) (o4 : Nat) (o1_list : Value) (listed : Nat → Int32) (gq : Int32) (v : Int32) (hgz : gz ≤ 12) : Met l yX9_placeError wsX9_placeError ({ frames := 2, cells := 0, slots := 0, locals := 43 }) (xPre (dC, dI) vwCl [.ref x0, .int gq, .int v] (xtys cI cF cC cZ cQ cS) [(x0, .inr (9, [.ref o0, x0_snapshot, x0_trial, x0_history, x0_filling, x0_delivery, x0_text, x0_textLength, x0_hasSnapshot])), (o0, .inr (8, [.ref o1, o0_batches, o0_orders, o0_stages, o0_log, o0_settings, o0_rebate, o0_day])), (o1, .inr (3, [.int (nI gz), o1_price, o1_life, .ref o4, o1_list])), (o4, .inl (cI, 12, .inl listed))]) (vp_Si (fun r0 => r0 = xplerr gq v gz listed)) 0 0 (fun _ => False) := by
  refine Met.ofW (cc := cX9_placeError) (maxL := 3) (ret := (some .int)) (by decide) rfl ?_
  intro p e s m args below meth c s₁ B hml hv
  obtain ⟨rfl, hP, hK, hD0, hN⟩ := hv
  have hx := B.exec
  have hb := B.bytes
  have hr := B.returns
  have hts := atoms_spec (ws := wsX9_placeError) B.pre
  have hown : s.vm.findClass RX9 = some m.cls := findClass_of_methodNamed B.named
  have hlocks := B.notSynchronized
  have k_12 := hts (Cond.fieldLink RX9 12 "ShelfStages" "now" "LShelfStages$State;") (by decide +kernel)
  have k_51 := hts (Cond.fieldLink RX9 51 "ShelfStages$State" "goods" "LShelfStages$Goods;") (by decide +kernel)
  have k_77 := hts (Cond.fieldLink RX9 77 "ShelfStages$Goods" "listed" "[I") (by decide +kernel)
  have i_X3 : ∀ w ∈ wsX30, w ∈ wsX9_placeError := by decide +kernel
  have i_X8 : ∀ w ∈ wsX80, w ∈ wsX9_placeError := by decide +kernel
  have i_X9 : ∀ w ∈ wsX90, w ∈ wsX9_placeError := by decide +kernel
  have hD := hD0
  have hl := lv_entry ([.ref x0, .int gq, .int v]) (n := 3) (Nat.le_of_ble_eq_true rfl)
  rw [lg_entry_eq]
  generalize (lg_sl ([.ref x0, .int gq, .int v]) ++ List.replicate (3 - (lg_sl ([.ref x0, .int gq, .int v])).length) Slot.unset).toArray = ls at hl ⊢
  have hl : lv_has ls 3 [(0, .ref x0), (1, .int gq), (2, .int v)] := hl
  refine lv_aload_n hx hb dX9_placeError_0 rfl (lv_at hl 0 rfl) ?_
  refine lv_iload_n hx hb dX9_placeError_1 rfl (lv_at hl 1 rfl) ?_
  refine xkRi (xV (As := [.int gq]) (rest := []) (wc := [(x0, .inr (9, [.ref o0, x0_snapshot, x0_trial, x0_history, x0_filling, x0_delivery, x0_text, x0_textLength, x0_hasSnapshot])), (o0, .inr (8, [.ref o1, o0_batches, o0_orders, o0_stages, o0_log, o0_settings, o0_rebate, o0_day])), (o1, .inr (3, [.int (nI gz), o1_price, o1_life, .ref o4, o1_list]))]) hx hb hml hown hts (c_X9_hasGood l dC dI cI cF cC cZ cQ cS x0 o0 x0_snapshot x0_trial x0_history x0_filling x0_delivery x0_text x0_textLength x0_hasSnapshot o1 o0_batches o0_orders o0_stages o0_log o0_settings o0_rebate o0_day gz o1_price o1_life (.ref o4) o1_list gq (by omega)) 1 gX9_placeError_X9_hasGood rfl rfl rfl hdV_X9_hasGood ⟨Nat.le_of_ble_eq_true rfl, Nat.le_of_ble_eq_true rfl⟩ hN hK hP hD [0, 1, 2] rfl rfl 9 0 rfl rfl rfl hl.1 rfl (Nat.le_of_ble_eq_true rfl) dX9_placeError_2 ⟨Nat.zero_le _, Nat.zero_le _⟩) (fun r_1 hr_1 => ?_)
  have hr_1 : r_1 = (if xhas gq gz then nI 1 else nI 0) := hr_1
  rcases xi_ite inferInstance hr_1 with ⟨c_2, hr_1⟩ | ⟨c_2, hr_1⟩
  · subst hr_1
    refine xr_ifn1 (tgt := 10) hx hb (by decide) dX9_placeError_5 (by decide) ?_
    obtain ⟨kg, hkg, rfl⟩ := xhas_nI c_2
    refine lv_iload_n hx hb dX9_placeError_10 rfl (lv_at hl 2 rfl) ?_
    refine lv_if_ge (tgt := 17) hx hb dX9_placeError_11 (by decide) (fun c_3 => ?_) (fun c_3 => ?_)
    · skip
      refine lv_iload_n hx hb dX9_placeError_17 rfl (lv_at hl 2 rfl) ?_
      refine lv_aload_n hx hb dX9_placeError_18 rfl (lv_at hl 0 rfl) ?_
      refine va_get (D := (dC, dI)) (ci := 9) (v := .ref o0) (C := RX9) (T := TX9) (N := 9) hx hb hts i_X9 hown hK hP 0 rfl rfl 0 (by decide) k_12 (fun _ h9 => h9) rfl dX9_placeError_19 ?_
      refine va_get (D := (dC, dI)) (ci := 8) (v := .ref o1) (C := RX8) (T := TX8) (N := 8) hx hb hts i_X8 hown hK hP 1 rfl rfl 0 (by decide) k_51 (fun _ h9 => h9) rfl dX9_placeError_22 ?_
      refine va_get (D := (dC, dI)) (ci := 3) (v := .ref o4) (C := RX3) (T := TX3) (N := 5) hx hb hts i_X3 hown hK hP 2 rfl rfl 3 (by decide) k_77 (fun _ h9 => h9) rfl dX9_placeError_25 ?_
      refine lv_iload_n hx hb dX9_placeError_28 rfl (lv_at hl 1 rfl) ?_
      refine xr_iald hx hb hK hP 3 0 rfl rfl (i := kg) (by omega) (by decide) dX9_placeError_29 ?_
      refine lv_icmp_ge (tgt := 37) hx hb dX9_placeError_30 (by decide) (fun c_4 => ?_) (fun c_4 => ?_)
      · skip
        refine lv_bipush (v := (-5)) hx hb dX9_placeError_37 (by decide) ?_
        exact W.iret (v := (-5)) hx hb hr (fun t ht hW => ⟨_, rfl, (show (-5) = xplerr (nI kg) v gz listed from (by unfold xplerr; rw [if_neg (fun q => q c_2), if_neg (Int32.not_lt.mpr c_3), nI_clamp (by omega), if_pos c_4])), ht⟩) (fun q h => by cases h) dX9_placeError_39
      refine lv_iconst (v := nI 0) hx hb dX9_placeError_33 (by decide) ?_
      refine lv_goto (tgt := 39) hx hb dX9_placeError_34 (by decide) ?_
      exact W.iret (v := nI 0) hx hb hr (fun t ht hW => ⟨_, rfl, (show nI 0 = xplerr (nI kg) v gz listed from (by unfold xplerr; rw [if_neg (fun q => q c_2), if_neg (Int32.not_lt.mpr c_3), nI_clamp (by omega), if_neg c_4])), ht⟩) (fun q h => by cases h) dX9_placeError_39
    refine lv_bipush (v := (-2)) hx hb dX9_placeError_14 (by decide) ?_
    exact W.iret (v := (-2)) hx hb hr (fun t ht hW => ⟨_, rfl, (show (-2) = xplerr (nI kg) v gz listed from (by unfold xplerr; rw [if_neg (fun q => q c_2), if_pos (Int32.not_le.mp c_3)])), ht⟩) (fun q h => by cases h) dX9_placeError_16
  subst hr_1
  refine xr_ifn0 (tgt := 10) hx hb (by decide) dX9_placeError_5 (by decide) ?_
  refine lv_iconst (v := (-1)) hx hb dX9_placeError_8 (by decide) ?_
  exact W.iret (v := (-1)) hx hb hr (fun t ht hW => ⟨_, rfl, (show (-1) = xplerr gq v gz listed from (by unfold xplerr; rw [if_pos c_2])), ht⟩) (fun q h => by cases h) dX9_placeError_9
theorem hdV_X9_wishError : yX9_wishError.cls = RX9 ∧ yX9_wishError.cls ≠ "java/lang/invoke/MethodHandle" ∧ yX9_wishError.cls ≠ "java/lang/invoke/VarHandle" ∧ (parseMethodDescriptor yX9_wishError.desc).map (fun d => d.parameters.length) = some 3 := by decide +kernel
set_option maxHeartbeats 4000000 in
set_option maxRecDepth 100000 in
theorem c_X9_wishError (l : Launch) (dC : Nat → ClassId) (dI : Nat → Nat → Nat) (cI cF cC cZ cQ cS : ClassId) (x0 : Nat) (o0 : Nat) (x0_snapshot : Value) (x0_trial : Value) (x0_history : Value) (x0_filling : Value) (x0_delivery : Value) (x0_text : Value) (x0_textLength : Value) (x0_hasSnapshot : Value) (o1 : Nat) (o0_batches : Value) (o0_orders : Value) (o0_stages : Value) (o0_log : Value) (o0_settings : Value) (o0_rebate : Value) (o0_day : Value) (gz : Nat) (o1_price : Value) (o1_life : Value) (o1_listed : Value) (o1_list : Value) (gq : Int32) (un : Int32) (le : Int32) (hgz : gz ≤ 12) : Met l yX9_wishError wsX9_wishError ({ frames := 2, cells := 0, slots := 0, locals := 43 }) (xPre (dC, dI) vwCl [.ref x0, .int gq, .int un, .int le] (xtys cI cF cC cZ cQ cS) [(x0, .inr (9, [.ref o0, x0_snapshot, x0_trial, x0_history, x0_filling, x0_delivery, x0_text, x0_textLength, x0_hasSnapshot])), (o0, .inr (8, [.ref o1, o0_batches, o0_orders, o0_stages, o0_log, o0_settings, o0_rebate, o0_day])), (o1, .inr (3, [.int (nI gz), o1_price, o1_life, o1_listed, o1_list]))]) (vp_Si (fun r0 => r0 = xwisherr gq un le gz)) 0 0 (fun _ => False) := by
  refine Met.ofW (cc := cX9_wishError) (maxL := 5) (ret := (some .int)) (by decide) rfl ?_
  intro p e s m args below meth c s₁ B hml hv
  obtain ⟨rfl, hP, hK, hD0, hN⟩ := hv
  have hx := B.exec
  have hb := B.bytes
  have hr := B.returns
  have hts := atoms_spec (ws := wsX9_wishError) B.pre
  have hown : s.vm.findClass RX9 = some m.cls := findClass_of_methodNamed B.named
  have hlocks := B.notSynchronized
  have hD := hD0
  have hl := lv_entry ([.ref x0, .int gq, .int un, .int le]) (n := 5) (Nat.le_of_ble_eq_true rfl)
  rw [lg_entry_eq]
  generalize (lg_sl ([.ref x0, .int gq, .int un, .int le]) ++ List.replicate (5 - (lg_sl ([.ref x0, .int gq, .int un, .int le])).length) Slot.unset).toArray = ls at hl ⊢
  have hl : lv_has ls 5 [(0, .ref x0), (1, .int gq), (2, .int un), (3, .int le)] := hl
  refine lv_aload_n hx hb dX9_wishError_0 rfl (lv_at hl 0 rfl) ?_
  refine lv_iload_n hx hb dX9_wishError_1 rfl (lv_at hl 1 rfl) ?_
  refine xkRi (xV (As := [.int gq]) (rest := []) (wc := [(x0, .inr (9, [.ref o0, x0_snapshot, x0_trial, x0_history, x0_filling, x0_delivery, x0_text, x0_textLength, x0_hasSnapshot])), (o0, .inr (8, [.ref o1, o0_batches, o0_orders, o0_stages, o0_log, o0_settings, o0_rebate, o0_day])), (o1, .inr (3, [.int (nI gz), o1_price, o1_life, o1_listed, o1_list]))]) hx hb hml hown hts (c_X9_hasGood l dC dI cI cF cC cZ cQ cS x0 o0 x0_snapshot x0_trial x0_history x0_filling x0_delivery x0_text x0_textLength x0_hasSnapshot o1 o0_batches o0_orders o0_stages o0_log o0_settings o0_rebate o0_day gz o1_price o1_life o1_listed o1_list gq (by omega)) 1 gX9_wishError_X9_hasGood rfl rfl rfl hdV_X9_hasGood ⟨Nat.le_of_ble_eq_true rfl, Nat.le_of_ble_eq_true rfl⟩ hN hK hP hD [0, 1, 2] rfl rfl 9 0 rfl rfl rfl hl.1 rfl (Nat.le_of_ble_eq_true rfl) dX9_wishError_2 ⟨Nat.zero_le _, Nat.zero_le _⟩) (fun r_1 hr_1 => ?_)
  have hr_1 : r_1 = (if xhas gq gz then nI 1 else nI 0) := hr_1
  rcases xi_ite inferInstance hr_1 with ⟨c_2, hr_1⟩ | ⟨c_2, hr_1⟩
  · subst hr_1
    refine xr_ifn1 (tgt := 10) hx hb (by decide) dX9_wishError_5 (by decide) ?_
    refine lv_iload_n hx hb dX9_wishError_10 rfl (lv_at hl 2 rfl) ?_
    refine lv_iconst (v := nI 1) hx hb dX9_wishError_11 (by decide) ?_
    refine lv_sipush (v := nI 999) hx hb dX9_wishError_12 (by decide) ?_
    refine xkRi (xSs (Ws' := ([] : List Cond)) (As := [.int un, .int (nI 1), .int (nI 999)]) (rest := []) (wc := []) hx hb hml hown hts (c_X9_within l dC dI cI cF cC cZ cQ cS un (nI 1) (nI 999)) 3 (fun hR => va_cwS 3 hts gX9_wishError_X9_within rfl rfl rfl hdN_X9_within hR) ⟨Nat.le_of_ble_eq_true rfl, Nat.le_of_ble_eq_true rfl⟩ hN hK hP hD [] rfl rfl rfl hl.1 rfl (Nat.le_of_ble_eq_true rfl) dX9_wishError_15 ⟨Nat.zero_le _, Nat.zero_le _⟩) (fun r_3 hr_3 => ?_)
    have hr_3 : r_3 = (if (nI 1) ≤ un ∧ un ≤ (nI 999) then nI 1 else nI 0) := hr_3
    rcases xi_ite inferInstance hr_3 with ⟨c_4, hr_3⟩ | ⟨c_4, hr_3⟩
    · subst hr_3
      refine xr_if1 (tgt := 35) hx hb (by decide) dX9_wishError_18 (by decide) ?_
      refine lv_iload_n hx hb dX9_wishError_21 rfl (lv_at hl 3 rfl) ?_
      refine lv_iconst (v := nI 0) hx hb dX9_wishError_22 (by decide) ?_
      refine lv_bipush (v := nI 60) hx hb dX9_wishError_23 (by decide) ?_
      refine xkRi (xSs (Ws' := ([] : List Cond)) (As := [.int le, .int (nI 0), .int (nI 60)]) (rest := []) (wc := []) hx hb hml hown hts (c_X9_within l dC dI cI cF cC cZ cQ cS le (nI 0) (nI 60)) 3 (fun hR => va_cwS 3 hts gX9_wishError_X9_within rfl rfl rfl hdN_X9_within hR) ⟨Nat.le_of_ble_eq_true rfl, Nat.le_of_ble_eq_true rfl⟩ hN hK hP hD [] rfl rfl rfl hl.1 rfl (Nat.le_of_ble_eq_true rfl) dX9_wishError_25 ⟨Nat.zero_le _, Nat.zero_le _⟩) (fun r_5 hr_5 => ?_)
      have hr_5 : r_5 = (if (nI 0) ≤ le ∧ le ≤ (nI 60) then nI 1 else nI 0) := hr_5
      rcases xi_ite inferInstance hr_5 with ⟨c_6, hr_5⟩ | ⟨c_6, hr_5⟩
      · subst hr_5
        refine xr_if1 (tgt := 35) hx hb (by decide) dX9_wishError_28 (by decide) ?_
        refine lv_iconst (v := nI 1) hx hb dX9_wishError_31 (by decide) ?_
        refine lv_goto (tgt := 36) hx hb dX9_wishError_32 (by decide) ?_
        refine lv_istore (lv' := [(4, .int (nI 1)), (0, .ref x0), (1, .int gq), (2, .int un), (3, .int le)]) hx hb dX9_wishError_36 hl (by decide) rfl (fun ls hl => ?_)
        refine lv_iload hx hb dX9_wishError_38 (lv_at hl 0 rfl) ?_
        refine xr_if1 (tgt := 47) hx hb (by decide) dX9_wishError_40 (by decide) ?_
        refine lv_iconst (v := nI 0) hx hb dX9_wishError_43 (by decide) ?_
        refine lv_goto (tgt := 49) hx hb dX9_wishError_44 (by decide) ?_
        exact W.iret (v := nI 0) hx hb hr (fun t ht hW => ⟨_, rfl, (show nI 0 = xwisherr gq un le gz from (by unfold xwisherr; rw [if_neg (fun q => q c_2), if_neg (fun q => q ⟨c_4, c_6⟩)])), ht⟩) (fun q h => by cases h) dX9_wishError_49
      subst hr_5
      refine xr_if0 (tgt := 35) hx hb (by decide) dX9_wishError_28 (by decide) ?_
      refine lv_iconst (v := nI 0) hx hb dX9_wishError_35 (by decide) ?_
      refine lv_istore (lv' := [(4, .int (nI 0)), (0, .ref x0), (1, .int gq), (2, .int un), (3, .int le)]) hx hb dX9_wishError_36 hl (by decide) rfl (fun ls hl => ?_)
      refine lv_iload hx hb dX9_wishError_38 (lv_at hl 0 rfl) ?_
      refine xr_if0 (tgt := 47) hx hb (by decide) dX9_wishError_40 (by decide) ?_
      refine lv_bipush (v := (-2)) hx hb dX9_wishError_47 (by decide) ?_
      exact W.iret (v := (-2)) hx hb hr (fun t ht hW => ⟨_, rfl, (show (-2) = xwisherr gq un le gz from (by unfold xwisherr; rw [if_neg (fun q => q c_2), if_pos (fun q => c_6 q.2)])), ht⟩) (fun q h => by cases h) dX9_wishError_49
    subst hr_3
    refine xr_if0 (tgt := 35) hx hb (by decide) dX9_wishError_18 (by decide) ?_
    refine lv_iconst (v := nI 0) hx hb dX9_wishError_35 (by decide) ?_
    refine lv_istore (lv' := [(4, .int (nI 0)), (0, .ref x0), (1, .int gq), (2, .int un), (3, .int le)]) hx hb dX9_wishError_36 hl (by decide) rfl (fun ls hl => ?_)
    refine lv_iload hx hb dX9_wishError_38 (lv_at hl 0 rfl) ?_
    refine xr_if0 (tgt := 47) hx hb (by decide) dX9_wishError_40 (by decide) ?_
    refine lv_bipush (v := (-2)) hx hb dX9_wishError_47 (by decide) ?_
    exact W.iret (v := (-2)) hx hb hr (fun t ht hW => ⟨_, rfl, (show (-2) = xwisherr gq un le gz from (by unfold xwisherr; rw [if_neg (fun q => q c_2), if_pos (fun q => c_4 q.1)])), ht⟩) (fun q h => by cases h) dX9_wishError_49
  subst hr_1
  refine xr_ifn0 (tgt := 10) hx hb (by decide) dX9_wishError_5 (by decide) ?_
  refine lv_iconst (v := (-1)) hx hb dX9_wishError_8 (by decide) ?_
  exact W.iret (v := (-1)) hx hb hr (fun t ht hW => ⟨_, rfl, (show (-1) = xwisherr gq un le gz from (by unfold xwisherr; rw [if_pos c_2])), ht⟩) (fun q h => by cases h) dX9_wishError_9
theorem hdN_X9_notANumber : yX9_notANumber.cls ≠ "java/lang/invoke/MethodHandle" ∧ yX9_notANumber.cls ≠ "java/lang/invoke/VarHandle" ∧ (parseMethodDescriptor yX9_notANumber.desc).map (fun d => d.parameters.length) = some 0 := by decide +kernel
theorem hdS_X9_notANumber : yX9_notANumber.cls = RX9 ∧ yX9_notANumber.cls ≠ "java/lang/invoke/MethodHandle" ∧ yX9_notANumber.cls ≠ "java/lang/invoke/VarHandle" ∧ (parseMethodDescriptor yX9_notANumber.desc).map (fun d => d.parameters.length) = some 0 := by decide +kernel
set_option maxHeartbeats 4000000 in
set_option maxRecDepth 100000 in
theorem c_X9_notANumber (l : Launch) (dC : Nat → ClassId) (dI : Nat → Nat → Nat) (cI cF cC cZ cQ cS : ClassId) : Met l yX9_notANumber wsX9_notANumber ({ frames := 0, cells := 0, slots := 0, locals := 0 }) (xPre (dC, dI) vwCl [] (xtys cI cF cC cZ cQ cS) []) (vp_Sf (fun r0 => r0 = 2143289344)) 0 0 (fun _ => False) := by
  refine Met.ofW (cc := cX9_notANumber) (maxL := 0) (ret := (some .float)) (by decide) rfl ?_
  intro p e s m args below meth c s₁ B hml hv
  obtain ⟨rfl, hP, hK, hD0, hN⟩ := hv
  have hx := B.exec
  have hb := B.bytes
  have hr := B.returns
  have hts := atoms_spec (ws := wsX9_notANumber) B.pre
  have hown : s.vm.findClass RX9 = some m.cls := findClass_of_methodNamed B.named
  have hlocks := B.notSynchronized
  have kf_356 := hts (Cond.constantFloat RX9 356 (2143289344)) (by decide +kernel)
  have hD := hD0
  have hl := lv_entry ([]) (n := 0) (Nat.le_of_ble_eq_true rfl)
  rw [lg_entry_eq]
  generalize (lg_sl ([]) ++ List.replicate (0 - (lg_sl ([])).length) Slot.unset).toArray = ls at hl ⊢
  have hl : lv_has ls 0 [] := hl
  refine lv_ldcwf hx hb hown kf_356 dX9_notANumber_0 ?_
  exact W.fret (v := 2143289344) hx hb hr (fun t ht hW => ⟨_, rfl, (show 2143289344 = 2143289344 from rfl), ht⟩) (fun q h => by cases h) dX9_notANumber_3
