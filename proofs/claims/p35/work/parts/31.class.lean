theorem hdV_X9_addGood : yX9_addGood.cls = RX9 ∧ yX9_addGood.cls ≠ "java/lang/invoke/MethodHandle" ∧ yX9_addGood.cls ≠ "java/lang/invoke/VarHandle" ∧ (parseMethodDescriptor yX9_addGood.desc).map (fun d => d.parameters.length) = some 2 := by decide +kernel
set_option maxHeartbeats 4000000 in
set_option maxRecDepth 100000 in
theorem c_X9_addGoode (l : Launch) (dC : Nat → ClassId) (dI : Nat → Nat → Nat) (cI cF cC cZ cQ cS : ClassId) (x0 : Nat) (o0 : Nat) (x0_snapshot : Value) (x0_trial : Value) (x0_history : Value) (x0_filling : Value) (x0_delivery : Value) (x0_text : Value) (x0_textLength : Value) (x0_hasSnapshot : Value) (o1 : Nat) (o0_batches : Value) (o0_orders : Value) (o0_stages : Value) (o0_log : Value) (o0_settings : Value) (o0_rebate : Value) (o0_day : Value) (gz : Nat) (o1_price : Value) (o1_life : Value) (o1_listed : Value) (o1_list : Value) (price : Int32) (life : Int32) (hgz : gz ≤ 12) (he : ¬ eAddGood price life gz = nI 0) : Met l yX9_addGood wsX9_addGood ({ frames := 1, cells := 0, slots := 0, locals := 22 }) (xPre (dC, dI) vwCl [.ref x0, .int price, .int life] (xtys cI cF cC cZ cQ cS) [(x0, .inr (9, [.ref o0, x0_snapshot, x0_trial, x0_history, x0_filling, x0_delivery, x0_text, x0_textLength, x0_hasSnapshot])), (o0, .inr (8, [.ref o1, o0_batches, o0_orders, o0_stages, o0_log, o0_settings, o0_rebate, o0_day])), (o1, .inr (3, [.int (nI gz), o1_price, o1_life, o1_listed, o1_list]))]) (vp_Si (fun r0 => r0 = eAddGood price life gz)) 0 0 (fun _ => False) := by
  refine Met.ofW (cc := cX9_addGood) (maxL := 3) (ret := (some .int)) (by decide) rfl ?_
  intro p e s m args below meth c s₁ B hml hv
  obtain ⟨rfl, hP, hK, hD0, hN⟩ := hv
  have hx := B.exec
  have hb := B.bytes
  have hr := B.returns
  have hts := atoms_spec (ws := wsX9_addGood) B.pre
  have hown : s.vm.findClass RX9 = some m.cls := findClass_of_methodNamed B.named
  have hlocks := B.notSynchronized
  have k_12 := hts (Cond.fieldLink RX9 12 "ShelfStages" "now" "LShelfStages$State;") (by decide +kernel)
  have k_51 := hts (Cond.fieldLink RX9 51 "ShelfStages$State" "goods" "LShelfStages$Goods;") (by decide +kernel)
  have k_55 := hts (Cond.fieldLink RX9 55 "ShelfStages$Goods" "size" "I") (by decide +kernel)
  have i_X3 : ∀ w ∈ wsX30, w ∈ wsX9_addGood := by decide +kernel
  have i_X8 : ∀ w ∈ wsX80, w ∈ wsX9_addGood := by decide +kernel
  have i_X9 : ∀ w ∈ wsX90, w ∈ wsX9_addGood := by decide +kernel
  have hD := hD0
  have hl := lv_entry ([.ref x0, .int price, .int life]) (n := 3) (Nat.le_of_ble_eq_true rfl)
  rw [lg_entry_eq]
  generalize (lg_sl ([.ref x0, .int price, .int life]) ++ List.replicate (3 - (lg_sl ([.ref x0, .int price, .int life])).length) Slot.unset).toArray = ls at hl ⊢
  have hl : lv_has ls 3 [(0, .ref x0), (1, .int price), (2, .int life)] := hl
  refine lv_iload_n hx hb dX9_addGood_0 rfl (lv_at hl 1 rfl) ?_
  refine lv_iconst (v := nI 1) hx hb dX9_addGood_1 (by decide) ?_
  refine lv_sipush (v := nI 9999) hx hb dX9_addGood_2 (by decide) ?_
  refine xkRi (xSs (Ws' := ([] : List Cond)) (As := [.int price, .int (nI 1), .int (nI 9999)]) (rest := []) (wc := []) hx hb hml hown hts (c_X9_within l dC dI cI cF cC cZ cQ cS price (nI 1) (nI 9999)) 3 (fun hR => va_cwS 3 hts gX9_addGood_X9_within rfl rfl rfl hdN_X9_within hR) ⟨Nat.le_of_ble_eq_true rfl, Nat.le_of_ble_eq_true rfl⟩ hN hK hP hD [] rfl rfl rfl hl.1 rfl (Nat.le_of_ble_eq_true rfl) dX9_addGood_5 ⟨Nat.zero_le _, Nat.zero_le _⟩) (fun r_1 hr_1 => ?_)
  have hr_1 : r_1 = (if (nI 1) ≤ price ∧ price ≤ (nI 9999) then nI 1 else nI 0) := hr_1
  rcases xi_ite inferInstance hr_1 with ⟨c_2, hr_1⟩ | ⟨c_2, hr_1⟩
  · subst hr_1
    refine xr_if1 (tgt := 21) hx hb (by decide) dX9_addGood_8 (by decide) ?_
    refine lv_iload_n hx hb dX9_addGood_11 rfl (lv_at hl 2 rfl) ?_
    refine lv_iconst (v := nI 1) hx hb dX9_addGood_12 (by decide) ?_
    refine lv_bipush (v := nI 60) hx hb dX9_addGood_13 (by decide) ?_
    refine xkRi (xSs (Ws' := ([] : List Cond)) (As := [.int life, .int (nI 1), .int (nI 60)]) (rest := []) (wc := []) hx hb hml hown hts (c_X9_within l dC dI cI cF cC cZ cQ cS life (nI 1) (nI 60)) 3 (fun hR => va_cwS 3 hts gX9_addGood_X9_within rfl rfl rfl hdN_X9_within hR) ⟨Nat.le_of_ble_eq_true rfl, Nat.le_of_ble_eq_true rfl⟩ hN hK hP hD [] rfl rfl rfl hl.1 rfl (Nat.le_of_ble_eq_true rfl) dX9_addGood_15 ⟨Nat.zero_le _, Nat.zero_le _⟩) (fun r_3 hr_3 => ?_)
    have hr_3 : r_3 = (if (nI 1) ≤ life ∧ life ≤ (nI 60) then nI 1 else nI 0) := hr_3
    rcases xi_ite inferInstance hr_3 with ⟨c_4, hr_3⟩ | ⟨c_4, hr_3⟩
    · subst hr_3
      refine xr_ifn1 (tgt := 24) hx hb (by decide) dX9_addGood_18 (by decide) ?_
      refine lv_aload_n hx hb dX9_addGood_24 rfl (lv_at hl 0 rfl) ?_
      refine va_get (D := (dC, dI)) (ci := 9) (v := .ref o0) (C := RX9) (T := TX9) (N := 9) hx hb hts i_X9 hown hK hP 0 rfl rfl 0 (by decide) k_12 (fun _ h9 => h9) rfl dX9_addGood_25 ?_
      refine va_get (D := (dC, dI)) (ci := 8) (v := .ref o1) (C := RX8) (T := TX8) (N := 8) hx hb hts i_X8 hown hK hP 1 rfl rfl 0 (by decide) k_51 (fun _ h9 => h9) rfl dX9_addGood_28 ?_
      refine va_get (D := (dC, dI)) (ci := 3) (v := .int (nI gz)) (C := RX3) (T := TX3) (N := 5) hx hb hts i_X3 hown hK hP 2 rfl rfl 0 (by decide) k_55 (fun _ h9 => h9) rfl dX9_addGood_31 ?_
      refine lv_bipush (v := nI 12) hx hb dX9_addGood_34 (by decide) ?_
      refine xr_lt_n (tgt := 42) hx hb (by omega) (by omega) dX9_addGood_36 (by decide) (fun c_5 => False.elim (by exact he (by unfold eAddGood; rw [if_neg (fun z9 => z9.elim (fun z9 => z9 c_2) (fun z9 => z9 c_4)), if_neg (by omega)]))) (fun c_5 => ?_)
      refine lv_bipush (v := (-3)) hx hb dX9_addGood_39 (by decide) ?_
      exact W.iret (v := (-3)) hx hb hr (fun t ht hW => ⟨_, rfl, (show (-3) = eAddGood price life gz from (by unfold eAddGood; rw [if_neg (fun z9 => z9.elim (fun z9 => z9 c_2) (fun z9 => z9 c_4)), if_pos c_5])), ht⟩) (fun q h => by cases h) dX9_addGood_41
    subst hr_3
    refine xr_ifn0 (tgt := 24) hx hb (by decide) dX9_addGood_18 (by decide) ?_
    refine lv_bipush (v := (-2)) hx hb dX9_addGood_21 (by decide) ?_
    exact W.iret (v := (-2)) hx hb hr (fun t ht hW => ⟨_, rfl, (show (-2) = eAddGood price life gz from (by unfold eAddGood; rw [if_pos (Or.inr c_4)])), ht⟩) (fun q h => by cases h) dX9_addGood_23
  subst hr_1
  refine xr_if0 (tgt := 21) hx hb (by decide) dX9_addGood_8 (by decide) ?_
  refine lv_bipush (v := (-2)) hx hb dX9_addGood_21 (by decide) ?_
  exact W.iret (v := (-2)) hx hb hr (fun t ht hW => ⟨_, rfl, (show (-2) = eAddGood price life gz from (by unfold eAddGood; rw [if_pos (Or.inl c_2)])), ht⟩) (fun q h => by cases h) dX9_addGood_23
theorem hdV_X9_pass : yX9_pass.cls = RX9 ∧ yX9_pass.cls ≠ "java/lang/invoke/MethodHandle" ∧ yX9_pass.cls ≠ "java/lang/invoke/VarHandle" ∧ (parseMethodDescriptor yX9_pass.desc).map (fun d => d.parameters.length) = some 1 := by decide +kernel
set_option maxHeartbeats 4000000 in
set_option maxRecDepth 100000 in
theorem c_X9_passe (l : Launch) (dC : Nat → ClassId) (dI : Nat → Nat → Nat) (cI cF cC cZ cQ cS : ClassId) (x0 : Nat) (o0 : Nat) (x0_snapshot : Value) (x0_trial : Value) (x0_history : Value) (x0_filling : Value) (x0_delivery : Value) (x0_text : Value) (x0_textLength : Value) (x0_hasSnapshot : Value) (day : Int32) (o0_goods : Value) (o0_batches : Value) (o0_orders : Value) (o0_stages : Value) (o0_log : Value) (o0_settings : Value) (o0_rebate : Value) (days : Int32) (he : ¬ ePass days day = nI 0) : Met l yX9_pass wsX9_pass ({ frames := 1, cells := 0, slots := 0, locals := 22 }) (xPre (dC, dI) vwCl [.ref x0, .int days] (xtys cI cF cC cZ cQ cS) [(x0, .inr (9, [.ref o0, x0_snapshot, x0_trial, x0_history, x0_filling, x0_delivery, x0_text, x0_textLength, x0_hasSnapshot])), (o0, .inr (8, [o0_goods, o0_batches, o0_orders, o0_stages, o0_log, o0_settings, o0_rebate, .int day]))]) (vp_Si (fun r0 => r0 = ePass days day)) 0 0 (fun _ => False) := by
  refine Met.ofW (cc := cX9_pass) (maxL := 2) (ret := (some .int)) (by decide) rfl ?_
  intro p e s m args below meth c s₁ B hml hv
  obtain ⟨rfl, hP, hK, hD0, hN⟩ := hv
  have hx := B.exec
  have hb := B.bytes
  have hr := B.returns
  have hts := atoms_spec (ws := wsX9_pass) B.pre
  have hown : s.vm.findClass RX9 = some m.cls := findClass_of_methodNamed B.named
  have hlocks := B.notSynchronized
  have k_12 := hts (Cond.fieldLink RX9 12 "ShelfStages" "now" "LShelfStages$State;") (by decide +kernel)
  have k_172 := hts (Cond.fieldLink RX9 172 "ShelfStages$State" "day" "I") (by decide +kernel)
  have i_X8 : ∀ w ∈ wsX80, w ∈ wsX9_pass := by decide +kernel
  have i_X9 : ∀ w ∈ wsX90, w ∈ wsX9_pass := by decide +kernel
  have hD := hD0
  have hl := lv_entry ([.ref x0, .int days]) (n := 2) (Nat.le_of_ble_eq_true rfl)
  rw [lg_entry_eq]
  generalize (lg_sl ([.ref x0, .int days]) ++ List.replicate (2 - (lg_sl ([.ref x0, .int days])).length) Slot.unset).toArray = ls at hl ⊢
  have hl : lv_has ls 2 [(0, .ref x0), (1, .int days)] := hl
  refine lv_iload_n hx hb dX9_pass_0 rfl (lv_at hl 1 rfl) ?_
  refine lv_iconst (v := nI 1) hx hb dX9_pass_1 (by decide) ?_
  refine lv_bipush (v := nI 60) hx hb dX9_pass_2 (by decide) ?_
  refine xkRi (xSs (Ws' := ([] : List Cond)) (As := [.int days, .int (nI 1), .int (nI 60)]) (rest := []) (wc := []) hx hb hml hown hts (c_X9_within l dC dI cI cF cC cZ cQ cS days (nI 1) (nI 60)) 3 (fun hR => va_cwS 3 hts gX9_pass_X9_within rfl rfl rfl hdN_X9_within hR) ⟨Nat.le_of_ble_eq_true rfl, Nat.le_of_ble_eq_true rfl⟩ hN hK hP hD [] rfl rfl rfl hl.1 rfl (Nat.le_of_ble_eq_true rfl) dX9_pass_4 ⟨Nat.zero_le _, Nat.zero_le _⟩) (fun r_1 hr_1 => ?_)
  have hr_1 : r_1 = (if (nI 1) ≤ days ∧ days ≤ (nI 60) then nI 1 else nI 0) := hr_1
  rcases xi_ite inferInstance hr_1 with ⟨c_2, hr_1⟩ | ⟨c_2, hr_1⟩
  · subst hr_1
    refine xr_ifn1 (tgt := 13) hx hb (by decide) dX9_pass_7 (by decide) ?_
    refine lv_aload_n hx hb dX9_pass_13 rfl (lv_at hl 0 rfl) ?_
    refine va_get (D := (dC, dI)) (ci := 9) (v := .ref o0) (C := RX9) (T := TX9) (N := 9) hx hb hts i_X9 hown hK hP 0 rfl rfl 0 (by decide) k_12 (fun _ h9 => h9) rfl dX9_pass_14 ?_
    refine va_get (D := (dC, dI)) (ci := 8) (v := .int day) (C := RX8) (T := TX8) (N := 8) hx hb hts i_X8 hown hK hP 1 rfl rfl 7 (by decide) k_172 (fun _ h9 => h9) rfl dX9_pass_17 ?_
    refine lv_iload_n hx hb dX9_pass_20 rfl (lv_at hl 1 rfl) ?_
    refine lv_iadd hx hb dX9_pass_21 ?_
    refine lv_sipush (v := nI 9999) hx hb dX9_pass_22 (by decide) ?_
    refine lv_icmp_le (tgt := 31) hx hb dX9_pass_25 (by decide) (fun c_3 => False.elim (by exact he (by unfold ePass; rw [if_neg (fun z9 => z9 c_2), if_neg (fun z9 => z9 c_3)]))) (fun c_3 => ?_)
    refine lv_bipush (v := (-4)) hx hb dX9_pass_28 (by decide) ?_
    exact W.iret (v := (-4)) hx hb hr (fun t ht hW => ⟨_, rfl, (show (-4) = ePass days day from (by unfold ePass; rw [if_neg (fun z9 => z9 c_2), if_pos c_3])), ht⟩) (fun q h => by cases h) dX9_pass_30
  subst hr_1
  refine xr_ifn0 (tgt := 13) hx hb (by decide) dX9_pass_7 (by decide) ?_
  refine lv_bipush (v := (-2)) hx hb dX9_pass_10 (by decide) ?_
  exact W.iret (v := (-2)) hx hb hr (fun t ht hW => ⟨_, rfl, (show (-2) = ePass days day from (by unfold ePass; rw [if_pos c_2])), ht⟩) (fun q h => by cases h) dX9_pass_12
theorem hdV_X9_bring : yX9_bring.cls = RX9 ∧ yX9_bring.cls ≠ "java/lang/invoke/MethodHandle" ∧ yX9_bring.cls ≠ "java/lang/invoke/VarHandle" ∧ (parseMethodDescriptor yX9_bring.desc).map (fun d => d.parameters.length) = some 3 := by decide +kernel
set_option maxHeartbeats 4000000 in
set_option maxRecDepth 100000 in
theorem c_X9_bringu (l : Launch) (dC : Nat → ClassId) (dI : Nat → Nat → Nat) (cI cF cC cZ cQ cS : ClassId) (x0 : Nat) (o0 : Nat) (x0_snapshot : Value) (x0_trial : Value) (x0_history : Value) (x0_filling : Value) (x0_delivery : Value) (x0_text : Value) (x0_textLength : Value) (x0_hasSnapshot : Value) (o1 : Nat) (o0_batches : Value) (o0_orders : Value) (o0_stages : Value) (o0_log : Value) (o0_settings : Value) (o0_rebate : Value) (o0_day : Value) (gz : Nat) (o1_price : Value) (o1_life : Value) (o1_listed : Value) (o1_list : Value) (gq : Int32) (un : Int32) (dl : Int32) (hm : gz ≤ 12) (hg : ¬ xhas gq gz) : Met l yX9_bring wsX9_bring ({ frames := 2, cells := 0, slots := 0, locals := 43 }) (xPre (dC, dI) vwCl [.ref x0, .int gq, .int un, .int dl] (xtys cI cF cC cZ cQ cS) [(x0, .inr (9, [.ref o0, x0_snapshot, x0_trial, x0_history, x0_filling, x0_delivery, x0_text, x0_textLength, x0_hasSnapshot])), (o0, .inr (8, [.ref o1, o0_batches, o0_orders, o0_stages, o0_log, o0_settings, o0_rebate, o0_day])), (o1, .inr (3, [.int (nI gz), o1_price, o1_life, o1_listed, o1_list]))]) (vp_Si (fun r0 => r0 = (-1))) 0 0 (fun _ => False) := by
  refine Met.ofW (cc := cX9_bring) (maxL := 4) (ret := (some .int)) (by decide) rfl ?_
  intro p e s m args below meth c s₁ B hml hv
  obtain ⟨rfl, hP, hK, hD0, hN⟩ := hv
  have hx := B.exec
  have hb := B.bytes
  have hr := B.returns
  have hts := atoms_spec (ws := wsX9_bring) B.pre
  have hown : s.vm.findClass RX9 = some m.cls := findClass_of_methodNamed B.named
  have hlocks := B.notSynchronized
  have hD := hD0
  have hl := lv_entry ([.ref x0, .int gq, .int un, .int dl]) (n := 4) (Nat.le_of_ble_eq_true rfl)
  rw [lg_entry_eq]
  generalize (lg_sl ([.ref x0, .int gq, .int un, .int dl]) ++ List.replicate (4 - (lg_sl ([.ref x0, .int gq, .int un, .int dl])).length) Slot.unset).toArray = ls at hl ⊢
  have hl : lv_has ls 4 [(0, .ref x0), (1, .int gq), (2, .int un), (3, .int dl)] := hl
  refine lv_aload_n hx hb dX9_bring_0 rfl (lv_at hl 0 rfl) ?_
  refine lv_iload_n hx hb dX9_bring_1 rfl (lv_at hl 1 rfl) ?_
  refine xkRi (xV (As := [.int gq]) (rest := []) (wc := [(x0, .inr (9, [.ref o0, x0_snapshot, x0_trial, x0_history, x0_filling, x0_delivery, x0_text, x0_textLength, x0_hasSnapshot])), (o0, .inr (8, [.ref o1, o0_batches, o0_orders, o0_stages, o0_log, o0_settings, o0_rebate, o0_day])), (o1, .inr (3, [.int (nI gz), o1_price, o1_life, o1_listed, o1_list]))]) hx hb hml hown hts (c_X9_hasGood l dC dI cI cF cC cZ cQ cS x0 o0 x0_snapshot x0_trial x0_history x0_filling x0_delivery x0_text x0_textLength x0_hasSnapshot o1 o0_batches o0_orders o0_stages o0_log o0_settings o0_rebate o0_day gz o1_price o1_life o1_listed o1_list gq (by omega)) 1 gX9_bring_X9_hasGood rfl rfl rfl hdV_X9_hasGood ⟨Nat.le_of_ble_eq_true rfl, Nat.le_of_ble_eq_true rfl⟩ hN hK hP hD [0, 1, 2] rfl rfl 9 0 rfl rfl rfl hl.1 rfl (Nat.le_of_ble_eq_true rfl) dX9_bring_2 ⟨Nat.zero_le _, Nat.zero_le _⟩) (fun r_1 hr_1 => ?_)
  have hr_1 : r_1 = (if xhas gq gz then nI 1 else nI 0) := hr_1
  obtain rfl : r_1 = nI 0 := hr_1.trans (if_neg hg)
  refine xr_ifn0 (tgt := 10) hx hb (by decide) dX9_bring_5 (by decide) ?_
  refine lv_iconst (v := (-1)) hx hb dX9_bring_8 (by decide) ?_
  exact W.iret (v := (-1)) hx hb hr (fun t ht hW => ⟨_, rfl, (show (-1) = (-1) from rfl), ht⟩) (fun q h => by cases h) dX9_bring_9
theorem hdV_X9_recall : yX9_recall.cls = RX9 ∧ yX9_recall.cls ≠ "java/lang/invoke/MethodHandle" ∧ yX9_recall.cls ≠ "java/lang/invoke/VarHandle" ∧ (parseMethodDescriptor yX9_recall.desc).map (fun d => d.parameters.length) = some 1 := by decide +kernel
set_option maxHeartbeats 4000000 in
set_option maxRecDepth 100000 in
theorem c_X9_recallu (l : Launch) (dC : Nat → ClassId) (dI : Nat → Nat → Nat) (cI cF cC cZ cQ cS : ClassId) (x0 : Nat) (o0 : Nat) (x0_snapshot : Value) (x0_trial : Value) (x0_history : Value) (x0_filling : Value) (x0_delivery : Value) (x0_text : Value) (x0_textLength : Value) (x0_hasSnapshot : Value) (o1 : Nat) (o0_batches : Value) (o0_orders : Value) (o0_stages : Value) (o0_log : Value) (o0_settings : Value) (o0_rebate : Value) (o0_day : Value) (gz : Nat) (o1_price : Value) (o1_life : Value) (o1_listed : Value) (o1_list : Value) (gq : Int32) (hm : gz ≤ 12) (hg : ¬ xhas gq gz) : Met l yX9_recall wsX9_recall ({ frames := 2, cells := 0, slots := 0, locals := 43 }) (xPre (dC, dI) vwCl [.ref x0, .int gq] (xtys cI cF cC cZ cQ cS) [(x0, .inr (9, [.ref o0, x0_snapshot, x0_trial, x0_history, x0_filling, x0_delivery, x0_text, x0_textLength, x0_hasSnapshot])), (o0, .inr (8, [.ref o1, o0_batches, o0_orders, o0_stages, o0_log, o0_settings, o0_rebate, o0_day])), (o1, .inr (3, [.int (nI gz), o1_price, o1_life, o1_listed, o1_list]))]) (vp_Si (fun r0 => r0 = (-1))) 0 0 (fun _ => False) := by
  refine Met.ofW (cc := cX9_recall) (maxL := 3) (ret := (some .int)) (by decide) rfl ?_
  intro p e s m args below meth c s₁ B hml hv
  obtain ⟨rfl, hP, hK, hD0, hN⟩ := hv
  have hx := B.exec
  have hb := B.bytes
  have hr := B.returns
  have hts := atoms_spec (ws := wsX9_recall) B.pre
  have hown : s.vm.findClass RX9 = some m.cls := findClass_of_methodNamed B.named
  have hlocks := B.notSynchronized
  have hD := hD0
  have hl := lv_entry ([.ref x0, .int gq]) (n := 3) (Nat.le_of_ble_eq_true rfl)
  rw [lg_entry_eq]
  generalize (lg_sl ([.ref x0, .int gq]) ++ List.replicate (3 - (lg_sl ([.ref x0, .int gq])).length) Slot.unset).toArray = ls at hl ⊢
  have hl : lv_has ls 3 [(0, .ref x0), (1, .int gq)] := hl
  refine lv_aload_n hx hb dX9_recall_0 rfl (lv_at hl 0 rfl) ?_
  refine lv_iload_n hx hb dX9_recall_1 rfl (lv_at hl 1 rfl) ?_
  refine xkRi (xV (As := [.int gq]) (rest := []) (wc := [(x0, .inr (9, [.ref o0, x0_snapshot, x0_trial, x0_history, x0_filling, x0_delivery, x0_text, x0_textLength, x0_hasSnapshot])), (o0, .inr (8, [.ref o1, o0_batches, o0_orders, o0_stages, o0_log, o0_settings, o0_rebate, o0_day])), (o1, .inr (3, [.int (nI gz), o1_price, o1_life, o1_listed, o1_list]))]) hx hb hml hown hts (c_X9_hasGood l dC dI cI cF cC cZ cQ cS x0 o0 x0_snapshot x0_trial x0_history x0_filling x0_delivery x0_text x0_textLength x0_hasSnapshot o1 o0_batches o0_orders o0_stages o0_log o0_settings o0_rebate o0_day gz o1_price o1_life o1_listed o1_list gq (by omega)) 1 gX9_recall_X9_hasGood rfl rfl rfl hdV_X9_hasGood ⟨Nat.le_of_ble_eq_true rfl, Nat.le_of_ble_eq_true rfl⟩ hN hK hP hD [0, 1, 2] rfl rfl 9 0 rfl rfl rfl hl.1 rfl (Nat.le_of_ble_eq_true rfl) dX9_recall_2 ⟨Nat.zero_le _, Nat.zero_le _⟩) (fun r_1 hr_1 => ?_)
  have hr_1 : r_1 = (if xhas gq gz then nI 1 else nI 0) := hr_1
  obtain rfl : r_1 = nI 0 := hr_1.trans (if_neg hg)
  refine xr_ifn0 (tgt := 10) hx hb (by decide) dX9_recall_5 (by decide) ?_
  refine lv_iconst (v := (-1)) hx hb dX9_recall_8 (by decide) ?_
  exact W.iret (v := (-1)) hx hb hr (fun t ht hW => ⟨_, rfl, (show (-1) = (-1) from rfl), ht⟩) (fun q h => by cases h) dX9_recall_9
theorem hdV_X9_wouldExpire : yX9_wouldExpire.cls = RX9 ∧ yX9_wouldExpire.cls ≠ "java/lang/invoke/MethodHandle" ∧ yX9_wouldExpire.cls ≠ "java/lang/invoke/VarHandle" ∧ (parseMethodDescriptor yX9_wouldExpire.desc).map (fun d => d.parameters.length) = some 2 := by decide +kernel
set_option maxHeartbeats 4000000 in
set_option maxRecDepth 100000 in
theorem c_X9_wouldExpireu (l : Launch) (dC : Nat → ClassId) (dI : Nat → Nat → Nat) (cI cF cC cZ cQ cS : ClassId) (x0 : Nat) (o0 : Nat) (x0_snapshot : Value) (x0_trial : Value) (x0_history : Value) (x0_filling : Value) (x0_delivery : Value) (x0_text : Value) (x0_textLength : Value) (x0_hasSnapshot : Value) (o0_goods : Value) (o6 : Nat) (o0_orders : Value) (o0_stages : Value) (o0_log : Value) (o0_settings : Value) (o0_rebate : Value) (o0_day : Value) (bz : Nat) (o6_good : Value) (o6_came : Value) (o6_left : Value) (o6_shelf : Value) (o6_sold : Value) (o6_given : Value) (o6_cents : Value) (o6_wasted : Value) (bq : Int32) (days : Int32) (hm : bz ≤ 40) (hg : ¬ xhas bq bz) : Met l yX9_wouldExpire wsX9_wouldExpire ({ frames := 2, cells := 0, slots := 0, locals := 43 }) (xPre (dC, dI) vwCl [.ref x0, .int bq, .int days] (xtys cI cF cC cZ cQ cS) [(x0, .inr (9, [.ref o0, x0_snapshot, x0_trial, x0_history, x0_filling, x0_delivery, x0_text, x0_textLength, x0_hasSnapshot])), (o0, .inr (8, [o0_goods, .ref o6, o0_orders, o0_stages, o0_log, o0_settings, o0_rebate, o0_day])), (o6, .inr (0, [.int (nI bz), o6_good, o6_came, o6_left, o6_shelf, o6_sold, o6_given, o6_cents, o6_wasted]))]) (vp_Si (fun r0 => r0 = (-1))) 0 0 (fun _ => False) := by
  refine Met.ofW (cc := cX9_wouldExpire) (maxL := 3) (ret := (some .int)) (by decide) rfl ?_
  intro p e s m args below meth c s₁ B hml hv
  obtain ⟨rfl, hP, hK, hD0, hN⟩ := hv
  have hx := B.exec
  have hb := B.bytes
  have hr := B.returns
  have hts := atoms_spec (ws := wsX9_wouldExpire) B.pre
  have hown : s.vm.findClass RX9 = some m.cls := findClass_of_methodNamed B.named
  have hlocks := B.notSynchronized
  have hD := hD0
  have hl := lv_entry ([.ref x0, .int bq, .int days]) (n := 3) (Nat.le_of_ble_eq_true rfl)
  rw [lg_entry_eq]
  generalize (lg_sl ([.ref x0, .int bq, .int days]) ++ List.replicate (3 - (lg_sl ([.ref x0, .int bq, .int days])).length) Slot.unset).toArray = ls at hl ⊢
  have hl : lv_has ls 3 [(0, .ref x0), (1, .int bq), (2, .int days)] := hl
  refine lv_aload_n hx hb dX9_wouldExpire_0 rfl (lv_at hl 0 rfl) ?_
  refine lv_iload_n hx hb dX9_wouldExpire_1 rfl (lv_at hl 1 rfl) ?_
  refine xkRi (xV (As := [.int bq]) (rest := []) (wc := [(x0, .inr (9, [.ref o0, x0_snapshot, x0_trial, x0_history, x0_filling, x0_delivery, x0_text, x0_textLength, x0_hasSnapshot])), (o0, .inr (8, [o0_goods, .ref o6, o0_orders, o0_stages, o0_log, o0_settings, o0_rebate, o0_day])), (o6, .inr (0, [.int (nI bz), o6_good, o6_came, o6_left, o6_shelf, o6_sold, o6_given, o6_cents, o6_wasted]))]) hx hb hml hown hts (c_X9_hasBatch l dC dI cI cF cC cZ cQ cS x0 o0 x0_snapshot x0_trial x0_history x0_filling x0_delivery x0_text x0_textLength x0_hasSnapshot o0_goods o6 o0_orders o0_stages o0_log o0_settings o0_rebate o0_day bz o6_good o6_came o6_left o6_shelf o6_sold o6_given o6_cents o6_wasted bq (by omega)) 1 gX9_wouldExpire_X9_hasBatch rfl rfl rfl hdV_X9_hasBatch ⟨Nat.le_of_ble_eq_true rfl, Nat.le_of_ble_eq_true rfl⟩ hN hK hP hD [0, 1, 2] rfl rfl 9 0 rfl rfl rfl hl.1 rfl (Nat.le_of_ble_eq_true rfl) dX9_wouldExpire_2 ⟨Nat.zero_le _, Nat.zero_le _⟩) (fun r_1 hr_1 => ?_)
  have hr_1 : r_1 = (if xhas bq bz then nI 1 else nI 0) := hr_1
  obtain rfl : r_1 = nI 0 := hr_1.trans (if_neg hg)
  refine xr_ifn0 (tgt := 10) hx hb (by decide) dX9_wouldExpire_5 (by decide) ?_
  refine lv_iconst (v := (-1)) hx hb dX9_wouldExpire_8 (by decide) ?_
  exact W.iret (v := (-1)) hx hb hr (fun t ht hW => ⟨_, rfl, (show (-1) = (-1) from rfl), ht⟩) (fun q h => by cases h) dX9_wouldExpire_9
theorem hdV_X9_good : yX9_good.cls = RX9 ∧ yX9_good.cls ≠ "java/lang/invoke/MethodHandle" ∧ yX9_good.cls ≠ "java/lang/invoke/VarHandle" ∧ (parseMethodDescriptor yX9_good.desc).map (fun d => d.parameters.length) = some 2 := by decide +kernel
set_option maxHeartbeats 4000000 in
set_option maxRecDepth 100000 in
theorem c_X9_goodu (l : Launch) (dC : Nat → ClassId) (dI : Nat → Nat → Nat) (cI cF cC cZ cQ cS : ClassId) (x0 : Nat) (o0 : Nat) (x0_snapshot : Value) (x0_trial : Value) (x0_history : Value) (x0_filling : Value) (x0_delivery : Value) (x0_text : Value) (x0_textLength : Value) (x0_hasSnapshot : Value) (o1 : Nat) (o0_batches : Value) (o0_orders : Value) (o0_stages : Value) (o0_log : Value) (o0_settings : Value) (o0_rebate : Value) (o0_day : Value) (gz : Nat) (o1_price : Value) (o1_life : Value) (o1_listed : Value) (o1_list : Value) (gq : Int32) (wh : Int32) (hm : gz ≤ 12) (hg : ¬ xhas gq gz) : Met l yX9_good wsX9_good ({ frames := 2, cells := 0, slots := 0, locals := 43 }) (xPre (dC, dI) vwCl [.ref x0, .int gq, .int wh] (xtys cI cF cC cZ cQ cS) [(x0, .inr (9, [.ref o0, x0_snapshot, x0_trial, x0_history, x0_filling, x0_delivery, x0_text, x0_textLength, x0_hasSnapshot])), (o0, .inr (8, [.ref o1, o0_batches, o0_orders, o0_stages, o0_log, o0_settings, o0_rebate, o0_day])), (o1, .inr (3, [.int (nI gz), o1_price, o1_life, o1_listed, o1_list]))]) (vp_Si (fun r0 => r0 = (-1))) 0 0 (fun _ => False) := by
  refine Met.ofW (cc := cX9_good) (maxL := 4) (ret := (some .int)) (by decide) rfl ?_
  intro p e s m args below meth c s₁ B hml hv
  obtain ⟨rfl, hP, hK, hD0, hN⟩ := hv
  have hx := B.exec
  have hb := B.bytes
  have hr := B.returns
  have hts := atoms_spec (ws := wsX9_good) B.pre
  have hown : s.vm.findClass RX9 = some m.cls := findClass_of_methodNamed B.named
  have hlocks := B.notSynchronized
  have hD := hD0
  have hl := lv_entry ([.ref x0, .int gq, .int wh]) (n := 4) (Nat.le_of_ble_eq_true rfl)
  rw [lg_entry_eq]
  generalize (lg_sl ([.ref x0, .int gq, .int wh]) ++ List.replicate (4 - (lg_sl ([.ref x0, .int gq, .int wh])).length) Slot.unset).toArray = ls at hl ⊢
  have hl : lv_has ls 4 [(0, .ref x0), (1, .int gq), (2, .int wh)] := hl
  refine lv_aload_n hx hb dX9_good_0 rfl (lv_at hl 0 rfl) ?_
  refine lv_iload_n hx hb dX9_good_1 rfl (lv_at hl 1 rfl) ?_
  refine xkRi (xV (As := [.int gq]) (rest := []) (wc := [(x0, .inr (9, [.ref o0, x0_snapshot, x0_trial, x0_history, x0_filling, x0_delivery, x0_text, x0_textLength, x0_hasSnapshot])), (o0, .inr (8, [.ref o1, o0_batches, o0_orders, o0_stages, o0_log, o0_settings, o0_rebate, o0_day])), (o1, .inr (3, [.int (nI gz), o1_price, o1_life, o1_listed, o1_list]))]) hx hb hml hown hts (c_X9_hasGood l dC dI cI cF cC cZ cQ cS x0 o0 x0_snapshot x0_trial x0_history x0_filling x0_delivery x0_text x0_textLength x0_hasSnapshot o1 o0_batches o0_orders o0_stages o0_log o0_settings o0_rebate o0_day gz o1_price o1_life o1_listed o1_list gq (by omega)) 1 gX9_good_X9_hasGood rfl rfl rfl hdV_X9_hasGood ⟨Nat.le_of_ble_eq_true rfl, Nat.le_of_ble_eq_true rfl⟩ hN hK hP hD [0, 1, 2] rfl rfl 9 0 rfl rfl rfl hl.1 rfl (Nat.le_of_ble_eq_true rfl) dX9_good_2 ⟨Nat.zero_le _, Nat.zero_le _⟩) (fun r_1 hr_1 => ?_)
  have hr_1 : r_1 = (if xhas gq gz then nI 1 else nI 0) := hr_1
  obtain rfl : r_1 = nI 0 := hr_1.trans (if_neg hg)
  refine xr_ifn0 (tgt := 10) hx hb (by decide) dX9_good_5 (by decide) ?_
  refine lv_iconst (v := (-1)) hx hb dX9_good_8 (by decide) ?_
  exact W.iret (v := (-1)) hx hb hr (fun t ht hW => ⟨_, rfl, (show (-1) = (-1) from rfl), ht⟩) (fun q h => by cases h) dX9_good_9
theorem hdV_X9_batch : yX9_batch.cls = RX9 ∧ yX9_batch.cls ≠ "java/lang/invoke/MethodHandle" ∧ yX9_batch.cls ≠ "java/lang/invoke/VarHandle" ∧ (parseMethodDescriptor yX9_batch.desc).map (fun d => d.parameters.length) = some 2 := by decide +kernel
set_option maxHeartbeats 4000000 in
set_option maxRecDepth 100000 in
theorem c_X9_batchu (l : Launch) (dC : Nat → ClassId) (dI : Nat → Nat → Nat) (cI cF cC cZ cQ cS : ClassId) (x0 : Nat) (o0 : Nat) (x0_snapshot : Value) (x0_trial : Value) (x0_history : Value) (x0_filling : Value) (x0_delivery : Value) (x0_text : Value) (x0_textLength : Value) (x0_hasSnapshot : Value) (o0_goods : Value) (o6 : Nat) (o0_orders : Value) (o0_stages : Value) (o0_log : Value) (o0_settings : Value) (o0_rebate : Value) (o0_day : Value) (bz : Nat) (o6_good : Value) (o6_came : Value) (o6_left : Value) (o6_shelf : Value) (o6_sold : Value) (o6_given : Value) (o6_cents : Value) (o6_wasted : Value) (bq : Int32) (wh : Int32) (hm : bz ≤ 40) (hg : ¬ xhas bq bz) : Met l yX9_batch wsX9_batch ({ frames := 2, cells := 0, slots := 0, locals := 43 }) (xPre (dC, dI) vwCl [.ref x0, .int bq, .int wh] (xtys cI cF cC cZ cQ cS) [(x0, .inr (9, [.ref o0, x0_snapshot, x0_trial, x0_history, x0_filling, x0_delivery, x0_text, x0_textLength, x0_hasSnapshot])), (o0, .inr (8, [o0_goods, .ref o6, o0_orders, o0_stages, o0_log, o0_settings, o0_rebate, o0_day])), (o6, .inr (0, [.int (nI bz), o6_good, o6_came, o6_left, o6_shelf, o6_sold, o6_given, o6_cents, o6_wasted]))]) (vp_Si (fun r0 => r0 = (-1))) 0 0 (fun _ => False) := by
  refine Met.ofW (cc := cX9_batch) (maxL := 4) (ret := (some .int)) (by decide) rfl ?_
  intro p e s m args below meth c s₁ B hml hv
  obtain ⟨rfl, hP, hK, hD0, hN⟩ := hv
  have hx := B.exec
  have hb := B.bytes
  have hr := B.returns
  have hts := atoms_spec (ws := wsX9_batch) B.pre
  have hown : s.vm.findClass RX9 = some m.cls := findClass_of_methodNamed B.named
  have hlocks := B.notSynchronized
  have hD := hD0
  have hl := lv_entry ([.ref x0, .int bq, .int wh]) (n := 4) (Nat.le_of_ble_eq_true rfl)
  rw [lg_entry_eq]
  generalize (lg_sl ([.ref x0, .int bq, .int wh]) ++ List.replicate (4 - (lg_sl ([.ref x0, .int bq, .int wh])).length) Slot.unset).toArray = ls at hl ⊢
  have hl : lv_has ls 4 [(0, .ref x0), (1, .int bq), (2, .int wh)] := hl
  refine lv_aload_n hx hb dX9_batch_0 rfl (lv_at hl 0 rfl) ?_
  refine lv_iload_n hx hb dX9_batch_1 rfl (lv_at hl 1 rfl) ?_
  refine xkRi (xV (As := [.int bq]) (rest := []) (wc := [(x0, .inr (9, [.ref o0, x0_snapshot, x0_trial, x0_history, x0_filling, x0_delivery, x0_text, x0_textLength, x0_hasSnapshot])), (o0, .inr (8, [o0_goods, .ref o6, o0_orders, o0_stages, o0_log, o0_settings, o0_rebate, o0_day])), (o6, .inr (0, [.int (nI bz), o6_good, o6_came, o6_left, o6_shelf, o6_sold, o6_given, o6_cents, o6_wasted]))]) hx hb hml hown hts (c_X9_hasBatch l dC dI cI cF cC cZ cQ cS x0 o0 x0_snapshot x0_trial x0_history x0_filling x0_delivery x0_text x0_textLength x0_hasSnapshot o0_goods o6 o0_orders o0_stages o0_log o0_settings o0_rebate o0_day bz o6_good o6_came o6_left o6_shelf o6_sold o6_given o6_cents o6_wasted bq (by omega)) 1 gX9_batch_X9_hasBatch rfl rfl rfl hdV_X9_hasBatch ⟨Nat.le_of_ble_eq_true rfl, Nat.le_of_ble_eq_true rfl⟩ hN hK hP hD [0, 1, 2] rfl rfl 9 0 rfl rfl rfl hl.1 rfl (Nat.le_of_ble_eq_true rfl) dX9_batch_2 ⟨Nat.zero_le _, Nat.zero_le _⟩) (fun r_1 hr_1 => ?_)
  have hr_1 : r_1 = (if xhas bq bz then nI 1 else nI 0) := hr_1
  obtain rfl : r_1 = nI 0 := hr_1.trans (if_neg hg)
  refine xr_ifn0 (tgt := 10) hx hb (by decide) dX9_batch_5 (by decide) ?_
  refine lv_iconst (v := (-1)) hx hb dX9_batch_8 (by decide) ?_
  exact W.iret (v := (-1)) hx hb hr (fun t ht hW => ⟨_, rfl, (show (-1) = (-1) from rfl), ht⟩) (fun q h => by cases h) dX9_batch_9
theorem hdV_X9_orderTold : yX9_orderTold.cls = RX9 ∧ yX9_orderTold.cls ≠ "java/lang/invoke/MethodHandle" ∧ yX9_orderTold.cls ≠ "java/lang/invoke/VarHandle" ∧ (parseMethodDescriptor yX9_orderTold.desc).map (fun d => d.parameters.length) = some 2 := by decide +kernel
set_option maxHeartbeats 4000000 in
set_option maxRecDepth 100000 in
theorem c_X9_orderToldu (l : Launch) (dC : Nat → ClassId) (dI : Nat → Nat → Nat) (cI cF cC cZ cQ cS : ClassId) (x0 : Nat) (o0 : Nat) (x0_snapshot : Value) (x0_trial : Value) (x0_history : Value) (x0_filling : Value) (x0_delivery : Value) (x0_text : Value) (x0_textLength : Value) (x0_hasSnapshot : Value) (o0_goods : Value) (o0_batches : Value) (o18 : Nat) (o0_stages : Value) (o0_log : Value) (o0_settings : Value) (o0_rebate : Value) (o0_day : Value) (oz : Nat) (o18_takes : Value) (o18_good : Value) (o18_wanted : Value) (o18_got : Value) (o18_replaced : Value) (o18_least : Value) (o18_accepts : Value) (o18_parts : Value) (o18_due : Value) (o18_day : Value) (o18_firstTake : Value) (o18_takeBatch : Value) (o18_takeUnits : Value) (oq : Int32) (wh : Int32) (hm : oz ≤ 30) (hg : ¬ xhas oq oz) : Met l yX9_orderTold wsX9_orderTold ({ frames := 2, cells := 0, slots := 0, locals := 43 }) (xPre (dC, dI) vwCl [.ref x0, .int oq, .int wh] (xtys cI cF cC cZ cQ cS) [(x0, .inr (9, [.ref o0, x0_snapshot, x0_trial, x0_history, x0_filling, x0_delivery, x0_text, x0_textLength, x0_hasSnapshot])), (o0, .inr (8, [o0_goods, o0_batches, .ref o18, o0_stages, o0_log, o0_settings, o0_rebate, o0_day])), (o18, .inr (6, [.int (nI oz), o18_takes, o18_good, o18_wanted, o18_got, o18_replaced, o18_least, o18_accepts, o18_parts, o18_due, o18_day, o18_firstTake, o18_takeBatch, o18_takeUnits]))]) (vp_Si (fun r0 => r0 = (-1))) 0 0 (fun _ => False) := by
  refine Met.ofW (cc := cX9_orderTold) (maxL := 4) (ret := (some .int)) (by decide) rfl ?_
  intro p e s m args below meth c s₁ B hml hv
  obtain ⟨rfl, hP, hK, hD0, hN⟩ := hv
  have hx := B.exec
  have hb := B.bytes
  have hr := B.returns
  have hts := atoms_spec (ws := wsX9_orderTold) B.pre
  have hown : s.vm.findClass RX9 = some m.cls := findClass_of_methodNamed B.named
  have hlocks := B.notSynchronized
  have hD := hD0
  have hl := lv_entry ([.ref x0, .int oq, .int wh]) (n := 4) (Nat.le_of_ble_eq_true rfl)
  rw [lg_entry_eq]
  generalize (lg_sl ([.ref x0, .int oq, .int wh]) ++ List.replicate (4 - (lg_sl ([.ref x0, .int oq, .int wh])).length) Slot.unset).toArray = ls at hl ⊢
  have hl : lv_has ls 4 [(0, .ref x0), (1, .int oq), (2, .int wh)] := hl
  refine lv_aload_n hx hb dX9_orderTold_0 rfl (lv_at hl 0 rfl) ?_
  refine lv_iload_n hx hb dX9_orderTold_1 rfl (lv_at hl 1 rfl) ?_
  refine xkRi (xV (As := [.int oq]) (rest := []) (wc := [(x0, .inr (9, [.ref o0, x0_snapshot, x0_trial, x0_history, x0_filling, x0_delivery, x0_text, x0_textLength, x0_hasSnapshot])), (o0, .inr (8, [o0_goods, o0_batches, .ref o18, o0_stages, o0_log, o0_settings, o0_rebate, o0_day])), (o18, .inr (6, [.int (nI oz), o18_takes, o18_good, o18_wanted, o18_got, o18_replaced, o18_least, o18_accepts, o18_parts, o18_due, o18_day, o18_firstTake, o18_takeBatch, o18_takeUnits]))]) hx hb hml hown hts (c_X9_hasOrder l dC dI cI cF cC cZ cQ cS x0 o0 x0_snapshot x0_trial x0_history x0_filling x0_delivery x0_text x0_textLength x0_hasSnapshot o0_goods o0_batches o18 o0_stages o0_log o0_settings o0_rebate o0_day oz o18_takes o18_good o18_wanted o18_got o18_replaced o18_least o18_accepts o18_parts o18_due o18_day o18_firstTake o18_takeBatch o18_takeUnits oq (by omega)) 1 gX9_orderTold_X9_hasOrder rfl rfl rfl hdV_X9_hasOrder ⟨Nat.le_of_ble_eq_true rfl, Nat.le_of_ble_eq_true rfl⟩ hN hK hP hD [0, 1, 2] rfl rfl 9 0 rfl rfl rfl hl.1 rfl (Nat.le_of_ble_eq_true rfl) dX9_orderTold_2 ⟨Nat.zero_le _, Nat.zero_le _⟩) (fun r_1 hr_1 => ?_)
  have hr_1 : r_1 = (if xhas oq oz then nI 1 else nI 0) := hr_1
  obtain rfl : r_1 = nI 0 := hr_1.trans (if_neg hg)
  refine xr_ifn0 (tgt := 10) hx hb (by decide) dX9_orderTold_5 (by decide) ?_
  refine lv_iconst (v := (-1)) hx hb dX9_orderTold_8 (by decide) ?_
  exact W.iret (v := (-1)) hx hb hr (fun t ht hW => ⟨_, rfl, (show (-1) = (-1) from rfl), ht⟩) (fun q h => by cases h) dX9_orderTold_9
theorem hdV_X9_taken : yX9_taken.cls = RX9 ∧ yX9_taken.cls ≠ "java/lang/invoke/MethodHandle" ∧ yX9_taken.cls ≠ "java/lang/invoke/VarHandle" ∧ (parseMethodDescriptor yX9_taken.desc).map (fun d => d.parameters.length) = some 3 := by decide +kernel
set_option maxHeartbeats 4000000 in
set_option maxRecDepth 100000 in
theorem c_X9_takenu (l : Launch) (dC : Nat → ClassId) (dI : Nat → Nat → Nat) (cI cF cC cZ cQ cS : ClassId) (x0 : Nat) (o0 : Nat) (x0_snapshot : Value) (x0_trial : Value) (x0_history : Value) (x0_filling : Value) (x0_delivery : Value) (x0_text : Value) (x0_textLength : Value) (x0_hasSnapshot : Value) (o0_goods : Value) (o0_batches : Value) (o18 : Nat) (o0_stages : Value) (o0_log : Value) (o0_settings : Value) (o0_rebate : Value) (o0_day : Value) (oz : Nat) (o18_takes : Value) (o18_good : Value) (o18_wanted : Value) (o18_got : Value) (o18_replaced : Value) (o18_least : Value) (o18_accepts : Value) (o18_parts : Value) (o18_due : Value) (o18_day : Value) (o18_firstTake : Value) (o18_takeBatch : Value) (o18_takeUnits : Value) (oq : Int32) (pl : Int32) (wh : Int32) (hm : oz ≤ 30) (hg : ¬ xhas oq oz) : Met l yX9_taken wsX9_taken ({ frames := 2, cells := 0, slots := 0, locals := 43 }) (xPre (dC, dI) vwCl [.ref x0, .int oq, .int pl, .int wh] (xtys cI cF cC cZ cQ cS) [(x0, .inr (9, [.ref o0, x0_snapshot, x0_trial, x0_history, x0_filling, x0_delivery, x0_text, x0_textLength, x0_hasSnapshot])), (o0, .inr (8, [o0_goods, o0_batches, .ref o18, o0_stages, o0_log, o0_settings, o0_rebate, o0_day])), (o18, .inr (6, [.int (nI oz), o18_takes, o18_good, o18_wanted, o18_got, o18_replaced, o18_least, o18_accepts, o18_parts, o18_due, o18_day, o18_firstTake, o18_takeBatch, o18_takeUnits]))]) (vp_Si (fun r0 => r0 = (-1))) 0 0 (fun _ => False) := by
  refine Met.ofW (cc := cX9_taken) (maxL := 5) (ret := (some .int)) (by decide) rfl ?_
  intro p e s m args below meth c s₁ B hml hv
  obtain ⟨rfl, hP, hK, hD0, hN⟩ := hv
  have hx := B.exec
  have hb := B.bytes
  have hr := B.returns
  have hts := atoms_spec (ws := wsX9_taken) B.pre
  have hown : s.vm.findClass RX9 = some m.cls := findClass_of_methodNamed B.named
  have hlocks := B.notSynchronized
  have hD := hD0
  have hl := lv_entry ([.ref x0, .int oq, .int pl, .int wh]) (n := 5) (Nat.le_of_ble_eq_true rfl)
  rw [lg_entry_eq]
  generalize (lg_sl ([.ref x0, .int oq, .int pl, .int wh]) ++ List.replicate (5 - (lg_sl ([.ref x0, .int oq, .int pl, .int wh])).length) Slot.unset).toArray = ls at hl ⊢
  have hl : lv_has ls 5 [(0, .ref x0), (1, .int oq), (2, .int pl), (3, .int wh)] := hl
  refine lv_aload_n hx hb dX9_taken_0 rfl (lv_at hl 0 rfl) ?_
  refine lv_iload_n hx hb dX9_taken_1 rfl (lv_at hl 1 rfl) ?_
  refine xkRi (xV (As := [.int oq]) (rest := []) (wc := [(x0, .inr (9, [.ref o0, x0_snapshot, x0_trial, x0_history, x0_filling, x0_delivery, x0_text, x0_textLength, x0_hasSnapshot])), (o0, .inr (8, [o0_goods, o0_batches, .ref o18, o0_stages, o0_log, o0_settings, o0_rebate, o0_day])), (o18, .inr (6, [.int (nI oz), o18_takes, o18_good, o18_wanted, o18_got, o18_replaced, o18_least, o18_accepts, o18_parts, o18_due, o18_day, o18_firstTake, o18_takeBatch, o18_takeUnits]))]) hx hb hml hown hts (c_X9_hasOrder l dC dI cI cF cC cZ cQ cS x0 o0 x0_snapshot x0_trial x0_history x0_filling x0_delivery x0_text x0_textLength x0_hasSnapshot o0_goods o0_batches o18 o0_stages o0_log o0_settings o0_rebate o0_day oz o18_takes o18_good o18_wanted o18_got o18_replaced o18_least o18_accepts o18_parts o18_due o18_day o18_firstTake o18_takeBatch o18_takeUnits oq (by omega)) 1 gX9_taken_X9_hasOrder rfl rfl rfl hdV_X9_hasOrder ⟨Nat.le_of_ble_eq_true rfl, Nat.le_of_ble_eq_true rfl⟩ hN hK hP hD [0, 1, 2] rfl rfl 9 0 rfl rfl rfl hl.1 rfl (Nat.le_of_ble_eq_true rfl) dX9_taken_2 ⟨Nat.zero_le _, Nat.zero_le _⟩) (fun r_1 hr_1 => ?_)
  have hr_1 : r_1 = (if xhas oq oz then nI 1 else nI 0) := hr_1
  obtain rfl : r_1 = nI 0 := hr_1.trans (if_neg hg)
  refine xr_ifn0 (tgt := 10) hx hb (by decide) dX9_taken_5 (by decide) ?_
  refine lv_iconst (v := (-1)) hx hb dX9_taken_8 (by decide) ?_
  exact W.iret (v := (-1)) hx hb hr (fun t ht hW => ⟨_, rfl, (show (-1) = (-1) from rfl), ht⟩) (fun q h => by cases h) dX9_taken_9