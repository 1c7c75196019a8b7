theorem hdV_X9_order : yX9_order.cls = RX9 ∧ yX9_order.cls ≠ "java/lang/invoke/MethodHandle" ∧ yX9_order.cls ≠ "java/lang/invoke/VarHandle" ∧ (parseMethodDescriptor yX9_order.desc).map (fun d => d.parameters.length) = some 4 := by decide +kernel
set_option maxHeartbeats 4000000 in
set_option maxRecDepth 100000 in
theorem c_X9_ordere (l : Launch) (dC : Nat → ClassId) (dI : Nat → Nat → Nat) (cI cF cC cZ cQ cS : ClassId) (x0 : Nat) (o0 : Nat) (x0_snapshot : Value) (x0_trial : Value) (x0_history : Value) (x0_filling : Value) (x0_delivery : Value) (x0_text : Value) (x0_textLength : Value) (x0_hasSnapshot : Value) (o1 : Nat) (o0_batches : Value) (o18 : Nat) (o0_stages : Value) (o0_log : Value) (o0_settings : Value) (o0_rebate : Value) (o0_day : Value) (gz : Nat) (o1_price : Value) (o1_life : Value) (o1_listed : Value) (o1_list : Value) (oz : Nat) (o18_takes : Value) (o18_good : Value) (o18_wanted : Value) (o18_got : Value) (o18_replaced : Value) (o18_least : Value) (o18_accepts : Value) (o18_parts : Value) (o18_due : Value) (o18_day : Value) (o18_firstTake : Value) (o18_takeBatch : Value) (o18_takeUnits : Value) (gq : Int32) (un : Int32) (le : Int32) (sb : Int32) (hgz : gz ≤ 12) (hoz : oz ≤ 30) (he : ¬ eOrd gq un le gz oz = nI 0) : Met l yX9_order wsX9_order ({ frames := 3, cells := 0, slots := 0, locals := 67 }) (xPre (dC, dI) vwCl [.ref x0, .int gq, .int un, .int le, .int sb] (xtys cI cF cC cZ cQ cS) [(x0, .inr (9, [.ref o0, x0_snapshot, x0_trial, x0_history, x0_filling, x0_delivery, x0_text, x0_textLength, x0_hasSnapshot])), (o0, .inr (8, [.ref o1, o0_batches, .ref o18, o0_stages, o0_log, o0_settings, o0_rebate, o0_day])), (o1, .inr (3, [.int (nI gz), o1_price, o1_life, o1_listed, o1_list])), (o18, .inr (6, [.int (nI oz), o18_takes, o18_good, o18_wanted, o18_got, o18_replaced, o18_least, o18_accepts, o18_parts, o18_due, o18_day, o18_firstTake, o18_takeBatch, o18_takeUnits]))]) (vp_Si (fun r0 => r0 = eOrd gq un le gz oz)) 0 0 (fun _ => False) := by
  refine Met.ofW (cc := cX9_order) (maxL := 6) (ret := (some .int)) (by decide) rfl ?_
  intro p e s m args below meth c s₁ B hml hv
  obtain ⟨rfl, hP, hK, hD0, hN⟩ := hv
  have hx := B.exec
  have hb := B.bytes
  have hr := B.returns
  have hts := atoms_spec (ws := wsX9_order) B.pre
  have hown : s.vm.findClass RX9 = some m.cls := findClass_of_methodNamed B.named
  have hlocks := B.notSynchronized
  have k_12 := hts (Cond.fieldLink RX9 12 "ShelfStages" "now" "LShelfStages$State;") (by decide +kernel)
  have k_165 := hts (Cond.fieldLink RX9 165 "ShelfStages$State" "orders" "LShelfStages$Orders;") (by decide +kernel)
  have k_169 := hts (Cond.fieldLink RX9 169 "ShelfStages$Orders" "size" "I") (by decide +kernel)
  have i_X6 : ∀ w ∈ wsX60, w ∈ wsX9_order := by decide +kernel
  have i_X8 : ∀ w ∈ wsX80, w ∈ wsX9_order := by decide +kernel
  have i_X9 : ∀ w ∈ wsX90, w ∈ wsX9_order := by decide +kernel
  have hD := hD0
  have hl := lv_entry ([.ref x0, .int gq, .int un, .int le, .int sb]) (n := 6) (Nat.le_of_ble_eq_true rfl)
  rw [lg_entry_eq]
  generalize (lg_sl ([.ref x0, .int gq, .int un, .int le, .int sb]) ++ List.replicate (6 - (lg_sl ([.ref x0, .int gq, .int un, .int le, .int sb])).length) Slot.unset).toArray = ls at hl ⊢
  have hl : lv_has ls 6 [(0, .ref x0), (1, .int gq), (2, .int un), (3, .int le), (4, .int sb)] := hl
  refine lv_aload_n hx hb dX9_order_0 rfl (lv_at hl 0 rfl) ?_
  refine lv_iload_n hx hb dX9_order_1 rfl (lv_at hl 1 rfl) ?_
  refine lv_iload_n hx hb dX9_order_2 rfl (lv_at hl 2 rfl) ?_
  refine lv_iload_n hx hb dX9_order_3 rfl (lv_at hl 3 rfl) ?_
  refine xkRi (xV (As := [.int gq, .int un, .int le]) (rest := []) (wc := [(x0, .inr (9, [.ref o0, x0_snapshot, x0_trial, x0_history, x0_filling, x0_delivery, x0_text, x0_textLength, x0_hasSnapshot])), (o0, .inr (8, [.ref o1, o0_batches, .ref o18, o0_stages, o0_log, o0_settings, o0_rebate, o0_day])), (o1, .inr (3, [.int (nI gz), o1_price, o1_life, o1_listed, o1_list]))]) hx hb hml hown hts (c_X9_wishError l dC dI cI cF cC cZ cQ cS x0 o0 x0_snapshot x0_trial x0_history x0_filling x0_delivery x0_text x0_textLength x0_hasSnapshot o1 o0_batches (.ref o18) o0_stages o0_log o0_settings o0_rebate o0_day gz o1_price o1_life o1_listed o1_list gq un le (by omega)) 3 gX9_order_X9_wishError rfl rfl rfl hdV_X9_wishError ⟨Nat.le_of_ble_eq_true rfl, Nat.le_of_ble_eq_true rfl⟩ hN hK hP hD [0, 1, 2] rfl rfl 9 0 rfl rfl rfl hl.1 rfl (Nat.le_of_ble_eq_true rfl) dX9_order_4 ⟨Nat.zero_le _, Nat.zero_le _⟩) (fun r_1 hr_1 => ?_)
  obtain rfl : r_1 = xwisherr gq un le gz := hr_1
  refine lv_istore (lv' := [(5, .int (xwisherr gq un le gz)), (0, .ref x0), (1, .int gq), (2, .int un), (3, .int le), (4, .int sb)]) hx hb dX9_order_7 hl (by decide) rfl (fun ls hl => ?_)
  refine lv_iload hx hb dX9_order_9 (lv_at hl 0 rfl) ?_
  refine lv_if_eq (tgt := 17) hx hb dX9_order_11 (by decide) (fun c_2 => ?_) (fun c_2 => ?_)
  · skip
    refine lv_aload_n hx hb dX9_order_17 rfl (lv_at hl 1 rfl) ?_
    refine va_get (D := (dC, dI)) (ci := 9) (v := .ref o0) (C := RX9) (T := TX9) (N := 9) hx hb hts i_X9 hown hK hP 0 rfl rfl 0 (by decide) k_12 (fun _ h9 => h9) rfl dX9_order_18 ?_
    refine va_get (D := (dC, dI)) (ci := 8) (v := .ref o18) (C := RX8) (T := TX8) (N := 8) hx hb hts i_X8 hown hK hP 1 rfl rfl 2 (by decide) k_165 (fun _ h9 => h9) rfl dX9_order_21 ?_
    refine va_get (D := (dC, dI)) (ci := 6) (v := .int (nI oz)) (C := RX6) (T := TX6) (N := 14) hx hb hts i_X6 hown hK hP 3 rfl rfl 0 (by decide) k_169 (fun _ h9 => h9) rfl dX9_order_24 ?_
    refine lv_bipush (v := nI 30) hx hb dX9_order_27 (by decide) ?_
    refine xr_lt_n (tgt := 35) hx hb (by omega) (by omega) dX9_order_29 (by decide) (fun c_3 => False.elim (by exact he (by unfold eOrd; rw [if_neg (fun z9 => z9 c_2), if_neg (by omega)]))) (fun c_3 => ?_)
    refine lv_bipush (v := (-3)) hx hb dX9_order_32 (by decide) ?_
    exact W.iret (v := (-3)) hx hb hr (fun t ht hW => ⟨_, rfl, (show (-3) = eOrd gq un le gz oz from (by unfold eOrd; rw [if_neg (fun z9 => z9 c_2), if_pos c_3])), ht⟩) (fun q h => by cases h) dX9_order_34
  refine lv_iload hx hb dX9_order_14 (lv_at hl 0 rfl) ?_
  exact W.iret (v := xwisherr gq un le gz) hx hb hr (fun t ht hW => ⟨_, rfl, (show xwisherr gq un le gz = eOrd gq un le gz oz from (by unfold eOrd; rw [if_pos c_2])), ht⟩) (fun q h => by cases h) dX9_order_16
theorem hdV_X9_wouldGet : yX9_wouldGet.cls = RX9 ∧ yX9_wouldGet.cls ≠ "java/lang/invoke/MethodHandle" ∧ yX9_wouldGet.cls ≠ "java/lang/invoke/VarHandle" ∧ (parseMethodDescriptor yX9_wouldGet.desc).map (fun d => d.parameters.length) = some 5 := by decide +kernel
set_option maxHeartbeats 4000000 in
set_option maxRecDepth 100000 in
theorem c_X9_wouldGete (l : Launch) (dC : Nat → ClassId) (dI : Nat → Nat → Nat) (cI cF cC cZ cQ cS : ClassId) (x0 : Nat) (o0 : Nat) (x0_snapshot : Value) (x0_trial : Value) (x0_history : Value) (x0_filling : Value) (x0_delivery : Value) (x0_text : Value) (x0_textLength : Value) (x0_hasSnapshot : Value) (o1 : Nat) (o0_batches : Value) (o0_orders : Value) (o0_stages : Value) (o0_log : Value) (o0_settings : Value) (o0_rebate : Value) (o0_day : Value) (gz : Nat) (o1_price : Value) (o1_life : Value) (o1_listed : Value) (o1_list : Value) (gq : Int32) (un : Int32) (le : Int32) (sb : Int32) (wh : Int32) (hgz : gz ≤ 12) (he : ¬ eWg gq un le wh gz = nI 0) : Met l yX9_wouldGet wsX9_wouldGet ({ frames := 3, cells := 0, slots := 0, locals := 67 }) (xPre (dC, dI) vwCl [.ref x0, .int gq, .int un, .int le, .int sb, .int wh] (xtys cI cF cC cZ cQ cS) [(x0, .inr (9, [.ref o0, x0_snapshot, x0_trial, x0_history, x0_filling, x0_delivery, x0_text, x0_textLength, x0_hasSnapshot])), (o0, .inr (8, [.ref o1, o0_batches, o0_orders, o0_stages, o0_log, o0_settings, o0_rebate, o0_day])), (o1, .inr (3, [.int (nI gz), o1_price, o1_life, o1_listed, o1_list]))]) (vp_Si (fun r0 => r0 = eWg gq un le wh gz)) 0 0 (fun _ => False) := by
  refine Met.ofW (cc := cX9_wouldGet) (maxL := 7) (ret := (some .int)) (by decide) rfl ?_
  intro p e s m args below meth c s₁ B hml hv
  obtain ⟨rfl, hP, hK, hD0, hN⟩ := hv
  have hx := B.exec
  have hb := B.bytes
  have hr := B.returns
  have hts := atoms_spec (ws := wsX9_wouldGet) B.pre
  have hown : s.vm.findClass RX9 = some m.cls := findClass_of_methodNamed B.named
  have hlocks := B.notSynchronized
  have hD := hD0
  have hl := lv_entry ([.ref x0, .int gq, .int un, .int le, .int sb, .int wh]) (n := 7) (Nat.le_of_ble_eq_true rfl)
  rw [lg_entry_eq]
  generalize (lg_sl ([.ref x0, .int gq, .int un, .int le, .int sb, .int wh]) ++ List.replicate (7 - (lg_sl ([.ref x0, .int gq, .int un, .int le, .int sb, .int wh])).length) Slot.unset).toArray = ls at hl ⊢
  have hl : lv_has ls 7 [(0, .ref x0), (1, .int gq), (2, .int un), (3, .int le), (4, .int sb), (5, .int wh)] := hl
  refine lv_aload_n hx hb dX9_wouldGet_0 rfl (lv_at hl 0 rfl) ?_
  refine lv_iload_n hx hb dX9_wouldGet_1 rfl (lv_at hl 1 rfl) ?_
  refine lv_iload_n hx hb dX9_wouldGet_2 rfl (lv_at hl 2 rfl) ?_
  refine lv_iload_n hx hb dX9_wouldGet_3 rfl (lv_at hl 3 rfl) ?_
  refine xkRi (xV (As := [.int gq, .int un, .int le]) (rest := []) (wc := [(x0, .inr (9, [.ref o0, x0_snapshot, x0_trial, x0_history, x0_filling, x0_delivery, x0_text, x0_textLength, x0_hasSnapshot])), (o0, .inr (8, [.ref o1, o0_batches, o0_orders, o0_stages, o0_log, o0_settings, o0_rebate, o0_day])), (o1, .inr (3, [.int (nI gz), o1_price, o1_life, o1_listed, o1_list]))]) hx hb hml hown hts (c_X9_wishError l dC dI cI cF cC cZ cQ cS x0 o0 x0_snapshot x0_trial x0_history x0_filling x0_delivery x0_text x0_textLength x0_hasSnapshot o1 o0_batches o0_orders o0_stages o0_log o0_settings o0_rebate o0_day gz o1_price o1_life o1_listed o1_list gq un le (by omega)) 3 gX9_wouldGet_X9_wishError rfl rfl rfl hdV_X9_wishError ⟨Nat.le_of_ble_eq_true rfl, Nat.le_of_ble_eq_true rfl⟩ hN hK hP hD [0, 1, 2] rfl rfl 9 0 rfl rfl rfl hl.1 rfl (Nat.le_of_ble_eq_true rfl) dX9_wouldGet_4 ⟨Nat.zero_le _, Nat.zero_le _⟩) (fun r_1 hr_1 => ?_)
  obtain rfl : r_1 = xwisherr gq un le gz := hr_1
  refine lv_istore (lv' := [(6, .int (xwisherr gq un le gz)), (0, .ref x0), (1, .int gq), (2, .int un), (3, .int le), (4, .int sb), (5, .int wh)]) hx hb dX9_wouldGet_7 hl (by decide) rfl (fun ls hl => ?_)
  refine lv_iload hx hb dX9_wouldGet_9 (lv_at hl 0 rfl) ?_
  refine lv_if_eq (tgt := 17) hx hb dX9_wouldGet_11 (by decide) (fun c_2 => ?_) (fun c_2 => ?_)
  · skip
    refine lv_iload hx hb dX9_wouldGet_17 (lv_at hl 6 rfl) ?_
    refine lv_iconst (v := nI 0) hx hb dX9_wouldGet_19 (by decide) ?_
    refine lv_iconst (v := nI 3) hx hb dX9_wouldGet_20 (by decide) ?_
    refine xkRi (xSs (Ws' := ([] : List Cond)) (As := [.int wh, .int (nI 0), .int (nI 3)]) (rest := []) (wc := []) hx hb hml hown hts (c_X9_within l dC dI cI cF cC cZ cQ cS wh (nI 0) (nI 3)) 3 (fun hR => va_cwS 3 hts gX9_wouldGet_X9_within rfl rfl rfl hdN_X9_within hR) ⟨Nat.le_of_ble_eq_true rfl, Nat.le_of_ble_eq_true rfl⟩ hN hK hP hD [] rfl rfl rfl hl.1 rfl (Nat.le_of_ble_eq_true rfl) dX9_wouldGet_21 ⟨Nat.zero_le _, Nat.zero_le _⟩) (fun r_3 hr_3 => ?_)
    have hr_3 : r_3 = (if (nI 0) ≤ wh ∧ wh ≤ (nI 3) then nI 1 else nI 0) := hr_3
    rcases xi_ite inferInstance hr_3 with ⟨c_4, hr_3⟩ | ⟨c_4, hr_3⟩
    · subst hr_3
      refine xr_ifn1 (tgt := 30) hx hb (by decide) dX9_wouldGet_24 (by decide) ?_
      exact (he (by unfold eWg; rw [if_neg (fun z9 => z9 c_2), if_neg (fun z9 => z9 c_4)])).elim
    subst hr_3
    refine xr_ifn0 (tgt := 30) hx hb (by decide) dX9_wouldGet_24 (by decide) ?_
    refine lv_bipush (v := (-2)) hx hb dX9_wouldGet_27 (by decide) ?_
    exact W.iret (v := (-2)) hx hb hr (fun t ht hW => ⟨_, rfl, (show (-2) = eWg gq un le wh gz from (by unfold eWg; rw [if_neg (fun z9 => z9 c_2), if_pos c_4])), ht⟩) (fun q h => by cases h) dX9_wouldGet_29
  refine lv_iload hx hb dX9_wouldGet_14 (lv_at hl 0 rfl) ?_
  exact W.iret (v := xwisherr gq un le gz) hx hb hr (fun t ht hW => ⟨_, rfl, (show xwisherr gq un le gz = eWg gq un le wh gz from (by unfold eWg; rw [if_pos c_2])), ht⟩) (fun q h => by cases h) dX9_wouldGet_16