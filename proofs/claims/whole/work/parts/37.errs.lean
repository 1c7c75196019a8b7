theorem hdV_X9_order : yX9_order.cls = RX9 ∧ yX9_order.cls ≠ "java/lang/invoke/MethodHandle" ∧ yX9_order.cls ≠ "java/lang/invoke/VarHandle" ∧ (parseMethodDescriptor yX9_order.desc).map (fun d => d.parameters.length) = some 4 := by decide +kernel
set_option maxHeartbeats 4000000 in
set_option maxRecDepth 100000 in
theorem c_X9_ordere (l : Launch) (dC : Nat → ClassId) (dI : Nat → Nat → Nat) (cI cF cC cZ cQ cS : ClassId) (x0 : Nat) (o0 : Nat) (x0_snapshot : Value) (x0_trial : Value) (x0_history : Value) (x0_filling : Value) (x0_delivery : Value) (x0_text : Value) (x0_textLength : Value) (x0_hasSnapshot : Value) (o1 : Nat) (o0_batches : Value) (o18 : Nat) (o0_stages : Value) (o0_log : Value) (o0_settings : Value) (o0_rebate : Value) (o0_day : Value) (gz : Nat) (o1_price : Value) (o1_life : Value) (o1_listed : Value) (o1_list : Value) (oz : Nat) (o18_takes : Value) (o18_good : Value) (o18_wanted : Value) (o18_got : Value) (o18_replaced : Value) (o18_least : Value) (o18_accepts : Value) (o18_parts : Value) (o18_due : Value) (o18_day : Value) (o18_firstTake : Value) (o18_takeBatch : Value) (o18_takeUnits : Value) (gq : Int32) (un : Int32) (le : Int32) (sb : Int32) (hgz : gz ≤ 12) (hoz : oz ≤ 30) (he : ¬ eOrd gq un le gz oz = nI 0) : Met l yX9_order wsX9_order ({ frames := 3, cells := 0, slots := 0, locals := 67 }) (xPre (dC, dI) vwCl [.ref x0, .int gq, .int un, .int le, .int sb] (xtys cI cF cC cZ cQ cS) [(x0, .inr (9, [.ref o0, x0_snapshot, x0_trial, x0_history, x0_filling, x0_delivery, x0_text, x0_textLength, x0_hasSnapshot])), (o0, .inr (8, [.ref o1, o0_batches, .ref o18, o0_stages, o0_log, o0_settings, o0_rebate, o0_day])), (o1, .inr (3, [.int (nI gz), o1_price, o1_life, o1_listed, o1_list])), (o18, .inr (6, [.int (nI oz), o18_takes, o18_good, o18_wanted, o18_got, o18_replaced, o18_least, o18_accepts, o18_parts, o18_due, o18_day, o18_firstTake, o18_takeBatch, o18_takeUnits]))]) (vp_Si (fun r0 => r0 = eOrd gq un le gz oz)) 0 0 (fun _ => False) := by
  refine Met.ofW (cc := cX9_order) (maxL := 6) (ret := (some .int)) (by decide) rfl ?_
  intro p e s m args below meth c s₁ B hml hv
  obtain ⟨rfl, hP, hK, hD0, hN⟩ := hv
  have hx := B.exec
  have hb := B.bytes
  have hr := B.returns
  have hts := atoms_spec (ws := wsX9_order) B.pre
  have hown : s.vm.findClass RX9 = some m.cls := findClass_of_methodNamed B.named
  have hlocks := B.notSynchronized
  have k_12 := hts (Cond.fieldLink RX9 12 "ShelfStages" "now" "LShelfStages$State;") (by decide +kernel)
  have k_165 := hts (Cond.fieldLink RX9 165 "ShelfStages$State" "orders" "LShelfStages$Orders;") (by decide +kernel)
  have k_169 := hts (Cond.fieldLink RX9 169 "ShelfStages$Orders" "size" "I") (by decide +kernel)
  have i_X6 : ∀ w ∈ wsX60, w ∈ wsX9_order := by decide +kernel
  have i_X8 : ∀ w ∈ wsX80, w ∈ wsX9_order := by decide +kernel
  have i_X9 : ∀ w ∈ wsX90, w ∈ wsX9_order := by decide +kernel
  have hD := hD0
  have hl := lv_entry ([.ref x0, .int gq, .int un, .int le, .int sb]) (n := 6) (Nat.le_of_ble_eq_true rfl)
  rw [lg_entry_eq]
  generalize (lg_sl ([.ref x0, .int gq, .int un, .int le, .int sb]) ++ List.replicate (6 - (lg_sl ([.ref x0, .int gq, .int un, .int le, .int sb])).length) Slot.unset).toArray = ls at hl ⊢
  have hl : lv_has ls 6 [(0, .ref x0), (1, .int gq), (2, .int un), (3, .int le), (4, .int sb)] := hl
  refine lv_aload_n hx hb dX9_order_0 rfl (lv_at hl 0 rfl) ?_
  refine lv_iload_n hx hb dX9_order_1 rfl (lv_at hl 1 rfl) ?_
  refine lv_iload_n hx hb dX9_order_2 rfl (lv_at hl 2 rfl) ?_
  refine lv_iload_n hx hb dX9_order_3 rfl (lv_at hl 3 rfl) ?_
  refine xkRi (xV (As := [.int gq, .int un, .int le]) (rest := []) (wc := [(x0, .inr (9, [.ref o0, x0_snapshot, x0_trial, x0_history, x0_filling, x0_delivery, x0_text, x0_textLength, x0_hasSnapshot])), (o0, .inr (8, [.ref o1, o0_batches, .ref o18, o0_stages, o0_log, o0_settings, o0_rebate, o0_day])), (o1, .inr (3, [.int (nI gz), o1_price, o1_life, o1_listed, o1_list]))]) hx hb hml hown hts (c_X9_wishError l dC dI cI cF cC cZ cQ cS x0 o0 x0_snapshot x0_trial x0_history x0_filling x0_delivery x0_text x0_textLength x0_hasSnapshot o1 o0_batches (.ref o18) o0_stages o0_log o0_settings o0_rebate o0_day gz o1_price o1_life o1_listed o1_list gq un le (by omega)) 3 gX9_order_X9_wishError rfl rfl rfl hdV_X9_wishError ⟨Nat.le_of_ble_eq_true rfl, Nat.le_of_ble_eq_true rfl⟩ hN hK hP hD [0, 1, 2] rfl rfl 9 0 rfl rfl rfl hl.1 rfl (Nat.le_of_ble_eq_true rfl) dX9_order_4 ⟨Nat.zero_le _, Nat.zero_le _⟩) (fun r_1 hr_1 => ?_)
  obtain rfl : r_1 = xwisherr gq un le gz := hr_1
  refine lv_istore (lv' := [(5, .int (xwisherr gq un le gz)), (0, .ref x0), (1, .int gq), (2, .int un), (3, .int le), (4, .int sb)]) hx hb dX9_order_7 hl (by decide) rfl (fun ls hl => ?_)
  refine lv_iload hx hb dX9_order_9 (lv_at hl 0 rfl) ?_
  refine lv_if_eq (tgt := 17) hx hb dX9_order_11 (by decide) (fun c_2 => ?_) (fun c_2 => ?_)
  · skip
    refine lv_aload_n hx hb dX9_order_17 rfl (lv_at hl 1 rfl) ?_
    refine va_get (D := (dC, dI)) (ci := 9) (v := .ref o0) (C := RX9) (T := TX9) (N := 9) hx hb hts i_X9 hown hK hP 0 rfl rfl 0 (by decide) k_12 (fun _ h9 => h9) rfl dX9_order_18 ?_
    refine va_get (D := (dC, dI)) (ci := 8) (v := .ref o18) (C := RX8) (T := TX8) (N := 8) hx hb hts i_X8 hown hK hP 1 rfl rfl 2 (by decide) k_165 (fun _ h9 => h9) rfl dX9_order_21 ?_
    refine va_get (D := (dC, dI)) (ci := 6) (v := .int (nI oz)) (C := RX6) (T := TX6) (N := 14) hx hb hts i_X6 hown hK hP 3 rfl rfl 0 (by decide) k_169 (fun _ h9 => h9) rfl dX9_order_24 ?_
    refine lv_bipush (v := nI 30) hx hb dX9_order_27 (by decide) ?_
    refine xr_lt_n (tgt := 35) hx hb (by omega) (by omega) dX9_order_29 (by decide) (fun c_3 => False.elim (by exact he (by unfold eOrd; rw [if_neg (fun z9 => z9 c_2), if_neg (by omega)]))) (fun c_3 => ?_)
    refine lv_bipush (v := (-3)) hx hb dX9_order_32 (by decide) ?_
    exact W.iret (v := (-3)) hx hb hr (fun t ht hW => ⟨_, rfl, (show (-3) = eOrd gq un le gz oz from (by unfold eOrd; rw [if_neg (fun z9 => z9 c_2), if_pos c_3])), ht⟩) (fun q h => by cases h) dX9_order_34
  refine lv_iload hx hb dX9_order_14 (lv_at hl 0 rfl) ?_
  exact W.iret (v := xwisherr gq un le gz) hx hb hr (fun t ht hW => ⟨_, rfl, (show xwisherr gq un le gz = eOrd gq un le gz oz from (by unfold eOrd; rw [if_pos c_2])), ht⟩) (fun q h => by cases h) dX9_order_16
theorem hdV_X10_order : yX10_order.cls = RX10 ∧ yX10_order.cls ≠ "java/lang/invoke/MethodHandle" ∧ yX10_order.cls ≠ "java/lang/invoke/VarHandle" ∧ (parseMethodDescriptor yX10_order.desc).map (fun d => d.parameters.length) = some 4 := by decide +kernel
set_option maxHeartbeats 4000000 in
set_option maxRecDepth 100000 in
theorem c_X10_ordere (l : Launch) (dC : Nat → ClassId) (dI : Nat → Nat → Nat) (cI cF cC cZ cQ cS : ClassId) (h0 : Nat) (zq : Nat) (h0_past : Value) (h0_kept : Value) (h0_spare : Value) (h0_pastMany : Value) (h0_isKept : Value) (h0_text : Value) (h0_typed : Value) (h0_isUsed : Value) (h0_planBatch : Value) (h0_planUnits : Value) (h0_planCents : Value) (h0_planMany : Value) (h0_planGot : Value) (h0_planSubstitutes : Value) (h0_at : Value) (h0_fault : Value) (h0_entries : Value) (h0_entry : Value) (z : Nat → Int32) (gz : Nat) (oz : Nat) (gq : Int32) (un : Int32) (le : Int32) (sb : Int32) (hz1 : z 1 = nI gz) (hgz : gz ≤ 12) (hz3 : z 3 = nI oz) (hoz : oz ≤ 30) (he : ¬ eOrd gq un le gz oz = nI 0) : Met l yX10_order wsX10_order ({ frames := 1, cells := 0, slots := 0, locals := 22 }) (xPre (dC, dI) vwCl [.ref h0, .int gq, .int un, .int le, .int sb] (xtys cI cF cC cZ cQ cS) [(h0, .inr (10, [.ref zq, h0_past, h0_kept, h0_spare, h0_pastMany, h0_isKept, h0_text, h0_typed, h0_isUsed, h0_planBatch, h0_planUnits, h0_planCents, h0_planMany, h0_planGot, h0_planSubstitutes, h0_at, h0_fault, h0_entries, h0_entry])), (zq, .inl (cI, 1002, .inl z))]) (vp_Si (fun r0 => r0 = eOrd gq un le gz oz)) 0 0 (fun _ => False) := by
  refine Met.ofW (cc := cX10_order) (maxL := 7) (ret := (some .int)) (by decide) rfl ?_
  intro p e s m args below meth c s₁ B hml hv
  obtain ⟨rfl, hP, hK, hD0, hN⟩ := hv
  have hx := B.exec
  have hb := B.bytes
  have hr := B.returns
  have hts := atoms_spec (ws := wsX10_order) B.pre
  have hown : s.vm.findClass RX10 = some m.cls := findClass_of_methodNamed B.named
  have hlocks := B.notSynchronized
  have k_7 := hts (Cond.fieldLink RX10 7 "ShelfStagesModel" "z" "[I") (by decide +kernel)
  have i_X10 : ∀ w ∈ wsX100, w ∈ wsX10_order := by decide +kernel
  have hD := hD0
  have hl := lv_entry ([.ref h0, .int gq, .int un, .int le, .int sb]) (n := 7) (Nat.le_of_ble_eq_true rfl)
  rw [lg_entry_eq]
  generalize (lg_sl ([.ref h0, .int gq, .int un, .int le, .int sb]) ++ List.replicate (7 - (lg_sl ([.ref h0, .int gq, .int un, .int le, .int sb])).length) Slot.unset).toArray = ls at hl ⊢
  have hl : lv_has ls 7 [(0, .ref h0), (1, .int gq), (2, .int un), (3, .int le), (4, .int sb)] := hl
  refine lv_aload_n hx hb dX10_order_0 rfl (lv_at hl 0 rfl) ?_
  refine lv_iload_n hx hb dX10_order_1 rfl (lv_at hl 1 rfl) ?_
  refine xkRi (xV (As := [.int gq]) (rest := []) (wc := [(h0, .inr (10, [.ref zq, h0_past, h0_kept, h0_spare, h0_pastMany, h0_isKept, h0_text, h0_typed, h0_isUsed, h0_planBatch, h0_planUnits, h0_planCents, h0_planMany, h0_planGot, h0_planSubstitutes, h0_at, h0_fault, h0_entries, h0_entry])), (zq, .inl (cI, 1002, .inl z))]) hx hb hml hown hts (c_X10_isGood l dC dI cI cF cC cZ cQ cS h0 zq h0_past h0_kept h0_spare h0_pastMany h0_isKept h0_text h0_typed h0_isUsed h0_planBatch h0_planUnits h0_planCents h0_planMany h0_planGot h0_planSubstitutes h0_at h0_fault h0_entries h0_entry z gq gz (by omega) (by omega)) 1 gX10_order_X10_isGood rfl rfl rfl hdV_X10_isGood ⟨Nat.le_of_ble_eq_true rfl, Nat.le_of_ble_eq_true rfl⟩ hN hK hP hD [0, 1] rfl rfl 10 0 rfl rfl rfl hl.1 rfl (Nat.le_of_ble_eq_true rfl) dX10_order_2 ⟨Nat.zero_le _, Nat.zero_le _⟩) (fun r_1 hr_1 => ?_)
  have hr_1 : r_1 = (if xhas gq gz then nI 1 else nI 0) := hr_1
  rcases xi_ite inferInstance hr_1 with ⟨c_2, hr_1⟩ | ⟨c_2, hr_1⟩
  · subst hr_1
    refine xr_ifn1 (tgt := 10) hx hb (by decide) dX10_order_5 (by decide) ?_
    refine lv_iload_n hx hb dX10_order_10 rfl (lv_at hl 2 rfl) ?_
    refine lv_iconst (v := nI 1) hx hb dX10_order_11 (by decide) ?_
    refine lv_sipush (v := nI 999) hx hb dX10_order_12 (by decide) ?_
    refine xkRi (xSs (Ws' := ([] : List Cond)) (As := [.int un, .int (nI 1), .int (nI 999)]) (rest := []) (wc := []) hx hb hml hown hts (c_X10_in l dC dI cI cF cC cZ cQ cS un (nI 1) (nI 999)) 3 (fun hR => va_cwS 3 hts gX10_order_X10_in rfl rfl rfl hdN_X10_in hR) ⟨Nat.le_of_ble_eq_true rfl, Nat.le_of_ble_eq_true rfl⟩ hN hK hP hD [] rfl rfl rfl hl.1 rfl (Nat.le_of_ble_eq_true rfl) dX10_order_15 ⟨Nat.zero_le _, Nat.zero_le _⟩) (fun r_3 hr_3 => ?_)
    have hr_3 : r_3 = (if (nI 1) ≤ un ∧ un ≤ (nI 999) then nI 1 else nI 0) := hr_3
    rcases xi_ite inferInstance hr_3 with ⟨c_4, hr_3⟩ | ⟨c_4, hr_3⟩
    · subst hr_3
      refine xr_if1 (tgt := 31) hx hb (by decide) dX10_order_18 (by decide) ?_
      refine lv_iload_n hx hb dX10_order_21 rfl (lv_at hl 3 rfl) ?_
      refine lv_iconst (v := nI 0) hx hb dX10_order_22 (by decide) ?_
      refine lv_bipush (v := nI 60) hx hb dX10_order_23 (by decide) ?_
      refine xkRi (xSs (Ws' := ([] : List Cond)) (As := [.int le, .int (nI 0), .int (nI 60)]) (rest := []) (wc := []) hx hb hml hown hts (c_X10_in l dC dI cI cF cC cZ cQ cS le (nI 0) (nI 60)) 3 (fun hR => va_cwS 3 hts gX10_order_X10_in rfl rfl rfl hdN_X10_in hR) ⟨Nat.le_of_ble_eq_true rfl, Nat.le_of_ble_eq_true rfl⟩ hN hK hP hD [] rfl rfl rfl hl.1 rfl (Nat.le_of_ble_eq_true rfl) dX10_order_25 ⟨Nat.zero_le _, Nat.zero_le _⟩) (fun r_5 hr_5 => ?_)
      have hr_5 : r_5 = (if (nI 0) ≤ le ∧ le ≤ (nI 60) then nI 1 else nI 0) := hr_5
      rcases xi_ite inferInstance hr_5 with ⟨c_6, hr_5⟩ | ⟨c_6, hr_5⟩
      · subst hr_5
        refine xr_ifn1 (tgt := 34) hx hb (by decide) dX10_order_28 (by decide) ?_
        refine lv_aload_n hx hb dX10_order_34 rfl (lv_at hl 0 rfl) ?_
        refine va_get (D := (dC, dI)) (ci := 10) (v := .ref zq) (C := RX10) (T := TX10) (N := 19) hx hb hts i_X10 hown hK hP 0 rfl rfl 0 (by decide) k_7 (fun _ h9 => h9) rfl dX10_order_35 ?_
        refine lv_iconst (v := nI 3) hx hb dX10_order_38 (by decide) ?_
        refine xr_iald hx hb hK hP 1 0 rfl rfl (i := 3) (by omega) (by decide) dX10_order_39 ?_
        refine xr_top (show z 3 = nI oz from hz3) ?_
        refine lv_bipush (v := nI 30) hx hb dX10_order_40 (by decide) ?_
        refine xr_ne_n (tgt := 48) hx hb (by omega) (by omega) dX10_order_42 (by decide) (fun c_7 => False.elim (by exact he (by unfold eOrd; rw [if_neg (fun z9 => z9 (Eq.trans (show xwisherr gq un le gz = nI 0 from by unfold xwisherr; rw [if_neg (fun z9 => z9 c_2), if_neg (fun z9 => z9 ⟨c_4, c_6⟩)]) (rfl : nI 0 = 0))), if_neg (by omega)]))) (fun c_7 => ?_)
        refine lv_bipush (v := (-3)) hx hb dX10_order_45 (by decide) ?_
        exact W.iret (v := (-3)) hx hb hr (fun t ht hW => ⟨_, rfl, (show (-3) = eOrd gq un le gz oz from (by unfold eOrd; rw [if_neg (fun z9 => z9 (Eq.trans (show xwisherr gq un le gz = nI 0 from by unfold xwisherr; rw [if_neg (fun z9 => z9 c_2), if_neg (fun z9 => z9 ⟨c_4, c_6⟩)]) (rfl : nI 0 = 0))), if_pos (by omega)])), ht⟩) (fun q h => by cases h) dX10_order_47
      subst hr_5
      refine xr_ifn0 (tgt := 34) hx hb (by decide) dX10_order_28 (by decide) ?_
      refine lv_bipush (v := (-2)) hx hb dX10_order_31 (by decide) ?_
      exact W.iret (v := (-2)) hx hb hr (fun t ht hW => ⟨_, rfl, (show (-2) = eOrd gq un le gz oz from (by unfold eOrd; rw [if_pos (fun q9 => absurd ((show xwisherr gq un le gz = -2 from by unfold xwisherr; rw [if_neg (fun z9 => z9 c_2), if_pos (fun z9 => c_6 z9.2)]).symm.trans q9) (by decide))]; unfold xwisherr; rw [if_neg (fun z9 => z9 c_2), if_pos (fun z9 => c_6 z9.2)])), ht⟩) (fun q h => by cases h) dX10_order_33
    subst hr_3
    refine xr_if0 (tgt := 31) hx hb (by decide) dX10_order_18 (by decide) ?_
    refine lv_bipush (v := (-2)) hx hb dX10_order_31 (by decide) ?_
    exact W.iret (v := (-2)) hx hb hr (fun t ht hW => ⟨_, rfl, (show (-2) = eOrd gq un le gz oz from (by unfold eOrd; rw [if_pos (fun q9 => absurd ((show xwisherr gq un le gz = -2 from by unfold xwisherr; rw [if_neg (fun z9 => z9 c_2), if_pos (fun z9 => c_4 z9.1)]).symm.trans q9) (by decide))]; unfold xwisherr; rw [if_neg (fun z9 => z9 c_2), if_pos (fun z9 => c_4 z9.1)])), ht⟩) (fun q h => by cases h) dX10_order_33
  subst hr_1
  refine xr_ifn0 (tgt := 10) hx hb (by decide) dX10_order_5 (by decide) ?_
  refine lv_iconst (v := (-1)) hx hb dX10_order_8 (by decide) ?_
  exact W.iret (v := (-1)) hx hb hr (fun t ht hW => ⟨_, rfl, (show (-1) = eOrd gq un le gz oz from (by unfold eOrd; rw [if_pos (fun q9 => absurd ((show xwisherr gq un le gz = -1 from by unfold xwisherr; rw [if_pos c_2]).symm.trans q9) (by decide))]; unfold xwisherr; rw [if_pos c_2])), ht⟩) (fun q h => by cases h) dX10_order_9
theorem hdV_X9_wouldGet : yX9_wouldGet.cls = RX9 ∧ yX9_wouldGet.cls ≠ "java/lang/invoke/MethodHandle" ∧ yX9_wouldGet.cls ≠ "java/lang/invoke/VarHandle" ∧ (parseMethodDescriptor yX9_wouldGet.desc).map (fun d => d.parameters.length) = some 5 := by decide +kernel
set_option maxHeartbeats 4000000 in
set_option maxRecDepth 100000 in
theorem c_X9_wouldGete (l : Launch) (dC : Nat → ClassId) (dI : Nat → Nat → Nat) (cI cF cC cZ cQ cS : ClassId) (x0 : Nat) (o0 : Nat) (x0_snapshot : Value) (x0_trial : Value) (x0_history : Value) (x0_filling : Value) (x0_delivery : Value) (x0_text : Value) (x0_textLength : Value) (x0_hasSnapshot : Value) (o1 : Nat) (o0_batches : Value) (o0_orders : Value) (o0_stages : Value) (o0_log : Value) (o0_settings : Value) (o0_rebate : Value) (o0_day : Value) (gz : Nat) (o1_price : Value) (o1_life : Value) (o1_listed : Value) (o1_list : Value) (gq : Int32) (un : Int32) (le : Int32) (sb : Int32) (wh : Int32) (hgz : gz ≤ 12) (he : ¬ eWg gq un le wh gz = nI 0) : Met l yX9_wouldGet wsX9_wouldGet ({ frames := 3, cells := 0, slots := 0, locals := 67 }) (xPre (dC, dI) vwCl [.ref x0, .int gq, .int un, .int le, .int sb, .int wh] (xtys cI cF cC cZ cQ cS) [(x0, .inr (9, [.ref o0, x0_snapshot, x0_trial, x0_history, x0_filling, x0_delivery, x0_text, x0_textLength, x0_hasSnapshot])), (o0, .inr (8, [.ref o1, o0_batches, o0_orders, o0_stages, o0_log, o0_settings, o0_rebate, o0_day])), (o1, .inr (3, [.int (nI gz), o1_price, o1_life, o1_listed, o1_list]))]) (vp_Si (fun r0 => r0 = eWg gq un le wh gz)) 0 0 (fun _ => False) := by
  refine Met.ofW (cc := cX9_wouldGet) (maxL := 7) (ret := (some .int)) (by decide) rfl ?_
  intro p e s m args below meth c s₁ B hml hv
  obtain ⟨rfl, hP, hK, hD0, hN⟩ := hv
  have hx := B.exec
  have hb := B.bytes
  have hr := B.returns
  have hts := atoms_spec (ws := wsX9_wouldGet) B.pre
  have hown : s.vm.findClass RX9 = some m.cls := findClass_of_methodNamed B.named
  have hlocks := B.notSynchronized
  have hD := hD0
  have hl := lv_entry ([.ref x0, .int gq, .int un, .int le, .int sb, .int wh]) (n := 7) (Nat.le_of_ble_eq_true rfl)
  rw [lg_entry_eq]
  generalize (lg_sl ([.ref x0, .int gq, .int un, .int le, .int sb, .int wh]) ++ List.replicate (7 - (lg_sl ([.ref x0, .int gq, .int un, .int le, .int sb, .int wh])).length) Slot.unset).toArray = ls at hl ⊢
  have hl : lv_has ls 7 [(0, .ref x0), (1, .int gq), (2, .int un), (3, .int le), (4, .int sb), (5, .int wh)] := hl
  refine lv_aload_n hx hb dX9_wouldGet_0 rfl (lv_at hl 0 rfl) ?_
  refine lv_iload_n hx hb dX9_wouldGet_1 rfl (lv_at hl 1 rfl) ?_
  refine lv_iload_n hx hb dX9_wouldGet_2 rfl (lv_at hl 2 rfl) ?_
  refine lv_iload_n hx hb dX9_wouldGet_3 rfl (lv_at hl 3 rfl) ?_
  refine xkRi (xV (As := [.int gq, .int un, .int le]) (rest := []) (wc := [(x0, .inr (9, [.ref o0, x0_snapshot, x0_trial, x0_history, x0_filling, x0_delivery, x0_text, x0_textLength, x0_hasSnapshot])), (o0, .inr (8, [.ref o1, o0_batches, o0_orders, o0_stages, o0_log, o0_settings, o0_rebate, o0_day])), (o1, .inr (3, [.int (nI gz), o1_price, o1_life, o1_listed, o1_list]))]) hx hb hml hown hts (c_X9_wishError l dC dI cI cF cC cZ cQ cS x0 o0 x0_snapshot x0_trial x0_history x0_filling x0_delivery x0_text x0_textLength x0_hasSnapshot o1 o0_batches o0_orders o0_stages o0_log o0_settings o0_rebate o0_day gz o1_price o1_life o1_listed o1_list gq un le (by omega)) 3 gX9_wouldGet_X9_wishError rfl rfl rfl hdV_X9_wishError ⟨Nat.le_of_ble_eq_true rfl, Nat.le_of_ble_eq_true rfl⟩ hN hK hP hD [0, 1, 2] rfl rfl 9 0 rfl rfl rfl hl.1 rfl (Nat.le_of_ble_eq_true rfl) dX9_wouldGet_4 ⟨Nat.zero_le _, Nat.zero_le _⟩) (fun r_1 hr_1 => ?_)
  obtain rfl : r_1 = xwisherr gq un le gz := hr_1
  refine lv_istore (lv' := [(6, .int (xwisherr gq un le gz)), (0, .ref x0), (1, .int gq), (2, .int un), (3, .int le), (4, .int sb), (5, .int wh)]) hx hb dX9_wouldGet_7 hl (by decide) rfl (fun ls hl => ?_)
  refine lv_iload hx hb dX9_wouldGet_9 (lv_at hl 0 rfl) ?_
  refine lv_if_eq (tgt := 17) hx hb dX9_wouldGet_11 (by decide) (fun c_2 => ?_) (fun c_2 => ?_)
  · skip
    refine lv_iload hx hb dX9_wouldGet_17 (lv_at hl 6 rfl) ?_
    refine lv_iconst (v := nI 0) hx hb dX9_wouldGet_19 (by decide) ?_
    refine lv_iconst (v := nI 3) hx hb dX9_wouldGet_20 (by decide) ?_
    refine xkRi (xSs (Ws' := ([] : List Cond)) (As := [.int wh, .int (nI 0), .int (nI 3)]) (rest := []) (wc := []) hx hb hml hown hts (c_X9_within l dC dI cI cF cC cZ cQ cS wh (nI 0) (nI 3)) 3 (fun hR => va_cwS 3 hts gX9_wouldGet_X9_within rfl rfl rfl hdN_X9_within hR) ⟨Nat.le_of_ble_eq_true rfl, Nat.le_of_ble_eq_true rfl⟩ hN hK hP hD [] rfl rfl rfl hl.1 rfl (Nat.le_of_ble_eq_true rfl) dX9_wouldGet_21 ⟨Nat.zero_le _, Nat.zero_le _⟩) (fun r_3 hr_3 => ?_)
    have hr_3 : r_3 = (if (nI 0) ≤ wh ∧ wh ≤ (nI 3) then nI 1 else nI 0) := hr_3
    rcases xi_ite inferInstance hr_3 with ⟨c_4, hr_3⟩ | ⟨c_4, hr_3⟩
    · subst hr_3
      refine xr_ifn1 (tgt := 30) hx hb (by decide) dX9_wouldGet_24 (by decide) ?_
      exact (he (by unfold eWg; rw [if_neg (fun z9 => z9 c_2), if_neg (fun z9 => z9 c_4)])).elim
    subst hr_3
    refine xr_ifn0 (tgt := 30) hx hb (by decide) dX9_wouldGet_24 (by decide) ?_
    refine lv_bipush (v := (-2)) hx hb dX9_wouldGet_27 (by decide) ?_
    exact W.iret (v := (-2)) hx hb hr (fun t ht hW => ⟨_, rfl, (show (-2) = eWg gq un le wh gz from (by unfold eWg; rw [if_neg (fun z9 => z9 c_2), if_pos c_4])), ht⟩) (fun q h => by cases h) dX9_wouldGet_29
  refine lv_iload hx hb dX9_wouldGet_14 (lv_at hl 0 rfl) ?_
  exact W.iret (v := xwisherr gq un le gz) hx hb hr (fun t ht hW => ⟨_, rfl, (show xwisherr gq un le gz = eWg gq un le wh gz from (by unfold eWg; rw [if_pos c_2])), ht⟩) (fun q h => by cases h) dX9_wouldGet_16
theorem hdV_X10_wouldGet : yX10_wouldGet.cls = RX10 ∧ yX10_wouldGet.cls ≠ "java/lang/invoke/MethodHandle" ∧ yX10_wouldGet.cls ≠ "java/lang/invoke/VarHandle" ∧ (parseMethodDescriptor yX10_wouldGet.desc).map (fun d => d.parameters.length) = some 5 := by decide +kernel
set_option maxHeartbeats 4000000 in
set_option maxRecDepth 100000 in
theorem c_X10_wouldGete (l : Launch) (dC : Nat → ClassId) (dI : Nat → Nat → Nat) (cI cF cC cZ cQ cS : ClassId) (h0 : Nat) (zq : Nat) (h0_past : Value) (h0_kept : Value) (h0_spare : Value) (h0_pastMany : Value) (h0_isKept : Value) (h0_text : Value) (h0_typed : Value) (h0_isUsed : Value) (h0_planBatch : Value) (h0_planUnits : Value) (h0_planCents : Value) (h0_planMany : Value) (h0_planGot : Value) (h0_planSubstitutes : Value) (h0_at : Value) (h0_fault : Value) (h0_entries : Value) (h0_entry : Value) (z : Nat → Int32) (gz : Nat) (gq : Int32) (un : Int32) (le : Int32) (sb : Int32) (wh : Int32) (hz1 : z 1 = nI gz) (hgz : gz ≤ 12) (he : ¬ eWg gq un le wh gz = nI 0) : Met l yX10_wouldGet wsX10_wouldGet ({ frames := 1, cells := 0, slots := 0, locals := 22 }) (xPre (dC, dI) vwCl [.ref h0, .int gq, .int un, .int le, .int sb, .int wh] (xtys cI cF cC cZ cQ cS) [(h0, .inr (10, [.ref zq, h0_past, h0_kept, h0_spare, h0_pastMany, h0_isKept, h0_text, h0_typed, h0_isUsed, h0_planBatch, h0_planUnits, h0_planCents, h0_planMany, h0_planGot, h0_planSubstitutes, h0_at, h0_fault, h0_entries, h0_entry])), (zq, .inl (cI, 1002, .inl z))]) (vp_Si (fun r0 => r0 = eWg gq un le wh gz)) 0 0 (fun _ => False) := by
  refine Met.ofW (cc := cX10_wouldGet) (maxL := 6) (ret := (some .int)) (by decide) rfl ?_
  intro p e s m args below meth c s₁ B hml hv
  obtain ⟨rfl, hP, hK, hD0, hN⟩ := hv
  have hx := B.exec
  have hb := B.bytes
  have hr := B.returns
  have hts := atoms_spec (ws := wsX10_wouldGet) B.pre
  have hown : s.vm.findClass RX10 = some m.cls := findClass_of_methodNamed B.named
  have hlocks := B.notSynchronized
  have hD := hD0
  have hl := lv_entry ([.ref h0, .int gq, .int un, .int le, .int sb, .int wh]) (n := 6) (Nat.le_of_ble_eq_true rfl)
  rw [lg_entry_eq]
  generalize (lg_sl ([.ref h0, .int gq, .int un, .int le, .int sb, .int wh]) ++ List.replicate (6 - (lg_sl ([.ref h0, .int gq, .int un, .int le, .int sb, .int wh])).length) Slot.unset).toArray = ls at hl ⊢
  have hl : lv_has ls 6 [(0, .ref h0), (1, .int gq), (2, .int un), (3, .int le), (4, .int sb), (5, .int wh)] := hl
  refine lv_aload_n hx hb dX10_wouldGet_0 rfl (lv_at hl 0 rfl) ?_
  refine lv_iload_n hx hb dX10_wouldGet_1 rfl (lv_at hl 1 rfl) ?_
  refine xkRi (xV (As := [.int gq]) (rest := []) (wc := [(h0, .inr (10, [.ref zq, h0_past, h0_kept, h0_spare, h0_pastMany, h0_isKept, h0_text, h0_typed, h0_isUsed, h0_planBatch, h0_planUnits, h0_planCents, h0_planMany, h0_planGot, h0_planSubstitutes, h0_at, h0_fault, h0_entries, h0_entry])), (zq, .inl (cI, 1002, .inl z))]) hx hb hml hown hts (c_X10_isGood l dC dI cI cF cC cZ cQ cS h0 zq h0_past h0_kept h0_spare h0_pastMany h0_isKept h0_text h0_typed h0_isUsed h0_planBatch h0_planUnits h0_planCents h0_planMany h0_planGot h0_planSubstitutes h0_at h0_fault h0_entries h0_entry z gq gz (by omega) (by omega)) 1 gX10_wouldGet_X10_isGood rfl rfl rfl hdV_X10_isGood ⟨Nat.le_of_ble_eq_true rfl, Nat.le_of_ble_eq_true rfl⟩ hN hK hP hD [0, 1] rfl rfl 10 0 rfl rfl rfl hl.1 rfl (Nat.le_of_ble_eq_true rfl) dX10_wouldGet_2 ⟨Nat.zero_le _, Nat.zero_le _⟩) (fun r_1 hr_1 => ?_)
  have hr_1 : r_1 = (if xhas gq gz then nI 1 else nI 0) := hr_1
  rcases xi_ite inferInstance hr_1 with ⟨c_2, hr_1⟩ | ⟨c_2, hr_1⟩
  · subst hr_1
    refine xr_ifn1 (tgt := 10) hx hb (by decide) dX10_wouldGet_5 (by decide) ?_
    refine lv_iload_n hx hb dX10_wouldGet_10 rfl (lv_at hl 2 rfl) ?_
    refine lv_iconst (v := nI 1) hx hb dX10_wouldGet_11 (by decide) ?_
    refine lv_sipush (v := nI 999) hx hb dX10_wouldGet_12 (by decide) ?_
    refine xkRi (xSs (Ws' := ([] : List Cond)) (As := [.int un, .int (nI 1), .int (nI 999)]) (rest := []) (wc := []) hx hb hml hown hts (c_X10_in l dC dI cI cF cC cZ cQ cS un (nI 1) (nI 999)) 3 (fun hR => va_cwS 3 hts gX10_wouldGet_X10_in rfl rfl rfl hdN_X10_in hR) ⟨Nat.le_of_ble_eq_true rfl, Nat.le_of_ble_eq_true rfl⟩ hN hK hP hD [] rfl rfl rfl hl.1 rfl (Nat.le_of_ble_eq_true rfl) dX10_wouldGet_15 ⟨Nat.zero_le _, Nat.zero_le _⟩) (fun r_3 hr_3 => ?_)
    have hr_3 : r_3 = (if (nI 1) ≤ un ∧ un ≤ (nI 999) then nI 1 else nI 0) := hr_3
    rcases xi_ite inferInstance hr_3 with ⟨c_4, hr_3⟩ | ⟨c_4, hr_3⟩
    · subst hr_3
      refine xr_if1 (tgt := 41) hx hb (by decide) dX10_wouldGet_18 (by decide) ?_
      refine lv_iload_n hx hb dX10_wouldGet_21 rfl (lv_at hl 3 rfl) ?_
      refine lv_iconst (v := nI 0) hx hb dX10_wouldGet_22 (by decide) ?_
      refine lv_bipush (v := nI 60) hx hb dX10_wouldGet_23 (by decide) ?_
      refine xkRi (xSs (Ws' := ([] : List Cond)) (As := [.int le, .int (nI 0), .int (nI 60)]) (rest := []) (wc := []) hx hb hml hown hts (c_X10_in l dC dI cI cF cC cZ cQ cS le (nI 0) (nI 60)) 3 (fun hR => va_cwS 3 hts gX10_wouldGet_X10_in rfl rfl rfl hdN_X10_in hR) ⟨Nat.le_of_ble_eq_true rfl, Nat.le_of_ble_eq_true rfl⟩ hN hK hP hD [] rfl rfl rfl hl.1 rfl (Nat.le_of_ble_eq_true rfl) dX10_wouldGet_25 ⟨Nat.zero_le _, Nat.zero_le _⟩) (fun r_5 hr_5 => ?_)
      have hr_5 : r_5 = (if (nI 0) ≤ le ∧ le ≤ (nI 60) then nI 1 else nI 0) := hr_5
      rcases xi_ite inferInstance hr_5 with ⟨c_6, hr_5⟩ | ⟨c_6, hr_5⟩
      · subst hr_5
        refine xr_if1 (tgt := 41) hx hb (by decide) dX10_wouldGet_28 (by decide) ?_
        refine lv_iload hx hb dX10_wouldGet_31 (lv_at hl 5 rfl) ?_
        refine lv_iconst (v := nI 0) hx hb dX10_wouldGet_33 (by decide) ?_
        refine lv_iconst (v := nI 3) hx hb dX10_wouldGet_34 (by decide) ?_
        refine xkRi (xSs (Ws' := ([] : List Cond)) (As := [.int wh, .int (nI 0), .int (nI 3)]) (rest := []) (wc := []) hx hb hml hown hts (c_X10_in l dC dI cI cF cC cZ cQ cS wh (nI 0) (nI 3)) 3 (fun hR => va_cwS 3 hts gX10_wouldGet_X10_in rfl rfl rfl hdN_X10_in hR) ⟨Nat.le_of_ble_eq_true rfl, Nat.le_of_ble_eq_true rfl⟩ hN hK hP hD [] rfl rfl rfl hl.1 rfl (Nat.le_of_ble_eq_true rfl) dX10_wouldGet_35 ⟨Nat.zero_le _, Nat.zero_le _⟩) (fun r_7 hr_7 => ?_)
        have hr_7 : r_7 = (if (nI 0) ≤ wh ∧ wh ≤ (nI 3) then nI 1 else nI 0) := hr_7
        rcases xi_ite inferInstance hr_7 with ⟨c_8, hr_7⟩ | ⟨c_8, hr_7⟩
        · subst hr_7
          refine xr_ifn1 (tgt := 44) hx hb (by decide) dX10_wouldGet_38 (by decide) ?_
          exact (he (by unfold eWg; rw [if_neg (fun z9 => z9 (Eq.trans (show xwisherr gq un le gz = nI 0 from by unfold xwisherr; rw [if_neg (fun z9 => z9 c_2), if_neg (fun z9 => z9 ⟨c_4, c_6⟩)]) (rfl : nI 0 = 0))), if_neg (fun z9 => z9 c_8)])).elim
        subst hr_7
        refine xr_ifn0 (tgt := 44) hx hb (by decide) dX10_wouldGet_38 (by decide) ?_
        refine lv_bipush (v := (-2)) hx hb dX10_wouldGet_41 (by decide) ?_
        exact W.iret (v := (-2)) hx hb hr (fun t ht hW => ⟨_, rfl, (show (-2) = eWg gq un le wh gz from (by unfold eWg; rw [if_neg (fun z9 => z9 (Eq.trans (show xwisherr gq un le gz = nI 0 from by unfold xwisherr; rw [if_neg (fun z9 => z9 c_2), if_neg (fun z9 => z9 ⟨c_4, c_6⟩)]) (rfl : nI 0 = 0))), if_pos c_8])), ht⟩) (fun q h => by cases h) dX10_wouldGet_43
      subst hr_5
      refine xr_if0 (tgt := 41) hx hb (by decide) dX10_wouldGet_28 (by decide) ?_
      refine lv_bipush (v := (-2)) hx hb dX10_wouldGet_41 (by decide) ?_
      exact W.iret (v := (-2)) hx hb hr (fun t ht hW => ⟨_, rfl, (show (-2) = eWg gq un le wh gz from (by unfold eWg; rw [if_pos (fun q9 => absurd ((show xwisherr gq un le gz = -2 from by unfold xwisherr; rw [if_neg (fun z9 => z9 c_2), if_pos (fun z9 => c_6 z9.2)]).symm.trans q9) (by decide))]; unfold xwisherr; rw [if_neg (fun z9 => z9 c_2), if_pos (fun z9 => c_6 z9.2)])), ht⟩) (fun q h => by cases h) dX10_wouldGet_43
    subst hr_3
    refine xr_if0 (tgt := 41) hx hb (by decide) dX10_wouldGet_18 (by decide) ?_
    refine lv_bipush (v := (-2)) hx hb dX10_wouldGet_41 (by decide) ?_
    exact W.iret (v := (-2)) hx hb hr (fun t ht hW => ⟨_, rfl, (show (-2) = eWg gq un le wh gz from (by unfold eWg; rw [if_pos (fun q9 => absurd ((show xwisherr gq un le gz = -2 from by unfold xwisherr; rw [if_neg (fun z9 => z9 c_2), if_pos (fun z9 => c_4 z9.1)]).symm.trans q9) (by decide))]; unfold xwisherr; rw [if_neg (fun z9 => z9 c_2), if_pos (fun z9 => c_4 z9.1)])), ht⟩) (fun q h => by cases h) dX10_wouldGet_43
  subst hr_1
  refine xr_ifn0 (tgt := 10) hx hb (by decide) dX10_wouldGet_5 (by decide) ?_
  refine lv_iconst (v := (-1)) hx hb dX10_wouldGet_8 (by decide) ?_
  exact W.iret (v := (-1)) hx hb hr (fun t ht hW => ⟨_, rfl, (show (-1) = eWg gq un le wh gz from (by unfold eWg; rw [if_pos (fun q9 => absurd ((show xwisherr gq un le gz = -1 from by unfold xwisherr; rw [if_pos c_2]).symm.trans q9) (by decide))]; unfold xwisherr; rw [if_pos c_2])), ht⟩) (fun q h => by cases h) dX10_wouldGet_9
