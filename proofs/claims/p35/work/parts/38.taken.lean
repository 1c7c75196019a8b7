set_option maxHeartbeats 4000000 in
set_option maxRecDepth 100000 in
theorem c_X9_wouldExpiree (l : Launch) (dC : Nat → ClassId) (dI : Nat → Nat → Nat) (cI cF cC cZ cQ cS : ClassId) (x0 : Nat) (o0 : Nat) (x0_snapshot : Value) (x0_trial : Value) (x0_history : Value) (x0_filling : Value) (x0_delivery : Value) (x0_text : Value) (x0_textLength : Value) (x0_hasSnapshot : Value) (o0_goods : Value) (o6 : Nat) (o0_orders : Value) (o0_stages : Value) (o0_log : Value) (o0_settings : Value) (o0_rebate : Value) (o0_day : Value) (bz : Nat) (o6_good : Value) (o6_came : Value) (o6_left : Value) (o6_shelf : Value) (o6_sold : Value) (o6_given : Value) (o6_cents : Value) (o6_wasted : Value) (kb : Nat) (days : Int32) (hbz : bz ≤ 40) (hk : kb < bz) (hd : ¬ (nI 1 ≤ days ∧ days ≤ nI 60)) : Met l yX9_wouldExpire wsX9_wouldExpire ({ frames := 2, cells := 0, slots := 0, locals := 43 }) (xPre (dC, dI) vwCl [.ref x0, .int (nI kb), .int days] (xtys cI cF cC cZ cQ cS) [(x0, .inr (9, [.ref o0, x0_snapshot, x0_trial, x0_history, x0_filling, x0_delivery, x0_text, x0_textLength, x0_hasSnapshot])), (o0, .inr (8, [o0_goods, .ref o6, o0_orders, o0_stages, o0_log, o0_settings, o0_rebate, o0_day])), (o6, .inr (0, [.int (nI bz), o6_good, o6_came, o6_left, o6_shelf, o6_sold, o6_given, o6_cents, o6_wasted]))]) (vp_Si (fun r0 => r0 = (-2))) 0 0 (fun _ => False) := by
  refine Met.ofW (cc := cX9_wouldExpire) (maxL := 3) (ret := (some .int)) (by decide) rfl ?_
  intro p e s m args below meth c s₁ B hml hv
  obtain ⟨rfl, hP, hK, hD0, hN⟩ := hv
  have hx := B.exec
  have hb := B.bytes
  have hr := B.returns
  have hts := atoms_spec (ws := wsX9_wouldExpire) B.pre
  have hown : s.vm.findClass RX9 = some m.cls := findClass_of_methodNamed B.named
  have hlocks := B.notSynchronized
  have hD := hD0
  have hl := lv_entry ([.ref x0, .int (nI kb), .int days]) (n := 3) (Nat.le_of_ble_eq_true rfl)
  rw [lg_entry_eq]
  generalize (lg_sl ([.ref x0, .int (nI kb), .int days]) ++ List.replicate (3 - (lg_sl ([.ref x0, .int (nI kb), .int days])).length) Slot.unset).toArray = ls at hl ⊢
  have hl : lv_has ls 3 [(0, .ref x0), (1, .int (nI kb)), (2, .int days)] := hl
  refine lv_aload_n hx hb dX9_wouldExpire_0 rfl (lv_at hl 0 rfl) ?_
  refine lv_iload_n hx hb dX9_wouldExpire_1 rfl (lv_at hl 1 rfl) ?_
  refine xkRi (xV (As := [.int (nI kb)]) (rest := []) (wc := [(x0, .inr (9, [.ref o0, x0_snapshot, x0_trial, x0_history, x0_filling, x0_delivery, x0_text, x0_textLength, x0_hasSnapshot])), (o0, .inr (8, [o0_goods, .ref o6, o0_orders, o0_stages, o0_log, o0_settings, o0_rebate, o0_day])), (o6, .inr (0, [.int (nI bz), o6_good, o6_came, o6_left, o6_shelf, o6_sold, o6_given, o6_cents, o6_wasted]))]) hx hb hml hown hts (c_X9_hasBatch l dC dI cI cF cC cZ cQ cS x0 o0 x0_snapshot x0_trial x0_history x0_filling x0_delivery x0_text x0_textLength x0_hasSnapshot o0_goods o6 o0_orders o0_stages o0_log o0_settings o0_rebate o0_day bz o6_good o6_came o6_left o6_shelf o6_sold o6_given o6_cents o6_wasted (nI kb) (by omega)) 1 gX9_wouldExpire_X9_hasBatch rfl rfl rfl hdV_X9_hasBatch ⟨Nat.le_of_ble_eq_true rfl, Nat.le_of_ble_eq_true rfl⟩ hN hK hP hD [0, 1, 2] rfl rfl 9 0 rfl rfl rfl hl.1 rfl (Nat.le_of_ble_eq_true rfl) dX9_wouldExpire_2 ⟨Nat.zero_le _, Nat.zero_le _⟩) (fun r_1 hr_1 => ?_)
  have hr_1 : r_1 = (if xhas (nI kb) bz then nI 1 else nI 0) := hr_1
  obtain rfl : r_1 = nI 1 := hr_1.trans (if_pos (xhas_of hk (by omega)))
  refine xr_ifn1 (tgt := 10) hx hb (by decide) dX9_wouldExpire_5 (by decide) ?_
  refine lv_iload_n hx hb dX9_wouldExpire_10 rfl (lv_at hl 2 rfl) ?_
  refine lv_iconst (v := nI 1) hx hb dX9_wouldExpire_11 (by decide) ?_
  refine lv_bipush (v := nI 60) hx hb dX9_wouldExpire_12 (by decide) ?_
  refine xkRi (xSs (Ws' := ([] : List Cond)) (As := [.int days, .int (nI 1), .int (nI 60)]) (rest := []) (wc := []) hx hb hml hown hts (c_X9_within l dC dI cI cF cC cZ cQ cS days (nI 1) (nI 60)) 3 (fun hR => va_cwS 3 hts gX9_wouldExpire_X9_within rfl rfl rfl hdN_X9_within hR) ⟨Nat.le_of_ble_eq_true rfl, Nat.le_of_ble_eq_true rfl⟩ hN hK hP hD [] rfl rfl rfl hl.1 rfl (Nat.le_of_ble_eq_true rfl) dX9_wouldExpire_14 ⟨Nat.zero_le _, Nat.zero_le _⟩) (fun r_2 hr_2 => ?_)
  have hr_2 : r_2 = (if (nI 1) ≤ days ∧ days ≤ (nI 60) then nI 1 else nI 0) := hr_2
  obtain rfl : r_2 = nI 0 := hr_2.trans (if_neg hd)
  refine xr_ifn0 (tgt := 23) hx hb (by decide) dX9_wouldExpire_17 (by decide) ?_
  refine lv_bipush (v := (-2)) hx hb dX9_wouldExpire_20 (by decide) ?_
  exact W.iret (v := (-2)) hx hb hr (fun t ht hW => ⟨_, rfl, (show (-2) = (-2) from rfl), ht⟩) (fun q h => by cases h) dX9_wouldExpire_22
set_option maxHeartbeats 4000000 in
set_option maxRecDepth 100000 in
theorem c_X9_takene (l : Launch) (dC : Nat → ClassId) (dI : Nat → Nat → Nat) (cI cF cC cZ cQ cS : ClassId) (x0 : Nat) (o0 : Nat) (x0_snapshot : Value) (x0_trial : Value) (x0_history : Value) (x0_filling : Value) (x0_delivery : Value) (x0_text : Value) (x0_textLength : Value) (x0_hasSnapshot : Value) (o0_goods : Value) (o0_batches : Value) (o18 : Nat) (o0_stages : Value) (o0_log : Value) (o0_settings : Value) (o0_rebate : Value) (o0_day : Value) (oz : Nat) (o18_takes : Value) (o18_good : Value) (o18_wanted : Value) (o18_got : Value) (o18_replaced : Value) (o18_least : Value) (o18_accepts : Value) (o25 : Nat) (o18_due : Value) (o18_day : Value) (o18_firstTake : Value) (o18_takeBatch : Value) (o18_takeUnits : Value) (parts : Nat → Int32) (ko : Nat) (pl : Int32) (wh : Int32) (hoz : oz ≤ 30) (hk : ko < oz) (he : ¬ eTaken pl wh (parts ko) = nI 0) : Met l yX9_taken wsX9_taken ({ frames := 2, cells := 0, slots := 0, locals := 43 }) (xPre (dC, dI) vwCl [.ref x0, .int (nI ko), .int pl, .int wh] (xtys cI cF cC cZ cQ cS) [(x0, .inr (9, [.ref o0, x0_snapshot, x0_trial, x0_history, x0_filling, x0_delivery, x0_text, x0_textLength, x0_hasSnapshot])), (o0, .inr (8, [o0_goods, o0_batches, .ref o18, o0_stages, o0_log, o0_settings, o0_rebate, o0_day])), (o18, .inr (6, [.int (nI oz), o18_takes, o18_good, o18_wanted, o18_got, o18_replaced, o18_least, o18_accepts, .ref o25, o18_due, o18_day, o18_firstTake, o18_takeBatch, o18_takeUnits])), (o25, .inl (cI, 30, .inl parts))]) (vp_Si (fun r0 => r0 = eTaken pl wh (parts ko))) 0 0 (fun _ => False) := by
  refine Met.ofW (cc := cX9_taken) (maxL := 5) (ret := (some .int)) (by decide) rfl ?_
  intro p e s m args below meth c s₁ B hml hv
  obtain ⟨rfl, hP, hK, hD0, hN⟩ := hv
  have hx := B.exec
  have hb := B.bytes
  have hr := B.returns
  have hts := atoms_spec (ws := wsX9_taken) B.pre
  have hown : s.vm.findClass RX9 = some m.cls := findClass_of_methodNamed B.named
  have hlocks := B.notSynchronized
  have k_12 := hts (Cond.fieldLink RX9 12 "ShelfStages" "now" "LShelfStages$State;") (by decide +kernel)
  have k_165 := hts (Cond.fieldLink RX9 165 "ShelfStages$State" "orders" "LShelfStages$Orders;") (by decide +kernel)
  have k_294 := hts (Cond.fieldLink RX9 294 "ShelfStages$Orders" "parts" "[I") (by decide +kernel)
  have i_X6 : ∀ w ∈ wsX60, w ∈ wsX9_taken := by decide +kernel
  have i_X8 : ∀ w ∈ wsX80, w ∈ wsX9_taken := by decide +kernel
  have i_X9 : ∀ w ∈ wsX90, w ∈ wsX9_taken := by decide +kernel
  have hD := hD0
  have hl := lv_entry ([.ref x0, .int (nI ko), .int pl, .int wh]) (n := 5) (Nat.le_of_ble_eq_true rfl)
  rw [lg_entry_eq]
  generalize (lg_sl ([.ref x0, .int (nI ko), .int pl, .int wh]) ++ List.replicate (5 - (lg_sl ([.ref x0, .int (nI ko), .int pl, .int wh])).length) Slot.unset).toArray = ls at hl ⊢
  have hl : lv_has ls 5 [(0, .ref x0), (1, .int (nI ko)), (2, .int pl), (3, .int wh)] := hl
  refine lv_aload_n hx hb dX9_taken_0 rfl (lv_at hl 0 rfl) ?_
  refine lv_iload_n hx hb dX9_taken_1 rfl (lv_at hl 1 rfl) ?_
  refine xkRi (xV (As := [.int (nI ko)]) (rest := []) (wc := [(x0, .inr (9, [.ref o0, x0_snapshot, x0_trial, x0_history, x0_filling, x0_delivery, x0_text, x0_textLength, x0_hasSnapshot])), (o0, .inr (8, [o0_goods, o0_batches, .ref o18, o0_stages, o0_log, o0_settings, o0_rebate, o0_day])), (o18, .inr (6, [.int (nI oz), o18_takes, o18_good, o18_wanted, o18_got, o18_replaced, o18_least, o18_accepts, .ref o25, o18_due, o18_day, o18_firstTake, o18_takeBatch, o18_takeUnits]))]) hx hb hml hown hts (c_X9_hasOrder l dC dI cI cF cC cZ cQ cS x0 o0 x0_snapshot x0_trial x0_history x0_filling x0_delivery x0_text x0_textLength x0_hasSnapshot o0_goods o0_batches o18 o0_stages o0_log o0_settings o0_rebate o0_day oz o18_takes o18_good o18_wanted o18_got o18_replaced o18_least o18_accepts (.ref o25) o18_due o18_day o18_firstTake o18_takeBatch o18_takeUnits (nI ko) (by omega)) 1 gX9_taken_X9_hasOrder rfl rfl rfl hdV_X9_hasOrder ⟨Nat.le_of_ble_eq_true rfl, Nat.le_of_ble_eq_true rfl⟩ hN hK hP hD [0, 1, 2] rfl rfl 9 0 rfl rfl rfl hl.1 rfl (Nat.le_of_ble_eq_true rfl) dX9_taken_2 ⟨Nat.zero_le _, Nat.zero_le _⟩) (fun r_1 hr_1 => ?_)
  have hr_1 : r_1 = (if xhas (nI ko) oz then nI 1 else nI 0) := hr_1
  obtain rfl : r_1 = nI 1 := hr_1.trans (if_pos (xhas_of hk (by omega)))
  refine xr_ifn1 (tgt := 10) hx hb (by decide) dX9_taken_5 (by decide) ?_
  refine lv_iload_n hx hb dX9_taken_10 rfl (lv_at hl 2 rfl) ?_
  refine lv_if_lt (tgt := 23) hx hb dX9_taken_11 (by decide) (fun c_2 => ?_) (fun c_2 => ?_)
  · skip
    refine lv_bipush (v := (-2)) hx hb dX9_taken_23 (by decide) ?_
    exact W.iret (v := (-2)) hx hb hr (fun t ht hW => ⟨_, rfl, (show (-2) = eTaken pl wh (parts ko) from (by unfold eTaken; rw [if_pos (Or.inl c_2)])), ht⟩) (fun q h => by cases h) dX9_taken_25
  refine lv_iload_n hx hb dX9_taken_14 rfl (lv_at hl 3 rfl) ?_
  refine lv_iconst (v := nI 0) hx hb dX9_taken_15 (by decide) ?_
  refine lv_iconst (v := nI 1) hx hb dX9_taken_16 (by decide) ?_
  refine xkRi (xSs (Ws' := ([] : List Cond)) (As := [.int wh, .int (nI 0), .int (nI 1)]) (rest := []) (wc := []) hx hb hml hown hts (c_X9_within l dC dI cI cF cC cZ cQ cS wh (nI 0) (nI 1)) 3 (fun hR => va_cwS 3 hts gX9_taken_X9_within rfl rfl rfl hdN_X9_within hR) ⟨Nat.le_of_ble_eq_true rfl, Nat.le_of_ble_eq_true rfl⟩ hN hK hP hD [] rfl rfl rfl hl.1 rfl (Nat.le_of_ble_eq_true rfl) dX9_taken_17 ⟨Nat.zero_le _, Nat.zero_le _⟩) (fun r_3 hr_3 => ?_)
  have hr_3 : r_3 = (if (nI 0) ≤ wh ∧ wh ≤ (nI 1) then nI 1 else nI 0) := hr_3
  rcases xi_ite inferInstance hr_3 with ⟨c_4, hr_3⟩ | ⟨c_4, hr_3⟩
  · subst hr_3
    refine xr_ifn1 (tgt := 26) hx hb (by decide) dX9_taken_20 (by decide) ?_
    refine lv_iload_n hx hb dX9_taken_26 rfl (lv_at hl 2 rfl) ?_
    refine lv_aload_n hx hb dX9_taken_27 rfl (lv_at hl 0 rfl) ?_
    refine va_get (D := (dC, dI)) (ci := 9) (v := .ref o0) (C := RX9) (T := TX9) (N := 9) hx hb hts i_X9 hown hK hP 0 rfl rfl 0 (by decide) k_12 (fun _ h9 => h9) rfl dX9_taken_28 ?_
    refine va_get (D := (dC, dI)) (ci := 8) (v := .ref o18) (C := RX8) (T := TX8) (N := 8) hx hb hts i_X8 hown hK hP 1 rfl rfl 2 (by decide) k_165 (fun _ h9 => h9) rfl dX9_taken_31 ?_
    refine va_get (D := (dC, dI)) (ci := 6) (v := .ref o25) (C := RX6) (T := TX6) (N := 14) hx hb hts i_X6 hown hK hP 2 rfl rfl 8 (by decide) k_294 (fun _ h9 => h9) rfl dX9_taken_34 ?_
    refine lv_iload_n hx hb dX9_taken_37 rfl (lv_at hl 1 rfl) ?_
    refine xr_iald hx hb hK hP 3 0 rfl rfl (i := ko) (by omega) (by decide) dX9_taken_38 ?_
    refine lv_icmp_lt (tgt := 45) hx hb dX9_taken_39 (by decide) (fun c_5 => False.elim (by exact he (by unfold eTaken; rw [if_neg (fun z9 => z9.elim c_2 (fun z9 => z9 c_4)), if_neg (fun z9 => z9 c_5)]))) (fun c_5 => ?_)
    refine lv_bipush (v := (-5)) hx hb dX9_taken_42 (by decide) ?_
    exact W.iret (v := (-5)) hx hb hr (fun t ht hW => ⟨_, rfl, (show (-5) = eTaken pl wh (parts ko) from (by unfold eTaken; rw [if_neg (fun z9 => z9.elim c_2 (fun z9 => z9 c_4)), if_pos c_5])), ht⟩) (fun q h => by cases h) dX9_taken_44
  subst hr_3
  refine xr_ifn0 (tgt := 26) hx hb (by decide) dX9_taken_20 (by decide) ?_
  refine lv_bipush (v := (-2)) hx hb dX9_taken_23 (by decide) ?_
  exact W.iret (v := (-2)) hx hb hr (fun t ht hW => ⟨_, rfl, (show (-2) = eTaken pl wh (parts ko) from (by unfold eTaken; rw [if_pos (Or.inr c_4)])), ht⟩) (fun q h => by cases h) dX9_taken_25
set_option maxHeartbeats 4000000 in
set_option maxRecDepth 100000 in
theorem c_X9_takens (l : Launch) (dC : Nat → ClassId) (dI : Nat → Nat → Nat) (cI cF cC cZ cQ cS : ClassId) (x0 : Nat) (o0 : Nat) (x0_snapshot : Value) (x0_trial : Value) (x0_history : Value) (x0_filling : Value) (x0_delivery : Value) (x0_text : Value) (x0_textLength : Value) (x0_hasSnapshot : Value) (o0_goods : Value) (o0_batches : Value) (o18 : Nat) (o0_stages : Value) (o0_log : Value) (o0_settings : Value) (o0_rebate : Value) (o0_day : Value) (oz : Nat) (o18_takes : Value) (o18_good : Value) (o18_wanted : Value) (o18_got : Value) (o18_replaced : Value) (o18_least : Value) (o18_accepts : Value) (o25 : Nat) (o18_due : Value) (o18_day : Value) (o28 : Nat) (o29 : Nat) (o30 : Nat) (parts : Nat → Int32) (ftake : Nat → Int32) (tkb : Nat → Int32) (tku : Nat → Int32) (ko : Nat) (pt : Nat) (ft : Nat) (pl : Nat) (wh : Int32) (hoz : oz ≤ 30) (hk : ko < oz) (hpt : parts ko = nI pt) (hft : ftake ko = nI ft) (hs : ft + pt ≤ 70) (hpl : pl < pt) (hw : nI 0 ≤ wh ∧ wh ≤ nI 1) : Met l yX9_taken wsX9_taken ({ frames := 2, cells := 0, slots := 0, locals := 43 }) (xPre (dC, dI) vwCl [.ref x0, .int (nI ko), .int (nI pl), .int wh] (xtys cI cF cC cZ cQ cS) [(x0, .inr (9, [.ref o0, x0_snapshot, x0_trial, x0_history, x0_filling, x0_delivery, x0_text, x0_textLength, x0_hasSnapshot])), (o0, .inr (8, [o0_goods, o0_batches, .ref o18, o0_stages, o0_log, o0_settings, o0_rebate, o0_day])), (o18, .inr (6, [.int (nI oz), o18_takes, o18_good, o18_wanted, o18_got, o18_replaced, o18_least, o18_accepts, .ref o25, o18_due, o18_day, .ref o28, .ref o29, .ref o30])), (o25, .inl (cI, 30, .inl parts)), (o28, .inl (cI, 30, .inl ftake)), (o29, .inl (cI, 70, .inl tkb)), (o30, .inl (cI, 70, .inl tku))]) (vp_Si (fun r0 => r0 = if wh = 0 then tkb (ft + pl) else tku (ft + pl))) 0 0 (fun _ => False) := by
  refine Met.ofW (cc := cX9_taken) (maxL := 5) (ret := (some .int)) (by decide) rfl ?_
  intro p e s m args below meth c s₁ B hml hv
  obtain ⟨rfl, hP, hK, hD0, hN⟩ := hv
  have hx := B.exec
  have hb := B.bytes
  have hr := B.returns
  have hts := atoms_spec (ws := wsX9_taken) B.pre
  have hown : s.vm.findClass RX9 = some m.cls := findClass_of_methodNamed B.named
  have hlocks := B.notSynchronized
  have k_12 := hts (Cond.fieldLink RX9 12 "ShelfStages" "now" "LShelfStages$State;") (by decide +kernel)
  have k_165 := hts (Cond.fieldLink RX9 165 "ShelfStages$State" "orders" "LShelfStages$Orders;") (by decide +kernel)
  have k_294 := hts (Cond.fieldLink RX9 294 "ShelfStages$Orders" "parts" "[I") (by decide +kernel)
  have k_302 := hts (Cond.fieldLink RX9 302 "ShelfStages$Orders" "firstTake" "[I") (by decide +kernel)
  have k_305 := hts (Cond.fieldLink RX9 305 "ShelfStages$Orders" "takeBatch" "[I") (by decide +kernel)
  have k_308 := hts (Cond.fieldLink RX9 308 "ShelfStages$Orders" "takeUnits" "[I") (by decide +kernel)
  have i_X6 : ∀ w ∈ wsX60, w ∈ wsX9_taken := by decide +kernel
  have i_X8 : ∀ w ∈ wsX80, w ∈ wsX9_taken := by decide +kernel
  have i_X9 : ∀ w ∈ wsX90, w ∈ wsX9_taken := by decide +kernel
  have hD := hD0
  have hl := lv_entry ([.ref x0, .int (nI ko), .int (nI pl), .int wh]) (n := 5) (Nat.le_of_ble_eq_true rfl)
  rw [lg_entry_eq]
  generalize (lg_sl ([.ref x0, .int (nI ko), .int (nI pl), .int wh]) ++ List.replicate (5 - (lg_sl ([.ref x0, .int (nI ko), .int (nI pl), .int wh])).length) Slot.unset).toArray = ls at hl ⊢
  have hl : lv_has ls 5 [(0, .ref x0), (1, .int (nI ko)), (2, .int (nI pl)), (3, .int wh)] := hl
  refine lv_aload_n hx hb dX9_taken_0 rfl (lv_at hl 0 rfl) ?_
  refine lv_iload_n hx hb dX9_taken_1 rfl (lv_at hl 1 rfl) ?_
  refine xkRi (xV (As := [.int (nI ko)]) (rest := []) (wc := [(x0, .inr (9, [.ref o0, x0_snapshot, x0_trial, x0_history, x0_filling, x0_delivery, x0_text, x0_textLength, x0_hasSnapshot])), (o0, .inr (8, [o0_goods, o0_batches, .ref o18, o0_stages, o0_log, o0_settings, o0_rebate, o0_day])), (o18, .inr (6, [.int (nI oz), o18_takes, o18_good, o18_wanted, o18_got, o18_replaced, o18_least, o18_accepts, .ref o25, o18_due, o18_day, .ref o28, .ref o29, .ref o30]))]) hx hb hml hown hts (c_X9_hasOrder l dC dI cI cF cC cZ cQ cS x0 o0 x0_snapshot x0_trial x0_history x0_filling x0_delivery x0_text x0_textLength x0_hasSnapshot o0_goods o0_batches o18 o0_stages o0_log o0_settings o0_rebate o0_day oz o18_takes o18_good o18_wanted o18_got o18_replaced o18_least o18_accepts (.ref o25) o18_due o18_day (.ref o28) (.ref o29) (.ref o30) (nI ko) (by omega)) 1 gX9_taken_X9_hasOrder rfl rfl rfl hdV_X9_hasOrder ⟨Nat.le_of_ble_eq_true rfl, Nat.le_of_ble_eq_true rfl⟩ hN hK hP hD [0, 1, 2] rfl rfl 9 0 rfl rfl rfl hl.1 rfl (Nat.le_of_ble_eq_true rfl) dX9_taken_2 ⟨Nat.zero_le _, Nat.zero_le _⟩) (fun r_1 hr_1 => ?_)
  have hr_1 : r_1 = (if xhas (nI ko) oz then nI 1 else nI 0) := hr_1
  obtain rfl : r_1 = nI 1 := hr_1.trans (if_pos (xhas_of hk (by omega)))
  refine xr_ifn1 (tgt := 10) hx hb (by decide) dX9_taken_5 (by decide) ?_
  refine lv_iload_n hx hb dX9_taken_10 rfl (lv_at hl 2 rfl) ?_
  refine xr_zlt_n (tgt := 23) hx hb (by omega) dX9_taken_11 (by decide) ?_
  refine lv_iload_n hx hb dX9_taken_14 rfl (lv_at hl 3 rfl) ?_
  refine lv_iconst (v := nI 0) hx hb dX9_taken_15 (by decide) ?_
  refine lv_iconst (v := nI 1) hx hb dX9_taken_16 (by decide) ?_
  refine xkRi (xSs (Ws' := ([] : List Cond)) (As := [.int wh, .int (nI 0), .int (nI 1)]) (rest := []) (wc := []) hx hb hml hown hts (c_X9_within l dC dI cI cF cC cZ cQ cS wh (nI 0) (nI 1)) 3 (fun hR => va_cwS 3 hts gX9_taken_X9_within rfl rfl rfl hdN_X9_within hR) ⟨Nat.le_of_ble_eq_true rfl, Nat.le_of_ble_eq_true rfl⟩ hN hK hP hD [] rfl rfl rfl hl.1 rfl (Nat.le_of_ble_eq_true rfl) dX9_taken_17 ⟨Nat.zero_le _, Nat.zero_le _⟩) (fun r_2 hr_2 => ?_)
  have hr_2 : r_2 = (if (nI 0) ≤ wh ∧ wh ≤ (nI 1) then nI 1 else nI 0) := hr_2
  obtain rfl : r_2 = nI 1 := hr_2.trans (if_pos hw)
  refine xr_ifn1 (tgt := 26) hx hb (by decide) dX9_taken_20 (by decide) ?_
  refine lv_iload_n hx hb dX9_taken_26 rfl (lv_at hl 2 rfl) ?_
  refine lv_aload_n hx hb dX9_taken_27 rfl (lv_at hl 0 rfl) ?_
  refine va_get (D := (dC, dI)) (ci := 9) (v := .ref o0) (C := RX9) (T := TX9) (N := 9) hx hb hts i_X9 hown hK hP 0 rfl rfl 0 (by decide) k_12 (fun _ h9 => h9) rfl dX9_taken_28 ?_
  refine va_get (D := (dC, dI)) (ci := 8) (v := .ref o18) (C := RX8) (T := TX8) (N := 8) hx hb hts i_X8 hown hK hP 1 rfl rfl 2 (by decide) k_165 (fun _ h9 => h9) rfl dX9_taken_31 ?_
  refine va_get (D := (dC, dI)) (ci := 6) (v := .ref o25) (C := RX6) (T := TX6) (N := 14) hx hb hts i_X6 hown hK hP 2 rfl rfl 8 (by decide) k_294 (fun _ h9 => h9) rfl dX9_taken_34 ?_
  refine lv_iload_n hx hb dX9_taken_37 rfl (lv_at hl 1 rfl) ?_
  refine xr_iald hx hb hK hP 3 0 rfl rfl (i := ko) (by omega) (by decide) dX9_taken_38 ?_
  refine xr_top (show parts ko = nI pt from hpt) ?_
  refine xr_lt_n (tgt := 45) hx hb (by omega) (by omega) dX9_taken_39 (by decide) (fun c_3 => ?_) (fun c_3 => False.elim (by omega))
  refine lv_aload_n hx hb dX9_taken_45 rfl (lv_at hl 0 rfl) ?_
  refine va_get (D := (dC, dI)) (ci := 9) (v := .ref o0) (C := RX9) (T := TX9) (N := 9) hx hb hts i_X9 hown hK hP 0 rfl rfl 0 (by decide) k_12 (fun _ h9 => h9) rfl dX9_taken_46 ?_
  refine va_get (D := (dC, dI)) (ci := 8) (v := .ref o18) (C := RX8) (T := TX8) (N := 8) hx hb hts i_X8 hown hK hP 1 rfl rfl 2 (by decide) k_165 (fun _ h9 => h9) rfl dX9_taken_49 ?_
  refine va_get (D := (dC, dI)) (ci := 6) (v := .ref o28) (C := RX6) (T := TX6) (N := 14) hx hb hts i_X6 hown hK hP 2 rfl rfl 11 (by decide) k_302 (fun _ h9 => h9) rfl dX9_taken_52 ?_
  refine lv_iload_n hx hb dX9_taken_55 rfl (lv_at hl 1 rfl) ?_
  refine xr_iald hx hb hK hP 4 0 rfl rfl (i := ko) (by omega) (by decide) dX9_taken_56 ?_
  refine xr_top (show ftake ko = nI ft from hft) ?_
  refine lv_iload_n hx hb dX9_taken_57 rfl (lv_at hl 2 rfl) ?_
  refine xr_iadd_n hx hb dX9_taken_58 ?_
  refine lv_istore (lv' := [(4, .int (nI (ft + pl))), (0, .ref x0), (1, .int (nI ko)), (2, .int (nI pl)), (3, .int wh)]) hx hb dX9_taken_59 hl (by decide) rfl (fun ls hl => ?_)
  refine lv_iload_n hx hb dX9_taken_61 rfl (lv_at hl 4 rfl) ?_
  refine lv_if_ne (tgt := 81) hx hb dX9_taken_62 (by decide) (fun c_4 => ?_) (fun c_4 => ?_)
  · skip
    refine lv_aload_n hx hb dX9_taken_81 rfl (lv_at hl 1 rfl) ?_
    refine va_get (D := (dC, dI)) (ci := 9) (v := .ref o0) (C := RX9) (T := TX9) (N := 9) hx hb hts i_X9 hown hK hP 0 rfl rfl 0 (by decide) k_12 (fun _ h9 => h9) rfl dX9_taken_82 ?_
    refine va_get (D := (dC, dI)) (ci := 8) (v := .ref o18) (C := RX8) (T := TX8) (N := 8) hx hb hts i_X8 hown hK hP 1 rfl rfl 2 (by decide) k_165 (fun _ h9 => h9) rfl dX9_taken_85 ?_
    refine va_get (D := (dC, dI)) (ci := 6) (v := .ref o30) (C := RX6) (T := TX6) (N := 14) hx hb hts i_X6 hown hK hP 2 rfl rfl 13 (by decide) k_308 (fun _ h9 => h9) rfl dX9_taken_88 ?_
    refine lv_iload hx hb dX9_taken_91 (lv_at hl 0 rfl) ?_
    refine xr_iald hx hb hK hP 6 0 rfl rfl (i := ft + pl) (by omega) (by decide) dX9_taken_93 ?_
    exact W.iret (v := tku (ft + pl)) hx hb hr (fun t ht hW => ⟨_, rfl, (show tku (ft + pl) = if wh = 0 then tkb (ft + pl) else tku (ft + pl) from (if_neg c_4).symm), ht⟩) (fun q h => by cases h) dX9_taken_94
  refine lv_aload_n hx hb dX9_taken_65 rfl (lv_at hl 1 rfl) ?_
  refine va_get (D := (dC, dI)) (ci := 9) (v := .ref o0) (C := RX9) (T := TX9) (N := 9) hx hb hts i_X9 hown hK hP 0 rfl rfl 0 (by decide) k_12 (fun _ h9 => h9) rfl dX9_taken_66 ?_
  refine va_get (D := (dC, dI)) (ci := 8) (v := .ref o18) (C := RX8) (T := TX8) (N := 8) hx hb hts i_X8 hown hK hP 1 rfl rfl 2 (by decide) k_165 (fun _ h9 => h9) rfl dX9_taken_69 ?_
  refine va_get (D := (dC, dI)) (ci := 6) (v := .ref o29) (C := RX6) (T := TX6) (N := 14) hx hb hts i_X6 hown hK hP 2 rfl rfl 12 (by decide) k_305 (fun _ h9 => h9) rfl dX9_taken_72 ?_
  refine lv_iload hx hb dX9_taken_75 (lv_at hl 0 rfl) ?_
  refine xr_iald hx hb hK hP 5 0 rfl rfl (i := ft + pl) (by omega) (by decide) dX9_taken_77 ?_
  refine lv_goto (tgt := 94) hx hb dX9_taken_78 (by decide) ?_
  exact W.iret (v := tkb (ft + pl)) hx hb hr (fun t ht hW => ⟨_, rfl, (show tkb (ft + pl) = if wh = 0 then tkb (ft + pl) else tku (ft + pl) from (if_pos c_4).symm), ht⟩) (fun q h => by cases h) dX9_taken_94