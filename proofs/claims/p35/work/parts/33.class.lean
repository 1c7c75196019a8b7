set_option maxHeartbeats 4000000 in
set_option maxRecDepth 100000 in
theorem c_X9_goods (l : Launch) (dC : Nat → ClassId) (dI : Nat → Nat → Nat) (cI cF cC cZ cQ cS : ClassId) (x0 : Nat) (o0 : Nat) (x0_snapshot : Value) (x0_trial : Value) (x0_history : Value) (x0_filling : Value) (x0_delivery : Value) (x0_text : Value) (x0_textLength : Value) (x0_hasSnapshot : Value) (o1 : Nat) (o6 : Nat) (o18 : Nat) (o0_stages : Value) (o0_log : Value) (o0_settings : Value) (o0_rebate : Value) (o0_day : Value) (gz : Nat) (o2 : Nat) (o3 : Nat) (o4 : Nat) (o1_list : Value) (price : Nat → Int32) (life : Nat → Int32) (listed : Nat → Int32) (bz : Nat) (o7 : Nat) (o6_came : Value) (o6_left : Value) (o10 : Nat) (o11 : Nat) (o6_given : Value) (o6_cents : Value) (o6_wasted : Value) (good : Nat → Int32) (shelf : Nat → Int32) (sold : Nat → Int32) (oz : Nat) (o18_takes : Value) (o19 : Nat) (o18_wanted : Value) (o21 : Nat) (o18_replaced : Value) (o18_least : Value) (o18_accepts : Value) (o18_parts : Value) (o18_due : Value) (o18_day : Value) (o18_firstTake : Value) (o18_takeBatch : Value) (o18_takeUnits : Value) (ogood : Nat → Int32) (got : Nat → Int32) (kg : Nat) (wh : Int32) (hm : gz ≤ 12) (hk : kg < gz) (hbz : bz ≤ 40) (hoz : oz ≤ 30) : Met l yX9_good wsX9_good ({ frames := 2, cells := 0, slots := 0, locals := 43 }) (xPre (dC, dI) vwCl [.ref x0, .int (nI kg), .int wh] (xtys cI cF cC cZ cQ cS) [(x0, .inr (9, [.ref o0, x0_snapshot, x0_trial, x0_history, x0_filling, x0_delivery, x0_text, x0_textLength, x0_hasSnapshot])), (o0, .inr (8, [.ref o1, .ref o6, .ref o18, o0_stages, o0_log, o0_settings, o0_rebate, o0_day])), (o1, .inr (3, [.int (nI gz), .ref o2, .ref o3, .ref o4, o1_list])), (o2, .inl (cI, 12, .inl price)), (o3, .inl (cI, 12, .inl life)), (o4, .inl (cI, 12, .inl listed)), (o6, .inr (0, [.int (nI bz), .ref o7, o6_came, o6_left, .ref o10, .ref o11, o6_given, o6_cents, o6_wasted])), (o7, .inl (cI, 40, .inl good)), (o10, .inl (cI, 40, .inl shelf)), (o11, .inl (cI, 40, .inl sold)), (o18, .inr (6, [.int (nI oz), o18_takes, .ref o19, o18_wanted, .ref o21, o18_replaced, o18_least, o18_accepts, o18_parts, o18_due, o18_day, o18_firstTake, o18_takeBatch, o18_takeUnits])), (o19, .inl (cI, 30, .inl ogood)), (o21, .inl (cI, 30, .inl got))]) (vp_Si (fun r0 => r0 = tGood wh (price kg) (life kg) (listed kg) (xsumIf good (nI kg) shelf bz) (xcnt good (nI kg) bz) (xsumIf good (nI kg) sold bz) (xsumIf ogood (nI kg) got oz))) 0 0 (fun _ => False) := by
  refine Met.ofW (cc := cX9_good) (maxL := 4) (ret := (some .int)) (by decide) rfl ?_
  intro p e s m args below meth c s₁ B hml hv
  obtain ⟨rfl, hP, hK, hD0, hN⟩ := hv
  have hx := B.exec
  have hb := B.bytes
  have hr := B.returns
  have hts := atoms_spec (ws := wsX9_good) B.pre
  have hown : s.vm.findClass RX9 = some m.cls := findClass_of_methodNamed B.named
  have hlocks := B.notSynchronized
  have k_12 := hts (Cond.fieldLink RX9 12 "ShelfStages" "now" "LShelfStages$State;") (by decide +kernel)
  have k_129 := hts (Cond.fieldLink RX9 129 "ShelfStages$State" "batches" "LShelfStages$Batches;") (by decide +kernel)
  have k_165 := hts (Cond.fieldLink RX9 165 "ShelfStages$State" "orders" "LShelfStages$Orders;") (by decide +kernel)
  have k_192 := hts (Cond.fieldLink RX9 192 "ShelfStages$Batches" "shelf" "[I") (by decide +kernel)
  have k_220 := hts (Cond.fieldLink RX9 220 "ShelfStages$Goods" "life" "[I") (by decide +kernel)
  have k_226 := hts (Cond.fieldLink RX9 226 "ShelfStages$Batches" "sold" "[I") (by decide +kernel)
  have k_51 := hts (Cond.fieldLink RX9 51 "ShelfStages$State" "goods" "LShelfStages$Goods;") (by decide +kernel)
  have k_73 := hts (Cond.fieldLink RX9 73 "ShelfStages$Goods" "price" "[I") (by decide +kernel)
  have k_77 := hts (Cond.fieldLink RX9 77 "ShelfStages$Goods" "listed" "[I") (by decide +kernel)
  have i_X0 : ∀ w ∈ wsX00, w ∈ wsX9_good := by decide +kernel
  have i_X3 : ∀ w ∈ wsX30, w ∈ wsX9_good := by decide +kernel
  have i_X8 : ∀ w ∈ wsX80, w ∈ wsX9_good := by decide +kernel
  have i_X9 : ∀ w ∈ wsX90, w ∈ wsX9_good := by decide +kernel
  have hD := hD0
  have hl := lv_entry ([.ref x0, .int (nI kg), .int wh]) (n := 4) (Nat.le_of_ble_eq_true rfl)
  rw [lg_entry_eq]
  generalize (lg_sl ([.ref x0, .int (nI kg), .int wh]) ++ List.replicate (4 - (lg_sl ([.ref x0, .int (nI kg), .int wh])).length) Slot.unset).toArray = ls at hl ⊢
  have hl : lv_has ls 4 [(0, .ref x0), (1, .int (nI kg)), (2, .int wh)] := hl
  refine lv_aload_n hx hb dX9_good_0 rfl (lv_at hl 0 rfl) ?_
  refine lv_iload_n hx hb dX9_good_1 rfl (lv_at hl 1 rfl) ?_
  refine xkRi (xV (As := [.int (nI kg)]) (rest := []) (wc := [(x0, .inr (9, [.ref o0, x0_snapshot, x0_trial, x0_history, x0_filling, x0_delivery, x0_text, x0_textLength, x0_hasSnapshot])), (o0, .inr (8, [.ref o1, .ref o6, .ref o18, o0_stages, o0_log, o0_settings, o0_rebate, o0_day])), (o1, .inr (3, [.int (nI gz), .ref o2, .ref o3, .ref o4, o1_list]))]) hx hb hml hown hts (c_X9_hasGood l dC dI cI cF cC cZ cQ cS x0 o0 x0_snapshot x0_trial x0_history x0_filling x0_delivery x0_text x0_textLength x0_hasSnapshot o1 (.ref o6) (.ref o18) o0_stages o0_log o0_settings o0_rebate o0_day gz (.ref o2) (.ref o3) (.ref o4) o1_list (nI kg) (by omega)) 1 gX9_good_X9_hasGood rfl rfl rfl hdV_X9_hasGood ⟨Nat.le_of_ble_eq_true rfl, Nat.le_of_ble_eq_true rfl⟩ hN hK hP hD [0, 1, 2] rfl rfl 9 0 rfl rfl rfl hl.1 rfl (Nat.le_of_ble_eq_true rfl) dX9_good_2 ⟨Nat.zero_le _, Nat.zero_le _⟩) (fun r_1 hr_1 => ?_)
  have hr_1 : r_1 = (if xhas (nI kg) gz then nI 1 else nI 0) := hr_1
  obtain rfl : r_1 = nI 1 := hr_1.trans (if_pos (xhas_of hk (by omega)))
  refine xr_ifn1 (tgt := 10) hx hb (by decide) dX9_good_5 (by decide) ?_
  refine lv_aload_n hx hb dX9_good_10 rfl (lv_at hl 0 rfl) ?_
  refine va_get (D := (dC, dI)) (ci := 9) (v := .ref o0) (C := RX9) (T := TX9) (N := 9) hx hb hts i_X9 hown hK hP 0 rfl rfl 0 (by decide) k_12 (fun _ h9 => h9) rfl dX9_good_11 ?_
  refine va_get (D := (dC, dI)) (ci := 8) (v := .ref o6) (C := RX8) (T := TX8) (N := 8) hx hb hts i_X8 hown hK hP 1 rfl rfl 1 (by decide) k_129 (fun _ h9 => h9) rfl dX9_good_14 ?_
  refine lv_astore_n (lv' := [(3, .ref o6), (0, .ref x0), (1, .int (nI kg)), (2, .int wh)]) hx hb dX9_good_17 rfl hl (by decide) rfl (fun ls hl => ?_)
  refine lv_iload_n hx hb dX9_good_18 rfl (lv_at hl 3 rfl) ?_
  by_cases cs_2 : wh = nI 0
  · skip
    refine lv_tableIn (tgt := 60) hx hb dX9_good_19 (by rw [cs_2]; decide) (by rw [cs_2]; decide) (by rw [cs_2]; rfl) (by decide) ?_
    refine lv_aload_n hx hb dX9_good_60 rfl (lv_at hl 1 rfl) ?_
    refine va_get (D := (dC, dI)) (ci := 9) (v := .ref o0) (C := RX9) (T := TX9) (N := 9) hx hb hts i_X9 hown hK hP 0 rfl rfl 0 (by decide) k_12 (fun _ h9 => h9) rfl dX9_good_61 ?_
    refine va_get (D := (dC, dI)) (ci := 8) (v := .ref o1) (C := RX8) (T := TX8) (N := 8) hx hb hts i_X8 hown hK hP 1 rfl rfl 0 (by decide) k_51 (fun _ h9 => h9) rfl dX9_good_64 ?_
    refine va_get (D := (dC, dI)) (ci := 3) (v := .ref o2) (C := RX3) (T := TX3) (N := 5) hx hb hts i_X3 hown hK hP 2 rfl rfl 1 (by decide) k_73 (fun _ h9 => h9) rfl dX9_good_67 ?_
    refine lv_iload_n hx hb dX9_good_70 rfl (lv_at hl 2 rfl) ?_
    refine xr_iald hx hb hK hP 3 0 rfl rfl (i := kg) (by omega) (by decide) dX9_good_71 ?_
    exact W.iret (v := price kg) hx hb hr (fun t ht hW => ⟨_, rfl, (show price kg = tGood wh (price kg) (life kg) (listed kg) (xsumIf good (nI kg) shelf bz) (xcnt good (nI kg) bz) (xsumIf good (nI kg) sold bz) (xsumIf ogood (nI kg) got oz) from (by unfold tGood; rw [if_pos cs_2])), ht⟩) (fun q h => by cases h) dX9_good_72
  by_cases cs_3 : wh = nI 1
  · skip
    refine lv_tableIn (tgt := 73) hx hb dX9_good_19 (by rw [cs_3]; decide) (by rw [cs_3]; decide) (by rw [cs_3]; rfl) (by decide) ?_
    refine lv_aload_n hx hb dX9_good_73 rfl (lv_at hl 1 rfl) ?_
    refine va_get (D := (dC, dI)) (ci := 9) (v := .ref o0) (C := RX9) (T := TX9) (N := 9) hx hb hts i_X9 hown hK hP 0 rfl rfl 0 (by decide) k_12 (fun _ h9 => h9) rfl dX9_good_74 ?_
    refine va_get (D := (dC, dI)) (ci := 8) (v := .ref o1) (C := RX8) (T := TX8) (N := 8) hx hb hts i_X8 hown hK hP 1 rfl rfl 0 (by decide) k_51 (fun _ h9 => h9) rfl dX9_good_77 ?_
    refine va_get (D := (dC, dI)) (ci := 3) (v := .ref o3) (C := RX3) (T := TX3) (N := 5) hx hb hts i_X3 hown hK hP 2 rfl rfl 2 (by decide) k_220 (fun _ h9 => h9) rfl dX9_good_80 ?_
    refine lv_iload_n hx hb dX9_good_83 rfl (lv_at hl 2 rfl) ?_
    refine xr_iald hx hb hK hP 4 0 rfl rfl (i := kg) (by omega) (by decide) dX9_good_84 ?_
    exact W.iret (v := life kg) hx hb hr (fun t ht hW => ⟨_, rfl, (show life kg = tGood wh (price kg) (life kg) (listed kg) (xsumIf good (nI kg) shelf bz) (xcnt good (nI kg) bz) (xsumIf good (nI kg) sold bz) (xsumIf ogood (nI kg) got oz) from (by unfold tGood; rw [if_neg cs_2, if_pos cs_3])), ht⟩) (fun q h => by cases h) dX9_good_85
  by_cases cs_4 : wh = nI 2
  · skip
    refine lv_tableIn (tgt := 86) hx hb dX9_good_19 (by rw [cs_4]; decide) (by rw [cs_4]; decide) (by rw [cs_4]; rfl) (by decide) ?_
    refine lv_aload_n hx hb dX9_good_86 rfl (lv_at hl 1 rfl) ?_
    refine va_get (D := (dC, dI)) (ci := 9) (v := .ref o0) (C := RX9) (T := TX9) (N := 9) hx hb hts i_X9 hown hK hP 0 rfl rfl 0 (by decide) k_12 (fun _ h9 => h9) rfl dX9_good_87 ?_
    refine va_get (D := (dC, dI)) (ci := 8) (v := .ref o1) (C := RX8) (T := TX8) (N := 8) hx hb hts i_X8 hown hK hP 1 rfl rfl 0 (by decide) k_51 (fun _ h9 => h9) rfl dX9_good_90 ?_
    refine va_get (D := (dC, dI)) (ci := 3) (v := .ref o4) (C := RX3) (T := TX3) (N := 5) hx hb hts i_X3 hown hK hP 2 rfl rfl 3 (by decide) k_77 (fun _ h9 => h9) rfl dX9_good_93 ?_
    refine lv_iload_n hx hb dX9_good_96 rfl (lv_at hl 2 rfl) ?_
    refine xr_iald hx hb hK hP 5 0 rfl rfl (i := kg) (by omega) (by decide) dX9_good_97 ?_
    exact W.iret (v := listed kg) hx hb hr (fun t ht hW => ⟨_, rfl, (show listed kg = tGood wh (price kg) (life kg) (listed kg) (xsumIf good (nI kg) shelf bz) (xcnt good (nI kg) bz) (xsumIf good (nI kg) sold bz) (xsumIf ogood (nI kg) got oz) from (by unfold tGood; rw [if_neg cs_2, if_neg cs_3, if_pos cs_4])), ht⟩) (fun q h => by cases h) dX9_good_98
  by_cases cs_5 : wh = nI 3
  · skip
    refine lv_tableIn (tgt := 99) hx hb dX9_good_19 (by rw [cs_5]; decide) (by rw [cs_5]; decide) (by rw [cs_5]; rfl) (by decide) ?_
    refine lv_aload_n hx hb dX9_good_99 rfl (lv_at hl 0 rfl) ?_
    refine lv_aload_n hx hb dX9_good_100 rfl (lv_at hl 0 rfl) ?_
    refine va_get (D := (dC, dI)) (ci := 0) (v := .ref o10) (C := RX0) (T := TX0) (N := 9) hx hb hts i_X0 hown hK hP 6 rfl rfl 4 (by decide) k_192 (fun _ h9 => h9) rfl dX9_good_101 ?_
    refine lv_iload_n hx hb dX9_good_104 rfl (lv_at hl 2 rfl) ?_
    refine xkRi (xV (As := [.ref o10, .int (nI kg)]) (rest := []) (wc := [(o6, .inr (0, [.int (nI bz), .ref o7, o6_came, o6_left, .ref o10, .ref o11, o6_given, o6_cents, o6_wasted])), (o10, .inl (cI, 40, .inl shelf)), (o7, .inl (cI, 40, .inl good))]) hx hb hml hown hts (c_X0_sumOfGood l dC dI cI cF cC cZ cQ cS o6 o7 o6_came o6_left (.ref o10) (.ref o11) o6_given o6_cents o6_wasted o10 shelf good bz (nI kg) (by omega)) 2 gX9_good_X0_sumOfGood rfl rfl rfl hdV_X0_sumOfGood ⟨Nat.le_of_ble_eq_true rfl, Nat.le_of_ble_eq_true rfl⟩ hN hK hP hD [6, 8, 7] rfl rfl 0 6 rfl rfl rfl hl.1 rfl (Nat.le_of_ble_eq_true rfl) dX9_good_105 ⟨Nat.zero_le _, Nat.zero_le _⟩) (fun r_6 hr_6 => ?_)
    obtain rfl : r_6 = xsumIf good (nI kg) shelf bz := hr_6
    exact W.iret (v := xsumIf good (nI kg) shelf bz) hx hb hr (fun t ht hW => ⟨_, rfl, (show xsumIf good (nI kg) shelf bz = tGood wh (price kg) (life kg) (listed kg) (xsumIf good (nI kg) shelf bz) (xcnt good (nI kg) bz) (xsumIf good (nI kg) sold bz) (xsumIf ogood (nI kg) got oz) from (by unfold tGood; rw [if_neg cs_2, if_neg cs_3, if_neg cs_4, if_pos cs_5])), ht⟩) (fun q h => by cases h) dX9_good_108
  by_cases cs_7 : wh = nI 4
  · skip
    refine lv_tableIn (tgt := 109) hx hb dX9_good_19 (by rw [cs_7]; decide) (by rw [cs_7]; decide) (by rw [cs_7]; rfl) (by decide) ?_
    refine lv_aload_n hx hb dX9_good_109 rfl (lv_at hl 0 rfl) ?_
    refine lv_iload_n hx hb dX9_good_110 rfl (lv_at hl 2 rfl) ?_
    refine xkRi (xV (As := [.int (nI kg)]) (rest := []) (wc := [(o6, .inr (0, [.int (nI bz), .ref o7, o6_came, o6_left, .ref o10, .ref o11, o6_given, o6_cents, o6_wasted])), (o7, .inl (cI, 40, .inl good))]) hx hb hml hown hts (c_X0_countOfGood l dC dI cI cF cC cZ cQ cS o6 o7 o6_came o6_left (.ref o10) (.ref o11) o6_given o6_cents o6_wasted good bz (nI kg) (by omega)) 1 gX9_good_X0_countOfGood rfl rfl rfl hdV_X0_countOfGood ⟨Nat.le_of_ble_eq_true rfl, Nat.le_of_ble_eq_true rfl⟩ hN hK hP hD [6, 7] rfl rfl 0 6 rfl rfl rfl hl.1 rfl (Nat.le_of_ble_eq_true rfl) dX9_good_111 ⟨Nat.zero_le _, Nat.zero_le _⟩) (fun r_8 hr_8 => ?_)
    obtain rfl : r_8 = xcnt good (nI kg) bz := hr_8
    exact W.iret (v := xcnt good (nI kg) bz) hx hb hr (fun t ht hW => ⟨_, rfl, (show xcnt good (nI kg) bz = tGood wh (price kg) (life kg) (listed kg) (xsumIf good (nI kg) shelf bz) (xcnt good (nI kg) bz) (xsumIf good (nI kg) sold bz) (xsumIf ogood (nI kg) got oz) from (by unfold tGood; rw [if_neg cs_2, if_neg cs_3, if_neg cs_4, if_neg cs_5, if_pos cs_7])), ht⟩) (fun q h => by cases h) dX9_good_114
  by_cases cs_9 : wh = nI 5
  · skip
    refine lv_tableIn (tgt := 115) hx hb dX9_good_19 (by rw [cs_9]; decide) (by rw [cs_9]; decide) (by rw [cs_9]; rfl) (by decide) ?_
    refine lv_aload_n hx hb dX9_good_115 rfl (lv_at hl 0 rfl) ?_
    refine lv_aload_n hx hb dX9_good_116 rfl (lv_at hl 0 rfl) ?_
    refine va_get (D := (dC, dI)) (ci := 0) (v := .ref o11) (C := RX0) (T := TX0) (N := 9) hx hb hts i_X0 hown hK hP 6 rfl rfl 5 (by decide) k_226 (fun _ h9 => h9) rfl dX9_good_117 ?_
    refine lv_iload_n hx hb dX9_good_120 rfl (lv_at hl 2 rfl) ?_
    refine xkRi (xV (As := [.ref o11, .int (nI kg)]) (rest := []) (wc := [(o6, .inr (0, [.int (nI bz), .ref o7, o6_came, o6_left, .ref o10, .ref o11, o6_given, o6_cents, o6_wasted])), (o11, .inl (cI, 40, .inl sold)), (o7, .inl (cI, 40, .inl good))]) hx hb hml hown hts (c_X0_sumOfGood l dC dI cI cF cC cZ cQ cS o6 o7 o6_came o6_left (.ref o10) (.ref o11) o6_given o6_cents o6_wasted o11 sold good bz (nI kg) (by omega)) 2 gX9_good_X0_sumOfGood rfl rfl rfl hdV_X0_sumOfGood ⟨Nat.le_of_ble_eq_true rfl, Nat.le_of_ble_eq_true rfl⟩ hN hK hP hD [6, 9, 7] rfl rfl 0 6 rfl rfl rfl hl.1 rfl (Nat.le_of_ble_eq_true rfl) dX9_good_121 ⟨Nat.zero_le _, Nat.zero_le _⟩) (fun r_10 hr_10 => ?_)
    obtain rfl : r_10 = xsumIf good (nI kg) sold bz := hr_10
    exact W.iret (v := xsumIf good (nI kg) sold bz) hx hb hr (fun t ht hW => ⟨_, rfl, (show xsumIf good (nI kg) sold bz = tGood wh (price kg) (life kg) (listed kg) (xsumIf good (nI kg) shelf bz) (xcnt good (nI kg) bz) (xsumIf good (nI kg) sold bz) (xsumIf ogood (nI kg) got oz) from (by unfold tGood; rw [if_neg cs_2, if_neg cs_3, if_neg cs_4, if_neg cs_5, if_neg cs_7, if_pos cs_9])), ht⟩) (fun q h => by cases h) dX9_good_124
  by_cases cs_11 : wh = nI 6
  · skip
    refine lv_tableIn (tgt := 125) hx hb dX9_good_19 (by rw [cs_11]; decide) (by rw [cs_11]; decide) (by rw [cs_11]; rfl) (by decide) ?_
    refine lv_aload_n hx hb dX9_good_125 rfl (lv_at hl 1 rfl) ?_
    refine va_get (D := (dC, dI)) (ci := 9) (v := .ref o0) (C := RX9) (T := TX9) (N := 9) hx hb hts i_X9 hown hK hP 0 rfl rfl 0 (by decide) k_12 (fun _ h9 => h9) rfl dX9_good_126 ?_
    refine va_get (D := (dC, dI)) (ci := 8) (v := .ref o18) (C := RX8) (T := TX8) (N := 8) hx hb hts i_X8 hown hK hP 1 rfl rfl 2 (by decide) k_165 (fun _ h9 => h9) rfl dX9_good_129 ?_
    refine lv_iload_n hx hb dX9_good_132 rfl (lv_at hl 2 rfl) ?_
    refine xkRi (xV (As := [.int (nI kg)]) (rest := []) (wc := [(o18, .inr (6, [.int (nI oz), o18_takes, .ref o19, o18_wanted, .ref o21, o18_replaced, o18_least, o18_accepts, o18_parts, o18_due, o18_day, o18_firstTake, o18_takeBatch, o18_takeUnits])), (o19, .inl (cI, 30, .inl ogood)), (o21, .inl (cI, 30, .inl got))]) hx hb hml hown hts (c_X6_gotForGood l dC dI cI cF cC cZ cQ cS o18 o18_takes o19 o18_wanted o21 o18_replaced o18_least o18_accepts o18_parts o18_due o18_day o18_firstTake o18_takeBatch o18_takeUnits ogood got oz (nI kg) (by omega)) 1 gX9_good_X6_gotForGood rfl rfl rfl hdV_X6_gotForGood ⟨Nat.le_of_ble_eq_true rfl, Nat.le_of_ble_eq_true rfl⟩ hN hK hP hD [10, 11, 12] rfl rfl 6 10 rfl rfl rfl hl.1 rfl (Nat.le_of_ble_eq_true rfl) dX9_good_133 ⟨Nat.zero_le _, Nat.zero_le _⟩) (fun r_12 hr_12 => ?_)
    obtain rfl : r_12 = xsumIf ogood (nI kg) got oz := hr_12
    exact W.iret (v := xsumIf ogood (nI kg) got oz) hx hb hr (fun t ht hW => ⟨_, rfl, (show xsumIf ogood (nI kg) got oz = tGood wh (price kg) (life kg) (listed kg) (xsumIf good (nI kg) shelf bz) (xcnt good (nI kg) bz) (xsumIf good (nI kg) sold bz) (xsumIf ogood (nI kg) got oz) from (by unfold tGood; rw [if_neg cs_2, if_neg cs_3, if_neg cs_4, if_neg cs_5, if_neg cs_7, if_neg cs_9, if_pos cs_11])), ht⟩) (fun q h => by cases h) dX9_good_136
  refine lv_tableOut (tgt := 137) hx hb dX9_good_19 (xsw_out 7 (by decide) (fun j hj => by
      rcases (show j = 0 ∨ j = 1 ∨ j = 2 ∨ j = 3 ∨ j = 4 ∨ j = 5 ∨ j = 6 by omega) with rfl | rfl | rfl | rfl | rfl | rfl | rfl
      · exact cs_2
      · exact cs_3
      · exact cs_4
      · exact cs_5
      · exact cs_7
      · exact cs_9
      · exact cs_11)) (by decide) ?_
  refine lv_bipush (v := (-2)) hx hb dX9_good_137 (by decide) ?_
  exact W.iret (v := (-2)) hx hb hr (fun t ht hW => ⟨_, rfl, (show (-2) = tGood wh (price kg) (life kg) (listed kg) (xsumIf good (nI kg) shelf bz) (xcnt good (nI kg) bz) (xsumIf good (nI kg) sold bz) (xsumIf ogood (nI kg) got oz) from (by unfold tGood; rw [if_neg cs_2, if_neg cs_3, if_neg cs_4, if_neg cs_5, if_neg cs_7, if_neg cs_9, if_neg cs_11])), ht⟩) (fun q h => by cases h) dX9_good_139
set_option maxHeartbeats 4000000 in
set_option maxRecDepth 100000 in
theorem c_X9_batchs (l : Launch) (dC : Nat → ClassId) (dI : Nat → Nat → Nat) (cI cF cC cZ cQ cS : ClassId) (x0 : Nat) (o0 : Nat) (x0_snapshot : Value) (x0_trial : Value) (x0_history : Value) (x0_filling : Value) (x0_delivery : Value) (x0_text : Value) (x0_textLength : Value) (x0_hasSnapshot : Value) (o1 : Nat) (o6 : Nat) (o0_orders : Value) (o31 : Nat) (o0_log : Value) (o0_settings : Value) (o0_rebate : Value) (o0_day : Value) (o1_size : Value) (o1_price : Value) (o3 : Nat) (o1_listed : Value) (o1_list : Value) (life : Nat → Int32) (bz : Nat) (o7 : Nat) (o8 : Nat) (o9 : Nat) (o10 : Nat) (o11 : Nat) (o12 : Nat) (o13 : Nat) (o14 : Nat) (good : Nat → Int32) (came : Nat → Int32) (left : Nat → Int32) (shelf : Nat → Int32) (sold : Nat → Int32) (given : Nat → Int32) (cents : Nat → Int32) (o15 : Nat) (wa : Nat → Int32) (o16 : Nat) (wb : Nat → Int32) (o17 : Nat) (wc : Nat → Int32) (o32 : Nat) (o31_markdown : Value) (share : Nat → Int32) (kb : Nat) (wh : Int32) (hm : bz ≤ 40) (hk : kb < bz) (hgb : (good kb).toNatClampNeg < 12 ∧ good kb = nI (good kb).toNatClampNeg) : Met l yX9_batch wsX9_batch ({ frames := 2, cells := 0, slots := 0, locals := 44 }) (xPre (dC, dI) vwCl [.ref x0, .int (nI kb), .int wh] (xtys cI cF cC cZ cQ cS) [(x0, .inr (9, [.ref o0, x0_snapshot, x0_trial, x0_history, x0_filling, x0_delivery, x0_text, x0_textLength, x0_hasSnapshot])), (o0, .inr (8, [.ref o1, .ref o6, o0_orders, .ref o31, o0_log, o0_settings, o0_rebate, o0_day])), (o1, .inr (3, [o1_size, o1_price, .ref o3, o1_listed, o1_list])), (o3, .inl (cI, 12, .inl life)), (o6, .inr (0, [.int (nI bz), .ref o7, .ref o8, .ref o9, .ref o10, .ref o11, .ref o12, .ref o13, .ref o14])), (o7, .inl (cI, 40, .inl good)), (o8, .inl (cI, 40, .inl came)), (o9, .inl (cI, 40, .inl left)), (o10, .inl (cI, 40, .inl shelf)), (o11, .inl (cI, 40, .inl sold)), (o12, .inl (cI, 40, .inl given)), (o13, .inl (cI, 40, .inl cents)), (o14, .inl (cQ, 3, .inr (.inr (.inr (.inr (xrow [o15, o16, o17])))))), (o15, .inl (cI, 40, .inl wa)), (o16, .inl (cI, 40, .inl wb)), (o17, .inl (cI, 40, .inl wc)), (o31, .inr (7, [.ref o32, o31_markdown])), (o32, .inl (cI, 4, .inl share))]) (vp_Si (fun r0 => r0 = tBatch wh (good kb) (came kb) (left kb) (shelf kb) (sold kb) (given kb) ((wa kb + wb kb) + wc kb) (wa kb) (wb kb) (wc kb) (nI (xstg share left life good kb)) (cents kb))) 0 0 (fun _ => False) := by
  refine Met.ofW (cc := cX9_batch) (maxL := 4) (ret := (some .int)) (by decide) rfl ?_
  intro p e s m args below meth c s₁ B hml hv
  obtain ⟨rfl, hP, hK, hD0, hN⟩ := hv
  have hx := B.exec
  have hb := B.bytes
  have hr := B.returns
  have hts := atoms_spec (ws := wsX9_batch) B.pre
  have hown : s.vm.findClass RX9 = some m.cls := findClass_of_methodNamed B.named
  have hlocks := B.notSynchronized
  have k_12 := hts (Cond.fieldLink RX9 12 "ShelfStages" "now" "LShelfStages$State;") (by decide +kernel)
  have k_129 := hts (Cond.fieldLink RX9 129 "ShelfStages$State" "batches" "LShelfStages$Batches;") (by decide +kernel)
  have k_192 := hts (Cond.fieldLink RX9 192 "ShelfStages$Batches" "shelf" "[I") (by decide +kernel)
  have k_226 := hts (Cond.fieldLink RX9 226 "ShelfStages$Batches" "sold" "[I") (by decide +kernel)
  have k_235 := hts (Cond.fieldLink RX9 235 "ShelfStages$Batches" "good" "[I") (by decide +kernel)
  have k_238 := hts (Cond.fieldLink RX9 238 "ShelfStages$Batches" "came" "[I") (by decide +kernel)
  have k_241 := hts (Cond.fieldLink RX9 241 "ShelfStages$Batches" "left" "[I") (by decide +kernel)
  have k_244 := hts (Cond.fieldLink RX9 244 "ShelfStages$Batches" "given" "[I") (by decide +kernel)
  have k_250 := hts (Cond.fieldLink RX9 250 "ShelfStages$Batches" "wasted" "[[I") (by decide +kernel)
  have k_257 := hts (Cond.fieldLink RX9 257 "ShelfStages$Batches" "cents" "[I") (by decide +kernel)
  have i_X0 : ∀ w ∈ wsX00, w ∈ wsX9_batch := by decide +kernel
  have i_X8 : ∀ w ∈ wsX80, w ∈ wsX9_batch := by decide +kernel
  have i_X9 : ∀ w ∈ wsX90, w ∈ wsX9_batch := by decide +kernel
  have hD := hD0
  have hl := lv_entry ([.ref x0, .int (nI kb), .int wh]) (n := 4) (Nat.le_of_ble_eq_true rfl)
  rw [lg_entry_eq]
  generalize (lg_sl ([.ref x0, .int (nI kb), .int wh]) ++ List.replicate (4 - (lg_sl ([.ref x0, .int (nI kb), .int wh])).length) Slot.unset).toArray = ls at hl ⊢
  have hl : lv_has ls 4 [(0, .ref x0), (1, .int (nI kb)), (2, .int wh)] := hl
  refine lv_aload_n hx hb dX9_batch_0 rfl (lv_at hl 0 rfl) ?_
  refine lv_iload_n hx hb dX9_batch_1 rfl (lv_at hl 1 rfl) ?_
  refine xkRi (xV (As := [.int (nI kb)]) (rest := []) (wc := [(x0, .inr (9, [.ref o0, x0_snapshot, x0_trial, x0_history, x0_filling, x0_delivery, x0_text, x0_textLength, x0_hasSnapshot])), (o0, .inr (8, [.ref o1, .ref o6, o0_orders, .ref o31, o0_log, o0_settings, o0_rebate, o0_day])), (o6, .inr (0, [.int (nI bz), .ref o7, .ref o8, .ref o9, .ref o10, .ref o11, .ref o12, .ref o13, .ref o14]))]) hx hb hml hown hts (c_X9_hasBatch l dC dI cI cF cC cZ cQ cS x0 o0 x0_snapshot x0_trial x0_history x0_filling x0_delivery x0_text x0_textLength x0_hasSnapshot (.ref o1) o6 o0_orders (.ref o31) o0_log o0_settings o0_rebate o0_day bz (.ref o7) (.ref o8) (.ref o9) (.ref o10) (.ref o11) (.ref o12) (.ref o13) (.ref o14) (nI kb) (by omega)) 1 gX9_batch_X9_hasBatch rfl rfl rfl hdV_X9_hasBatch ⟨Nat.le_of_ble_eq_true rfl, Nat.le_of_ble_eq_true rfl⟩ hN hK hP hD [0, 1, 4] rfl rfl 9 0 rfl rfl rfl hl.1 rfl (Nat.le_of_ble_eq_true rfl) dX9_batch_2 ⟨Nat.zero_le _, Nat.zero_le _⟩) (fun r_1 hr_1 => ?_)
  have hr_1 : r_1 = (if xhas (nI kb) bz then nI 1 else nI 0) := hr_1
  obtain rfl : r_1 = nI 1 := hr_1.trans (if_pos (xhas_of hk (by omega)))
  refine xr_ifn1 (tgt := 10) hx hb (by decide) dX9_batch_5 (by decide) ?_
  refine lv_aload_n hx hb dX9_batch_10 rfl (lv_at hl 0 rfl) ?_
  refine va_get (D := (dC, dI)) (ci := 9) (v := .ref o0) (C := RX9) (T := TX9) (N := 9) hx hb hts i_X9 hown hK hP 0 rfl rfl 0 (by decide) k_12 (fun _ h9 => h9) rfl dX9_batch_11 ?_
  refine va_get (D := (dC, dI)) (ci := 8) (v := .ref o6) (C := RX8) (T := TX8) (N := 8) hx hb hts i_X8 hown hK hP 1 rfl rfl 1 (by decide) k_129 (fun _ h9 => h9) rfl dX9_batch_14 ?_
  refine lv_astore_n (lv' := [(3, .ref o6), (0, .ref x0), (1, .int (nI kb)), (2, .int wh)]) hx hb dX9_batch_17 rfl hl (by decide) rfl (fun ls hl => ?_)
  refine lv_iload_n hx hb dX9_batch_18 rfl (lv_at hl 3 rfl) ?_
  by_cases cs_2 : wh = nI 0
  · skip
    refine lv_tableIn (tgt := 80) hx hb dX9_batch_19 (by rw [cs_2]; decide) (by rw [cs_2]; decide) (by rw [cs_2]; rfl) (by decide) ?_
    refine lv_aload_n hx hb dX9_batch_80 rfl (lv_at hl 0 rfl) ?_
    refine va_get (D := (dC, dI)) (ci := 0) (v := .ref o7) (C := RX0) (T := TX0) (N := 9) hx hb hts i_X0 hown hK hP 4 rfl rfl 1 (by decide) k_235 (fun _ h9 => h9) rfl dX9_batch_81 ?_
    refine lv_iload_n hx hb dX9_batch_84 rfl (lv_at hl 2 rfl) ?_
    refine xr_iald hx hb hK hP 5 0 rfl rfl (i := kb) (by omega) (by decide) dX9_batch_85 ?_
    exact W.iret (v := good kb) hx hb hr (fun t ht hW => ⟨_, rfl, (show good kb = tBatch wh (good kb) (came kb) (left kb) (shelf kb) (sold kb) (given kb) ((wa kb + wb kb) + wc kb) (wa kb) (wb kb) (wc kb) (nI (xstg share left life good kb)) (cents kb) from (by unfold tBatch; rw [if_pos cs_2])), ht⟩) (fun q h => by cases h) dX9_batch_86
  by_cases cs_3 : wh = nI 1
  · skip
    refine lv_tableIn (tgt := 87) hx hb dX9_batch_19 (by rw [cs_3]; decide) (by rw [cs_3]; decide) (by rw [cs_3]; rfl) (by decide) ?_
    refine lv_aload_n hx hb dX9_batch_87 rfl (lv_at hl 0 rfl) ?_
    refine va_get (D := (dC, dI)) (ci := 0) (v := .ref o8) (C := RX0) (T := TX0) (N := 9) hx hb hts i_X0 hown hK hP 4 rfl rfl 2 (by decide) k_238 (fun _ h9 => h9) rfl dX9_batch_88 ?_
    refine lv_iload_n hx hb dX9_batch_91 rfl (lv_at hl 2 rfl) ?_
    refine xr_iald hx hb hK hP 6 0 rfl rfl (i := kb) (by omega) (by decide) dX9_batch_92 ?_
    exact W.iret (v := came kb) hx hb hr (fun t ht hW => ⟨_, rfl, (show came kb = tBatch wh (good kb) (came kb) (left kb) (shelf kb) (sold kb) (given kb) ((wa kb + wb kb) + wc kb) (wa kb) (wb kb) (wc kb) (nI (xstg share left life good kb)) (cents kb) from (by unfold tBatch; rw [if_neg cs_2, if_pos cs_3])), ht⟩) (fun q h => by cases h) dX9_batch_93
  by_cases cs_4 : wh = nI 2
  · skip
    refine lv_tableIn (tgt := 94) hx hb dX9_batch_19 (by rw [cs_4]; decide) (by rw [cs_4]; decide) (by rw [cs_4]; rfl) (by decide) ?_
    refine lv_aload_n hx hb dX9_batch_94 rfl (lv_at hl 0 rfl) ?_
    refine va_get (D := (dC, dI)) (ci := 0) (v := .ref o9) (C := RX0) (T := TX0) (N := 9) hx hb hts i_X0 hown hK hP 4 rfl rfl 3 (by decide) k_241 (fun _ h9 => h9) rfl dX9_batch_95 ?_
    refine lv_iload_n hx hb dX9_batch_98 rfl (lv_at hl 2 rfl) ?_
    refine xr_iald hx hb hK hP 7 0 rfl rfl (i := kb) (by omega) (by decide) dX9_batch_99 ?_
    exact W.iret (v := left kb) hx hb hr (fun t ht hW => ⟨_, rfl, (show left kb = tBatch wh (good kb) (came kb) (left kb) (shelf kb) (sold kb) (given kb) ((wa kb + wb kb) + wc kb) (wa kb) (wb kb) (wc kb) (nI (xstg share left life good kb)) (cents kb) from (by unfold tBatch; rw [if_neg cs_2, if_neg cs_3, if_pos cs_4])), ht⟩) (fun q h => by cases h) dX9_batch_100
  by_cases cs_5 : wh = nI 3
  · skip
    refine lv_tableIn (tgt := 101) hx hb dX9_batch_19 (by rw [cs_5]; decide) (by rw [cs_5]; decide) (by rw [cs_5]; rfl) (by decide) ?_
    refine lv_aload_n hx hb dX9_batch_101 rfl (lv_at hl 0 rfl) ?_
    refine va_get (D := (dC, dI)) (ci := 0) (v := .ref o10) (C := RX0) (T := TX0) (N := 9) hx hb hts i_X0 hown hK hP 4 rfl rfl 4 (by decide) k_192 (fun _ h9 => h9) rfl dX9_batch_102 ?_
    refine lv_iload_n hx hb dX9_batch_105 rfl (lv_at hl 2 rfl) ?_
    refine xr_iald hx hb hK hP 8 0 rfl rfl (i := kb) (by omega) (by decide) dX9_batch_106 ?_
    exact W.iret (v := shelf kb) hx hb hr (fun t ht hW => ⟨_, rfl, (show shelf kb = tBatch wh (good kb) (came kb) (left kb) (shelf kb) (sold kb) (given kb) ((wa kb + wb kb) + wc kb) (wa kb) (wb kb) (wc kb) (nI (xstg share left life good kb)) (cents kb) from (by unfold tBatch; rw [if_neg cs_2, if_neg cs_3, if_neg cs_4, if_pos cs_5])), ht⟩) (fun q h => by cases h) dX9_batch_107
  by_cases cs_6 : wh = nI 4
  · skip
    refine lv_tableIn (tgt := 108) hx hb dX9_batch_19 (by rw [cs_6]; decide) (by rw [cs_6]; decide) (by rw [cs_6]; rfl) (by decide) ?_
    refine lv_aload_n hx hb dX9_batch_108 rfl (lv_at hl 0 rfl) ?_
    refine va_get (D := (dC, dI)) (ci := 0) (v := .ref o11) (C := RX0) (T := TX0) (N := 9) hx hb hts i_X0 hown hK hP 4 rfl rfl 5 (by decide) k_226 (fun _ h9 => h9) rfl dX9_batch_109 ?_
    refine lv_iload_n hx hb dX9_batch_112 rfl (lv_at hl 2 rfl) ?_
    refine xr_iald hx hb hK hP 9 0 rfl rfl (i := kb) (by omega) (by decide) dX9_batch_113 ?_
    exact W.iret (v := sold kb) hx hb hr (fun t ht hW => ⟨_, rfl, (show sold kb = tBatch wh (good kb) (came kb) (left kb) (shelf kb) (sold kb) (given kb) ((wa kb + wb kb) + wc kb) (wa kb) (wb kb) (wc kb) (nI (xstg share left life good kb)) (cents kb) from (by unfold tBatch; rw [if_neg cs_2, if_neg cs_3, if_neg cs_4, if_neg cs_5, if_pos cs_6])), ht⟩) (fun q h => by cases h) dX9_batch_114
  by_cases cs_7 : wh = nI 5
  · skip
    refine lv_tableIn (tgt := 115) hx hb dX9_batch_19 (by rw [cs_7]; decide) (by rw [cs_7]; decide) (by rw [cs_7]; rfl) (by decide) ?_
    refine lv_aload_n hx hb dX9_batch_115 rfl (lv_at hl 0 rfl) ?_
    refine va_get (D := (dC, dI)) (ci := 0) (v := .ref o12) (C := RX0) (T := TX0) (N := 9) hx hb hts i_X0 hown hK hP 4 rfl rfl 6 (by decide) k_244 (fun _ h9 => h9) rfl dX9_batch_116 ?_
    refine lv_iload_n hx hb dX9_batch_119 rfl (lv_at hl 2 rfl) ?_
    refine xr_iald hx hb hK hP 10 0 rfl rfl (i := kb) (by omega) (by decide) dX9_batch_120 ?_
    exact W.iret (v := given kb) hx hb hr (fun t ht hW => ⟨_, rfl, (show given kb = tBatch wh (good kb) (came kb) (left kb) (shelf kb) (sold kb) (given kb) ((wa kb + wb kb) + wc kb) (wa kb) (wb kb) (wc kb) (nI (xstg share left life good kb)) (cents kb) from (by unfold tBatch; rw [if_neg cs_2, if_neg cs_3, if_neg cs_4, if_neg cs_5, if_neg cs_6, if_pos cs_7])), ht⟩) (fun q h => by cases h) dX9_batch_121
  by_cases cs_8 : wh = nI 6
  · skip
    refine lv_tableIn (tgt := 122) hx hb dX9_batch_19 (by rw [cs_8]; decide) (by rw [cs_8]; decide) (by rw [cs_8]; rfl) (by decide) ?_
    refine lv_aload_n hx hb dX9_batch_122 rfl (lv_at hl 0 rfl) ?_
    refine lv_iload_n hx hb dX9_batch_123 rfl (lv_at hl 2 rfl) ?_
    refine xkRi (xV (As := [.int (nI kb)]) (rest := []) (wc := [(o6, .inr (0, [.int (nI bz), .ref o7, .ref o8, .ref o9, .ref o10, .ref o11, .ref o12, .ref o13, .ref o14])), (o14, .inl (cQ, 3, .inr (.inr (.inr (.inr (xrow [o15, o16, o17])))))), (o15, .inl (cI, 40, .inl wa)), (o16, .inl (cI, 40, .inl wb)), (o17, .inl (cI, 40, .inl wc))]) hx hb hml hown hts (c_X0_wastedOf l dC dI cI cF cC cZ cQ cS o6 (.int (nI bz)) (.ref o7) (.ref o8) (.ref o9) (.ref o10) (.ref o11) (.ref o12) (.ref o13) o14 o15 wa o16 wb o17 wc kb (by omega)) 1 gX9_batch_X0_wastedOf rfl rfl rfl hdV_X0_wastedOf ⟨Nat.le_of_ble_eq_true rfl, Nat.le_of_ble_eq_true rfl⟩ hN hK hP hD [4, 12, 13, 14, 15] rfl rfl 0 4 rfl rfl rfl hl.1 rfl (Nat.le_of_ble_eq_true rfl) dX9_batch_124 ⟨Nat.zero_le _, Nat.zero_le _⟩) (fun r_9 hr_9 => ?_)
    obtain rfl : r_9 = (wa kb + wb kb) + wc kb := hr_9
    exact W.iret (v := (wa kb + wb kb) + wc kb) hx hb hr (fun t ht hW => ⟨_, rfl, (show (wa kb + wb kb) + wc kb = tBatch wh (good kb) (came kb) (left kb) (shelf kb) (sold kb) (given kb) ((wa kb + wb kb) + wc kb) (wa kb) (wb kb) (wc kb) (nI (xstg share left life good kb)) (cents kb) from (by unfold tBatch; rw [if_neg cs_2, if_neg cs_3, if_neg cs_4, if_neg cs_5, if_neg cs_6, if_neg cs_7, if_pos cs_8])), ht⟩) (fun q h => by cases h) dX9_batch_127
  by_cases cs_10 : wh = nI 7
  · skip
    refine lv_tableIn (tgt := 128) hx hb dX9_batch_19 (by rw [cs_10]; decide) (by rw [cs_10]; decide) (by rw [cs_10]; rfl) (by decide) ?_
    refine lv_aload_n hx hb dX9_batch_128 rfl (lv_at hl 0 rfl) ?_
    refine va_get (D := (dC, dI)) (ci := 0) (v := .ref o14) (C := RX0) (T := TX0) (N := 9) hx hb hts i_X0 hown hK hP 4 rfl rfl 8 (by decide) k_250 (fun _ h9 => h9) rfl dX9_batch_129 ?_
    refine lv_iconst (v := nI 0) hx hb dX9_batch_132 (by decide) ?_
    refine xr_aald hx hb hK hP 12 4 rfl rfl rfl (i := 0) (v := o15) (by omega) (by decide) rfl dX9_batch_133 ?_
    refine lv_iload_n hx hb dX9_batch_134 rfl (lv_at hl 2 rfl) ?_
    refine xr_iald hx hb hK hP 13 0 rfl rfl (i := kb) (by omega) (by decide) dX9_batch_135 ?_
    exact W.iret (v := wa kb) hx hb hr (fun t ht hW => ⟨_, rfl, (show wa kb = tBatch wh (good kb) (came kb) (left kb) (shelf kb) (sold kb) (given kb) ((wa kb + wb kb) + wc kb) (wa kb) (wb kb) (wc kb) (nI (xstg share left life good kb)) (cents kb) from (by unfold tBatch; rw [if_neg cs_2, if_neg cs_3, if_neg cs_4, if_neg cs_5, if_neg cs_6, if_neg cs_7, if_neg cs_8, if_pos cs_10])), ht⟩) (fun q h => by cases h) dX9_batch_136
  by_cases cs_11 : wh = nI 8
  · skip
    refine lv_tableIn (tgt := 137) hx hb dX9_batch_19 (by rw [cs_11]; decide) (by rw [cs_11]; decide) (by rw [cs_11]; rfl) (by decide) ?_
    refine lv_aload_n hx hb dX9_batch_137 rfl (lv_at hl 0 rfl) ?_
    refine va_get (D := (dC, dI)) (ci := 0) (v := .ref o14) (C := RX0) (T := TX0) (N := 9) hx hb hts i_X0 hown hK hP 4 rfl rfl 8 (by decide) k_250 (fun _ h9 => h9) rfl dX9_batch_138 ?_
    refine lv_iconst (v := nI 1) hx hb dX9_batch_141 (by decide) ?_
    refine xr_aald hx hb hK hP 12 4 rfl rfl rfl (i := 1) (v := o16) (by omega) (by decide) rfl dX9_batch_142 ?_
    refine lv_iload_n hx hb dX9_batch_143 rfl (lv_at hl 2 rfl) ?_
    refine xr_iald hx hb hK hP 14 0 rfl rfl (i := kb) (by omega) (by decide) dX9_batch_144 ?_
    exact W.iret (v := wb kb) hx hb hr (fun t ht hW => ⟨_, rfl, (show wb kb = tBatch wh (good kb) (came kb) (left kb) (shelf kb) (sold kb) (given kb) ((wa kb + wb kb) + wc kb) (wa kb) (wb kb) (wc kb) (nI (xstg share left life good kb)) (cents kb) from (by unfold tBatch; rw [if_neg cs_2, if_neg cs_3, if_neg cs_4, if_neg cs_5, if_neg cs_6, if_neg cs_7, if_neg cs_8, if_neg cs_10, if_pos cs_11])), ht⟩) (fun q h => by cases h) dX9_batch_145
  by_cases cs_12 : wh = nI 9
  · skip
    refine lv_tableIn (tgt := 146) hx hb dX9_batch_19 (by rw [cs_12]; decide) (by rw [cs_12]; decide) (by rw [cs_12]; rfl) (by decide) ?_
    refine lv_aload_n hx hb dX9_batch_146 rfl (lv_at hl 0 rfl) ?_
    refine va_get (D := (dC, dI)) (ci := 0) (v := .ref o14) (C := RX0) (T := TX0) (N := 9) hx hb hts i_X0 hown hK hP 4 rfl rfl 8 (by decide) k_250 (fun _ h9 => h9) rfl dX9_batch_147 ?_
    refine lv_iconst (v := nI 2) hx hb dX9_batch_150 (by decide) ?_
    refine xr_aald hx hb hK hP 12 4 rfl rfl rfl (i := 2) (v := o17) (by omega) (by decide) rfl dX9_batch_151 ?_
    refine lv_iload_n hx hb dX9_batch_152 rfl (lv_at hl 2 rfl) ?_
    refine xr_iald hx hb hK hP 15 0 rfl rfl (i := kb) (by omega) (by decide) dX9_batch_153 ?_
    exact W.iret (v := wc kb) hx hb hr (fun t ht hW => ⟨_, rfl, (show wc kb = tBatch wh (good kb) (came kb) (left kb) (shelf kb) (sold kb) (given kb) ((wa kb + wb kb) + wc kb) (wa kb) (wb kb) (wc kb) (nI (xstg share left life good kb)) (cents kb) from (by unfold tBatch; rw [if_neg cs_2, if_neg cs_3, if_neg cs_4, if_neg cs_5, if_neg cs_6, if_neg cs_7, if_neg cs_8, if_neg cs_10, if_neg cs_11, if_pos cs_12])), ht⟩) (fun q h => by cases h) dX9_batch_154
  by_cases cs_13 : wh = nI 10
  · skip
    refine lv_tableIn (tgt := 155) hx hb dX9_batch_19 (by rw [cs_13]; decide) (by rw [cs_13]; decide) (by rw [cs_13]; rfl) (by decide) ?_
    refine lv_aload_n hx hb dX9_batch_155 rfl (lv_at hl 1 rfl) ?_
    refine va_get (D := (dC, dI)) (ci := 9) (v := .ref o0) (C := RX9) (T := TX9) (N := 9) hx hb hts i_X9 hown hK hP 0 rfl rfl 0 (by decide) k_12 (fun _ h9 => h9) rfl dX9_batch_156 ?_
    refine lv_iload_n hx hb dX9_batch_159 rfl (lv_at hl 2 rfl) ?_
    refine xkRi (xV (As := [.int (nI kb)]) (rest := []) (wc := [(o0, .inr (8, [.ref o1, .ref o6, o0_orders, .ref o31, o0_log, o0_settings, o0_rebate, o0_day])), (o6, .inr (0, [.int (nI bz), .ref o7, .ref o8, .ref o9, .ref o10, .ref o11, .ref o12, .ref o13, .ref o14])), (o9, .inl (cI, 40, .inl left)), (o7, .inl (cI, 40, .inl good)), (o1, .inr (3, [o1_size, o1_price, .ref o3, o1_listed, o1_list])), (o3, .inl (cI, 12, .inl life)), (o31, .inr (7, [.ref o32, o31_markdown])), (o32, .inl (cI, 4, .inl share))]) hx hb hml hown hts (c_X8_stageOf l dC dI cI cF cC cZ cQ cS o0 o1 o6 o0_orders o31 o0_log o0_settings o0_rebate o0_day (.int (nI bz)) o7 (.ref o8) o9 (.ref o10) (.ref o11) (.ref o12) (.ref o13) (.ref o14) left good o1_size o1_price o3 o1_listed o1_list life o32 o31_markdown share kb (by omega) hgb) 1 gX9_batch_X8_stageOf rfl rfl rfl hdV_X8_stageOf ⟨Nat.le_of_ble_eq_true rfl, Nat.le_of_ble_eq_true rfl⟩ hN hK hP hD [1, 4, 7, 5, 2, 3, 16, 17] rfl rfl 8 1 rfl rfl rfl hl.1 rfl (Nat.le_of_ble_eq_true rfl) dX9_batch_160 ⟨Nat.zero_le _, Nat.zero_le _⟩) (fun r_14 hr_14 => ?_)
    obtain rfl : r_14 = nI (xstg share left life good kb) := hr_14
    exact W.iret (v := nI (xstg share left life good kb)) hx hb hr (fun t ht hW => ⟨_, rfl, (show nI (xstg share left life good kb) = tBatch wh (good kb) (came kb) (left kb) (shelf kb) (sold kb) (given kb) ((wa kb + wb kb) + wc kb) (wa kb) (wb kb) (wc kb) (nI (xstg share left life good kb)) (cents kb) from (by unfold tBatch; rw [if_neg cs_2, if_neg cs_3, if_neg cs_4, if_neg cs_5, if_neg cs_6, if_neg cs_7, if_neg cs_8, if_neg cs_10, if_neg cs_11, if_neg cs_12, if_pos cs_13])), ht⟩) (fun q h => by cases h) dX9_batch_163
  by_cases cs_15 : wh = nI 11
  · skip
    refine lv_tableIn (tgt := 164) hx hb dX9_batch_19 (by rw [cs_15]; decide) (by rw [cs_15]; decide) (by rw [cs_15]; rfl) (by decide) ?_
    refine lv_aload_n hx hb dX9_batch_164 rfl (lv_at hl 0 rfl) ?_
    refine va_get (D := (dC, dI)) (ci := 0) (v := .ref o13) (C := RX0) (T := TX0) (N := 9) hx hb hts i_X0 hown hK hP 4 rfl rfl 7 (by decide) k_257 (fun _ h9 => h9) rfl dX9_batch_165 ?_
    refine lv_iload_n hx hb dX9_batch_168 rfl (lv_at hl 2 rfl) ?_
    refine xr_iald hx hb hK hP 11 0 rfl rfl (i := kb) (by omega) (by decide) dX9_batch_169 ?_
    exact W.iret (v := cents kb) hx hb hr (fun t ht hW => ⟨_, rfl, (show cents kb = tBatch wh (good kb) (came kb) (left kb) (shelf kb) (sold kb) (given kb) ((wa kb + wb kb) + wc kb) (wa kb) (wb kb) (wc kb) (nI (xstg share left life good kb)) (cents kb) from (by unfold tBatch; rw [if_neg cs_2, if_neg cs_3, if_neg cs_4, if_neg cs_5, if_neg cs_6, if_neg cs_7, if_neg cs_8, if_neg cs_10, if_neg cs_11, if_neg cs_12, if_neg cs_13, if_pos cs_15])), ht⟩) (fun q h => by cases h) dX9_batch_170
  refine lv_tableOut (tgt := 171) hx hb dX9_batch_19 (xsw_out 12 (by decide) (fun j hj => by
      rcases (show j = 0 ∨ j = 1 ∨ j = 2 ∨ j = 3 ∨ j = 4 ∨ j = 5 ∨ j = 6 ∨ j = 7 ∨ j = 8 ∨ j = 9 ∨ j = 10 ∨ j = 11 by omega) with rfl | rfl | rfl | rfl | rfl | rfl | rfl | rfl | rfl | rfl | rfl | rfl
      · exact cs_2
      · exact cs_3
      · exact cs_4
      · exact cs_5
      · exact cs_6
      · exact cs_7
      · exact cs_8
      · exact cs_10
      · exact cs_11
      · exact cs_12
      · exact cs_13
      · exact cs_15)) (by decide) ?_
  refine lv_bipush (v := (-2)) hx hb dX9_batch_171 (by decide) ?_
  exact W.iret (v := (-2)) hx hb hr (fun t ht hW => ⟨_, rfl, (show (-2) = tBatch wh (good kb) (came kb) (left kb) (shelf kb) (sold kb) (given kb) ((wa kb + wb kb) + wc kb) (wa kb) (wb kb) (wc kb) (nI (xstg share left life good kb)) (cents kb) from (by unfold tBatch; rw [if_neg cs_2, if_neg cs_3, if_neg cs_4, if_neg cs_5, if_neg cs_6, if_neg cs_7, if_neg cs_8, if_neg cs_10, if_neg cs_11, if_neg cs_12, if_neg cs_13, if_neg cs_15])), ht⟩) (fun q h => by cases h) dX9_batch_173
set_option maxHeartbeats 4000000 in
set_option maxRecDepth 100000 in
theorem c_X9_orderTolds (l : Launch) (dC : Nat → ClassId) (dI : Nat → Nat → Nat) (cI cF cC cZ cQ cS : ClassId) (x0 : Nat) (o0 : Nat) (x0_snapshot : Value) (x0_trial : Value) (x0_history : Value) (x0_filling : Value) (x0_delivery : Value) (x0_text : Value) (x0_textLength : Value) (x0_hasSnapshot : Value) (o0_goods : Value) (o0_batches : Value) (o18 : Nat) (o0_stages : Value) (o0_log : Value) (o0_settings : Value) (o0_rebate : Value) (o0_day : Value) (oz : Nat) (o18_takes : Value) (o19 : Nat) (o20 : Nat) (o21 : Nat) (o22 : Nat) (o23 : Nat) (o24 : Nat) (o25 : Nat) (o26 : Nat) (o27 : Nat) (o18_firstTake : Value) (o18_takeBatch : Value) (o18_takeUnits : Value) (ogood : Nat → Int32) (wanted : Nat → Int32) (got : Nat → Int32) (repl : Nat → Int32) (least : Nat → Int32) (accepts : Nat → Int32) (parts : Nat → Int32) (due : Nat → Int32) (oday : Nat → Int32) (ko : Nat) (wh : Int32) (hm : oz ≤ 30) (hk : ko < oz) : Met l yX9_orderTold wsX9_orderTold ({ frames := 2, cells := 0, slots := 0, locals := 43 }) (xPre (dC, dI) vwCl [.ref x0, .int (nI ko), .int wh] (xtys cI cF cC cZ cQ cS) [(x0, .inr (9, [.ref o0, x0_snapshot, x0_trial, x0_history, x0_filling, x0_delivery, x0_text, x0_textLength, x0_hasSnapshot])), (o0, .inr (8, [o0_goods, o0_batches, .ref o18, o0_stages, o0_log, o0_settings, o0_rebate, o0_day])), (o18, .inr (6, [.int (nI oz), o18_takes, .ref o19, .ref o20, .ref o21, .ref o22, .ref o23, .ref o24, .ref o25, .ref o26, .ref o27, o18_firstTake, o18_takeBatch, o18_takeUnits])), (o19, .inl (cI, 30, .inl ogood)), (o20, .inl (cI, 30, .inl wanted)), (o21, .inl (cI, 30, .inl got)), (o22, .inl (cI, 30, .inl repl)), (o23, .inl (cI, 30, .inl least)), (o24, .inl (cI, 30, .inl accepts)), (o25, .inl (cI, 30, .inl parts)), (o26, .inl (cI, 30, .inl due)), (o27, .inl (cI, 30, .inl oday))]) (vp_Si (fun r0 => r0 = tOrder wh (ogood ko) (wanted ko) (got ko) (repl ko) (least ko) (accepts ko) (parts ko) (due ko) (oday ko))) 0 0 (fun _ => False) := by
  refine Met.ofW (cc := cX9_orderTold) (maxL := 4) (ret := (some .int)) (by decide) rfl ?_
  intro p e s m args below meth c s₁ B hml hv
  obtain ⟨rfl, hP, hK, hD0, hN⟩ := hv
  have hx := B.exec
  have hb := B.bytes
  have hr := B.returns
  have hts := atoms_spec (ws := wsX9_orderTold) B.pre
  have hown : s.vm.findClass RX9 = some m.cls := findClass_of_methodNamed B.named
  have hlocks := B.notSynchronized
  have k_12 := hts (Cond.fieldLink RX9 12 "ShelfStages" "now" "LShelfStages$State;") (by decide +kernel)
  have k_165 := hts (Cond.fieldLink RX9 165 "ShelfStages$State" "orders" "LShelfStages$Orders;") (by decide +kernel)
  have k_279 := hts (Cond.fieldLink RX9 279 "ShelfStages$Orders" "good" "[I") (by decide +kernel)
  have k_280 := hts (Cond.fieldLink RX9 280 "ShelfStages$Orders" "wanted" "[I") (by decide +kernel)
  have k_283 := hts (Cond.fieldLink RX9 283 "ShelfStages$Orders" "got" "[I") (by decide +kernel)
  have k_285 := hts (Cond.fieldLink RX9 285 "ShelfStages$Orders" "replaced" "[I") (by decide +kernel)
  have k_288 := hts (Cond.fieldLink RX9 288 "ShelfStages$Orders" "least" "[I") (by decide +kernel)
  have k_291 := hts (Cond.fieldLink RX9 291 "ShelfStages$Orders" "accepts" "[I") (by decide +kernel)
  have k_294 := hts (Cond.fieldLink RX9 294 "ShelfStages$Orders" "parts" "[I") (by decide +kernel)
  have k_297 := hts (Cond.fieldLink RX9 297 "ShelfStages$Orders" "due" "[I") (by decide +kernel)
  have k_300 := hts (Cond.fieldLink RX9 300 "ShelfStages$Orders" "day" "[I") (by decide +kernel)
  have i_X6 : ∀ w ∈ wsX60, w ∈ wsX9_orderTold := by decide +kernel
  have i_X8 : ∀ w ∈ wsX80, w ∈ wsX9_orderTold := by decide +kernel
  have i_X9 : ∀ w ∈ wsX90, w ∈ wsX9_orderTold := by decide +kernel
  have hD := hD0
  have hl := lv_entry ([.ref x0, .int (nI ko), .int wh]) (n := 4) (Nat.le_of_ble_eq_true rfl)
  rw [lg_entry_eq]
  generalize (lg_sl ([.ref x0, .int (nI ko), .int wh]) ++ List.replicate (4 - (lg_sl ([.ref x0, .int (nI ko), .int wh])).length) Slot.unset).toArray = ls at hl ⊢
  have hl : lv_has ls 4 [(0, .ref x0), (1, .int (nI ko)), (2, .int wh)] := hl
  refine lv_aload_n hx hb dX9_orderTold_0 rfl (lv_at hl 0 rfl) ?_
  refine lv_iload_n hx hb dX9_orderTold_1 rfl (lv_at hl 1 rfl) ?_
  refine xkRi (xV (As := [.int (nI ko)]) (rest := []) (wc := [(x0, .inr (9, [.ref o0, x0_snapshot, x0_trial, x0_history, x0_filling, x0_delivery, x0_text, x0_textLength, x0_hasSnapshot])), (o0, .inr (8, [o0_goods, o0_batches, .ref o18, o0_stages, o0_log, o0_settings, o0_rebate, o0_day])), (o18, .inr (6, [.int (nI oz), o18_takes, .ref o19, .ref o20, .ref o21, .ref o22, .ref o23, .ref o24, .ref o25, .ref o26, .ref o27, o18_firstTake, o18_takeBatch, o18_takeUnits]))]) hx hb hml hown hts (c_X9_hasOrder l dC dI cI cF cC cZ cQ cS x0 o0 x0_snapshot x0_trial x0_history x0_filling x0_delivery x0_text x0_textLength x0_hasSnapshot o0_goods o0_batches o18 o0_stages o0_log o0_settings o0_rebate o0_day oz o18_takes (.ref o19) (.ref o20) (.ref o21) (.ref o22) (.ref o23) (.ref o24) (.ref o25) (.ref o26) (.ref o27) o18_firstTake o18_takeBatch o18_takeUnits (nI ko) (by omega)) 1 gX9_orderTold_X9_hasOrder rfl rfl rfl hdV_X9_hasOrder ⟨Nat.le_of_ble_eq_true rfl, Nat.le_of_ble_eq_true rfl⟩ hN hK hP hD [0, 1, 2] rfl rfl 9 0 rfl rfl rfl hl.1 rfl (Nat.le_of_ble_eq_true rfl) dX9_orderTold_2 ⟨Nat.zero_le _, Nat.zero_le _⟩) (fun r_1 hr_1 => ?_)
  have hr_1 : r_1 = (if xhas (nI ko) oz then nI 1 else nI 0) := hr_1
  obtain rfl : r_1 = nI 1 := hr_1.trans (if_pos (xhas_of hk (by omega)))
  refine xr_ifn1 (tgt := 10) hx hb (by decide) dX9_orderTold_5 (by decide) ?_
  refine lv_aload_n hx hb dX9_orderTold_10 rfl (lv_at hl 0 rfl) ?_
  refine va_get (D := (dC, dI)) (ci := 9) (v := .ref o0) (C := RX9) (T := TX9) (N := 9) hx hb hts i_X9 hown hK hP 0 rfl rfl 0 (by decide) k_12 (fun _ h9 => h9) rfl dX9_orderTold_11 ?_
  refine va_get (D := (dC, dI)) (ci := 8) (v := .ref o18) (C := RX8) (T := TX8) (N := 8) hx hb hts i_X8 hown hK hP 1 rfl rfl 2 (by decide) k_165 (fun _ h9 => h9) rfl dX9_orderTold_14 ?_
  refine lv_astore_n (lv' := [(3, .ref o18), (0, .ref x0), (1, .int (nI ko)), (2, .int wh)]) hx hb dX9_orderTold_17 rfl hl (by decide) rfl (fun ls hl => ?_)
  refine lv_iload_n hx hb dX9_orderTold_18 rfl (lv_at hl 3 rfl) ?_
  by_cases cs_2 : wh = nI 0
  · skip
    refine lv_tableIn (tgt := 68) hx hb dX9_orderTold_19 (by rw [cs_2]; decide) (by rw [cs_2]; decide) (by rw [cs_2]; rfl) (by decide) ?_
    refine lv_aload_n hx hb dX9_orderTold_68 rfl (lv_at hl 0 rfl) ?_
    refine va_get (D := (dC, dI)) (ci := 6) (v := .ref o19) (C := RX6) (T := TX6) (N := 14) hx hb hts i_X6 hown hK hP 2 rfl rfl 2 (by decide) k_279 (fun _ h9 => h9) rfl dX9_orderTold_69 ?_
    refine lv_iload_n hx hb dX9_orderTold_72 rfl (lv_at hl 2 rfl) ?_
    refine xr_iald hx hb hK hP 3 0 rfl rfl (i := ko) (by omega) (by decide) dX9_orderTold_73 ?_
    exact W.iret (v := ogood ko) hx hb hr (fun t ht hW => ⟨_, rfl, (show ogood ko = tOrder wh (ogood ko) (wanted ko) (got ko) (repl ko) (least ko) (accepts ko) (parts ko) (due ko) (oday ko) from (by unfold tOrder; rw [if_pos cs_2])), ht⟩) (fun q h => by cases h) dX9_orderTold_74
  by_cases cs_3 : wh = nI 1
  · skip
    refine lv_tableIn (tgt := 75) hx hb dX9_orderTold_19 (by rw [cs_3]; decide) (by rw [cs_3]; decide) (by rw [cs_3]; rfl) (by decide) ?_
    refine lv_aload_n hx hb dX9_orderTold_75 rfl (lv_at hl 0 rfl) ?_
    refine va_get (D := (dC, dI)) (ci := 6) (v := .ref o20) (C := RX6) (T := TX6) (N := 14) hx hb hts i_X6 hown hK hP 2 rfl rfl 3 (by decide) k_280 (fun _ h9 => h9) rfl dX9_orderTold_76 ?_
    refine lv_iload_n hx hb dX9_orderTold_79 rfl (lv_at hl 2 rfl) ?_
    refine xr_iald hx hb hK hP 4 0 rfl rfl (i := ko) (by omega) (by decide) dX9_orderTold_80 ?_
    exact W.iret (v := wanted ko) hx hb hr (fun t ht hW => ⟨_, rfl, (show wanted ko = tOrder wh (ogood ko) (wanted ko) (got ko) (repl ko) (least ko) (accepts ko) (parts ko) (due ko) (oday ko) from (by unfold tOrder; rw [if_neg cs_2, if_pos cs_3])), ht⟩) (fun q h => by cases h) dX9_orderTold_81
  by_cases cs_4 : wh = nI 2
  · skip
    refine lv_tableIn (tgt := 82) hx hb dX9_orderTold_19 (by rw [cs_4]; decide) (by rw [cs_4]; decide) (by rw [cs_4]; rfl) (by decide) ?_
    refine lv_aload_n hx hb dX9_orderTold_82 rfl (lv_at hl 0 rfl) ?_
    refine va_get (D := (dC, dI)) (ci := 6) (v := .ref o21) (C := RX6) (T := TX6) (N := 14) hx hb hts i_X6 hown hK hP 2 rfl rfl 4 (by decide) k_283 (fun _ h9 => h9) rfl dX9_orderTold_83 ?_
    refine lv_iload_n hx hb dX9_orderTold_86 rfl (lv_at hl 2 rfl) ?_
    refine xr_iald hx hb hK hP 5 0 rfl rfl (i := ko) (by omega) (by decide) dX9_orderTold_87 ?_
    exact W.iret (v := got ko) hx hb hr (fun t ht hW => ⟨_, rfl, (show got ko = tOrder wh (ogood ko) (wanted ko) (got ko) (repl ko) (least ko) (accepts ko) (parts ko) (due ko) (oday ko) from (by unfold tOrder; rw [if_neg cs_2, if_neg cs_3, if_pos cs_4])), ht⟩) (fun q h => by cases h) dX9_orderTold_88
  by_cases cs_5 : wh = nI 3
  · skip
    refine lv_tableIn (tgt := 89) hx hb dX9_orderTold_19 (by rw [cs_5]; decide) (by rw [cs_5]; decide) (by rw [cs_5]; rfl) (by decide) ?_
    refine lv_aload_n hx hb dX9_orderTold_89 rfl (lv_at hl 0 rfl) ?_
    refine va_get (D := (dC, dI)) (ci := 6) (v := .ref o22) (C := RX6) (T := TX6) (N := 14) hx hb hts i_X6 hown hK hP 2 rfl rfl 5 (by decide) k_285 (fun _ h9 => h9) rfl dX9_orderTold_90 ?_
    refine lv_iload_n hx hb dX9_orderTold_93 rfl (lv_at hl 2 rfl) ?_
    refine xr_iald hx hb hK hP 6 0 rfl rfl (i := ko) (by omega) (by decide) dX9_orderTold_94 ?_
    exact W.iret (v := repl ko) hx hb hr (fun t ht hW => ⟨_, rfl, (show repl ko = tOrder wh (ogood ko) (wanted ko) (got ko) (repl ko) (least ko) (accepts ko) (parts ko) (due ko) (oday ko) from (by unfold tOrder; rw [if_neg cs_2, if_neg cs_3, if_neg cs_4, if_pos cs_5])), ht⟩) (fun q h => by cases h) dX9_orderTold_95
  by_cases cs_6 : wh = nI 4
  · skip
    refine lv_tableIn (tgt := 96) hx hb dX9_orderTold_19 (by rw [cs_6]; decide) (by rw [cs_6]; decide) (by rw [cs_6]; rfl) (by decide) ?_
    refine lv_aload_n hx hb dX9_orderTold_96 rfl (lv_at hl 0 rfl) ?_
    refine va_get (D := (dC, dI)) (ci := 6) (v := .ref o23) (C := RX6) (T := TX6) (N := 14) hx hb hts i_X6 hown hK hP 2 rfl rfl 6 (by decide) k_288 (fun _ h9 => h9) rfl dX9_orderTold_97 ?_
    refine lv_iload_n hx hb dX9_orderTold_100 rfl (lv_at hl 2 rfl) ?_
    refine xr_iald hx hb hK hP 7 0 rfl rfl (i := ko) (by omega) (by decide) dX9_orderTold_101 ?_
    exact W.iret (v := least ko) hx hb hr (fun t ht hW => ⟨_, rfl, (show least ko = tOrder wh (ogood ko) (wanted ko) (got ko) (repl ko) (least ko) (accepts ko) (parts ko) (due ko) (oday ko) from (by unfold tOrder; rw [if_neg cs_2, if_neg cs_3, if_neg cs_4, if_neg cs_5, if_pos cs_6])), ht⟩) (fun q h => by cases h) dX9_orderTold_102
  by_cases cs_7 : wh = nI 5
  · skip
    refine lv_tableIn (tgt := 103) hx hb dX9_orderTold_19 (by rw [cs_7]; decide) (by rw [cs_7]; decide) (by rw [cs_7]; rfl) (by decide) ?_
    refine lv_aload_n hx hb dX9_orderTold_103 rfl (lv_at hl 0 rfl) ?_
    refine va_get (D := (dC, dI)) (ci := 6) (v := .ref o24) (C := RX6) (T := TX6) (N := 14) hx hb hts i_X6 hown hK hP 2 rfl rfl 7 (by decide) k_291 (fun _ h9 => h9) rfl dX9_orderTold_104 ?_
    refine lv_iload_n hx hb dX9_orderTold_107 rfl (lv_at hl 2 rfl) ?_
    refine xr_iald hx hb hK hP 8 0 rfl rfl (i := ko) (by omega) (by decide) dX9_orderTold_108 ?_
    exact W.iret (v := accepts ko) hx hb hr (fun t ht hW => ⟨_, rfl, (show accepts ko = tOrder wh (ogood ko) (wanted ko) (got ko) (repl ko) (least ko) (accepts ko) (parts ko) (due ko) (oday ko) from (by unfold tOrder; rw [if_neg cs_2, if_neg cs_3, if_neg cs_4, if_neg cs_5, if_neg cs_6, if_pos cs_7])), ht⟩) (fun q h => by cases h) dX9_orderTold_109
  by_cases cs_8 : wh = nI 6
  · skip
    refine lv_tableIn (tgt := 110) hx hb dX9_orderTold_19 (by rw [cs_8]; decide) (by rw [cs_8]; decide) (by rw [cs_8]; rfl) (by decide) ?_
    refine lv_aload_n hx hb dX9_orderTold_110 rfl (lv_at hl 0 rfl) ?_
    refine va_get (D := (dC, dI)) (ci := 6) (v := .ref o25) (C := RX6) (T := TX6) (N := 14) hx hb hts i_X6 hown hK hP 2 rfl rfl 8 (by decide) k_294 (fun _ h9 => h9) rfl dX9_orderTold_111 ?_
    refine lv_iload_n hx hb dX9_orderTold_114 rfl (lv_at hl 2 rfl) ?_
    refine xr_iald hx hb hK hP 9 0 rfl rfl (i := ko) (by omega) (by decide) dX9_orderTold_115 ?_
    exact W.iret (v := parts ko) hx hb hr (fun t ht hW => ⟨_, rfl, (show parts ko = tOrder wh (ogood ko) (wanted ko) (got ko) (repl ko) (least ko) (accepts ko) (parts ko) (due ko) (oday ko) from (by unfold tOrder; rw [if_neg cs_2, if_neg cs_3, if_neg cs_4, if_neg cs_5, if_neg cs_6, if_neg cs_7, if_pos cs_8])), ht⟩) (fun q h => by cases h) dX9_orderTold_116
  by_cases cs_9 : wh = nI 7
  · skip
    refine lv_tableIn (tgt := 117) hx hb dX9_orderTold_19 (by rw [cs_9]; decide) (by rw [cs_9]; decide) (by rw [cs_9]; rfl) (by decide) ?_
    refine lv_aload_n hx hb dX9_orderTold_117 rfl (lv_at hl 0 rfl) ?_
    refine va_get (D := (dC, dI)) (ci := 6) (v := .ref o26) (C := RX6) (T := TX6) (N := 14) hx hb hts i_X6 hown hK hP 2 rfl rfl 9 (by decide) k_297 (fun _ h9 => h9) rfl dX9_orderTold_118 ?_
    refine lv_iload_n hx hb dX9_orderTold_121 rfl (lv_at hl 2 rfl) ?_
    refine xr_iald hx hb hK hP 10 0 rfl rfl (i := ko) (by omega) (by decide) dX9_orderTold_122 ?_
    exact W.iret (v := due ko) hx hb hr (fun t ht hW => ⟨_, rfl, (show due ko = tOrder wh (ogood ko) (wanted ko) (got ko) (repl ko) (least ko) (accepts ko) (parts ko) (due ko) (oday ko) from (by unfold tOrder; rw [if_neg cs_2, if_neg cs_3, if_neg cs_4, if_neg cs_5, if_neg cs_6, if_neg cs_7, if_neg cs_8, if_pos cs_9])), ht⟩) (fun q h => by cases h) dX9_orderTold_123
  by_cases cs_10 : wh = nI 8
  · skip
    refine lv_tableIn (tgt := 124) hx hb dX9_orderTold_19 (by rw [cs_10]; decide) (by rw [cs_10]; decide) (by rw [cs_10]; rfl) (by decide) ?_
    refine lv_aload_n hx hb dX9_orderTold_124 rfl (lv_at hl 0 rfl) ?_
    refine va_get (D := (dC, dI)) (ci := 6) (v := .ref o27) (C := RX6) (T := TX6) (N := 14) hx hb hts i_X6 hown hK hP 2 rfl rfl 10 (by decide) k_300 (fun _ h9 => h9) rfl dX9_orderTold_125 ?_
    refine lv_iload_n hx hb dX9_orderTold_128 rfl (lv_at hl 2 rfl) ?_
    refine xr_iald hx hb hK hP 11 0 rfl rfl (i := ko) (by omega) (by decide) dX9_orderTold_129 ?_
    exact W.iret (v := oday ko) hx hb hr (fun t ht hW => ⟨_, rfl, (show oday ko = tOrder wh (ogood ko) (wanted ko) (got ko) (repl ko) (least ko) (accepts ko) (parts ko) (due ko) (oday ko) from (by unfold tOrder; rw [if_neg cs_2, if_neg cs_3, if_neg cs_4, if_neg cs_5, if_neg cs_6, if_neg cs_7, if_neg cs_8, if_neg cs_9, if_pos cs_10])), ht⟩) (fun q h => by cases h) dX9_orderTold_130
  refine lv_tableOut (tgt := 131) hx hb dX9_orderTold_19 (xsw_out 9 (by decide) (fun j hj => by
      rcases (show j = 0 ∨ j = 1 ∨ j = 2 ∨ j = 3 ∨ j = 4 ∨ j = 5 ∨ j = 6 ∨ j = 7 ∨ j = 8 by omega) with rfl | rfl | rfl | rfl | rfl | rfl | rfl | rfl | rfl
      · exact cs_2
      · exact cs_3
      · exact cs_4
      · exact cs_5
      · exact cs_6
      · exact cs_7
      · exact cs_8
      · exact cs_9
      · exact cs_10)) (by decide) ?_
  refine lv_bipush (v := (-2)) hx hb dX9_orderTold_131 (by decide) ?_
  exact W.iret (v := (-2)) hx hb hr (fun t ht hW => ⟨_, rfl, (show (-2) = tOrder wh (ogood ko) (wanted ko) (got ko) (repl ko) (least ko) (accepts ko) (parts ko) (due ko) (oday ko) from (by unfold tOrder; rw [if_neg cs_2, if_neg cs_3, if_neg cs_4, if_neg cs_5, if_neg cs_6, if_neg cs_7, if_neg cs_8, if_neg cs_9, if_neg cs_10])), ht⟩) (fun q h => by cases h) dX9_orderTold_133
