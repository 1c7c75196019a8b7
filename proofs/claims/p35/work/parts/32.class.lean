set_option maxHeartbeats 4000000 in
set_option maxRecDepth 100000 in
theorem c_X9_bringe (l : Launch) (dC : Nat → ClassId) (dI : Nat → Nat → Nat) (cI cF cC cZ cQ cS : ClassId) (x0 : Nat) (o0 : Nat) (x0_snapshot : Value) (x0_trial : Value) (x0_history : Value) (x0_filling : Value) (x0_delivery : Value) (x0_text : Value) (x0_textLength : Value) (x0_hasSnapshot : Value) (o1 : Nat) (o6 : Nat) (o0_orders : Value) (o0_stages : Value) (o0_log : Value) (o0_settings : Value) (o0_rebate : Value) (o0_day : Value) (gz : Nat) (o1_price : Value) (o3 : Nat) (o1_listed : Value) (o1_list : Value) (life : Nat → Int32) (bz : Nat) (o6_good : Value) (o6_came : Value) (o6_left : Value) (o6_shelf : Value) (o6_sold : Value) (o6_given : Value) (o6_cents : Value) (o6_wasted : Value) (kg : Nat) (un : Int32) (dl : Int32) (hbz : bz ≤ 40) (hm : gz ≤ 12) (hk : kg < gz) (he : ¬ eBring un dl (life kg) bz = nI 0) : Met l yX9_bring wsX9_bring ({ frames := 2, cells := 0, slots := 0, locals := 45 }) (xPre (dC, dI) vwCl [.ref x0, .int (nI kg), .int un, .int dl] (xtys cI cF cC cZ cQ cS) [(x0, .inr (9, [.ref o0, x0_snapshot, x0_trial, x0_history, x0_filling, x0_delivery, x0_text, x0_textLength, x0_hasSnapshot])), (o0, .inr (8, [.ref o1, .ref o6, o0_orders, o0_stages, o0_log, o0_settings, o0_rebate, o0_day])), (o1, .inr (3, [.int (nI gz), o1_price, .ref o3, o1_listed, o1_list])), (o3, .inl (cI, 12, .inl life)), (o6, .inr (0, [.int (nI bz), o6_good, o6_came, o6_left, o6_shelf, o6_sold, o6_given, o6_cents, o6_wasted]))]) (vp_Si (fun r0 => r0 = eBring un dl (life kg) bz)) 0 0 (fun _ => False) := by
  refine Met.ofW (cc := cX9_bring) (maxL := 4) (ret := (some .int)) (by decide) rfl ?_
  intro p e s m args below meth c s₁ B hml hv
  obtain ⟨rfl, hP, hK, hD0, hN⟩ := hv
  have hx := B.exec
  have hb := B.bytes
  have hr := B.returns
  have hts := atoms_spec (ws := wsX9_bring) B.pre
  have hown : s.vm.findClass RX9 = some m.cls := findClass_of_methodNamed B.named
  have hlocks := B.notSynchronized
  have k_12 := hts (Cond.fieldLink RX9 12 "ShelfStages" "now" "LShelfStages$State;") (by decide +kernel)
  have k_129 := hts (Cond.fieldLink RX9 129 "ShelfStages$State" "batches" "LShelfStages$Batches;") (by decide +kernel)
  have k_133 := hts (Cond.fieldLink RX9 133 "ShelfStages$Batches" "size" "I") (by decide +kernel)
  have i_X0 : ∀ w ∈ wsX00, w ∈ wsX9_bring := by decide +kernel
  have i_X8 : ∀ w ∈ wsX80, w ∈ wsX9_bring := by decide +kernel
  have i_X9 : ∀ w ∈ wsX90, w ∈ wsX9_bring := by decide +kernel
  have hD := hD0
  have hl := lv_entry ([.ref x0, .int (nI kg), .int un, .int dl]) (n := 4) (Nat.le_of_ble_eq_true rfl)
  rw [lg_entry_eq]
  generalize (lg_sl ([.ref x0, .int (nI kg), .int un, .int dl]) ++ List.replicate (4 - (lg_sl ([.ref x0, .int (nI kg), .int un, .int dl])).length) Slot.unset).toArray = ls at hl ⊢
  have hl : lv_has ls 4 [(0, .ref x0), (1, .int (nI kg)), (2, .int un), (3, .int dl)] := hl
  refine lv_aload_n hx hb dX9_bring_0 rfl (lv_at hl 0 rfl) ?_
  refine lv_iload_n hx hb dX9_bring_1 rfl (lv_at hl 1 rfl) ?_
  refine xkRi (xV (As := [.int (nI kg)]) (rest := []) (wc := [(x0, .inr (9, [.ref o0, x0_snapshot, x0_trial, x0_history, x0_filling, x0_delivery, x0_text, x0_textLength, x0_hasSnapshot])), (o0, .inr (8, [.ref o1, .ref o6, o0_orders, o0_stages, o0_log, o0_settings, o0_rebate, o0_day])), (o1, .inr (3, [.int (nI gz), o1_price, .ref o3, o1_listed, o1_list]))]) hx hb hml hown hts (c_X9_hasGood l dC dI cI cF cC cZ cQ cS x0 o0 x0_snapshot x0_trial x0_history x0_filling x0_delivery x0_text x0_textLength x0_hasSnapshot o1 (.ref o6) o0_orders o0_stages o0_log o0_settings o0_rebate o0_day gz o1_price (.ref o3) o1_listed o1_list (nI kg) (by omega)) 1 gX9_bring_X9_hasGood rfl rfl rfl hdV_X9_hasGood ⟨Nat.le_of_ble_eq_true rfl, Nat.le_of_ble_eq_true rfl⟩ hN hK hP hD [0, 1, 2] rfl rfl 9 0 rfl rfl rfl hl.1 rfl (Nat.le_of_ble_eq_true rfl) dX9_bring_2 ⟨Nat.zero_le _, Nat.zero_le _⟩) (fun r_1 hr_1 => ?_)
  have hr_1 : r_1 = (if xhas (nI kg) gz then nI 1 else nI 0) := hr_1
  obtain rfl : r_1 = nI 1 := hr_1.trans (if_pos (xhas_of hk (by omega)))
  refine xr_ifn1 (tgt := 10) hx hb (by decide) dX9_bring_5 (by decide) ?_
  refine lv_aload_n hx hb dX9_bring_10 rfl (lv_at hl 0 rfl) ?_
  refine lv_iload_n hx hb dX9_bring_11 rfl (lv_at hl 1 rfl) ?_
  refine lv_iload_n hx hb dX9_bring_12 rfl (lv_at hl 2 rfl) ?_
  refine lv_iload_n hx hb dX9_bring_13 rfl (lv_at hl 3 rfl) ?_
  refine xkRi (xV (As := [.int (nI kg), .int un, .int dl]) (rest := []) (wc := [(x0, .inr (9, [.ref o0, x0_snapshot, x0_trial, x0_history, x0_filling, x0_delivery, x0_text, x0_textLength, x0_hasSnapshot])), (o0, .inr (8, [.ref o1, .ref o6, o0_orders, o0_stages, o0_log, o0_settings, o0_rebate, o0_day])), (o1, .inr (3, [.int (nI gz), o1_price, .ref o3, o1_listed, o1_list])), (o3, .inl (cI, 12, .inl life))]) hx hb hml hown hts (c_X9_isSupply l dC dI cI cF cC cZ cQ cS x0 o0 x0_snapshot x0_trial x0_history x0_filling x0_delivery x0_text x0_textLength x0_hasSnapshot o1 (.ref o6) o0_orders o0_stages o0_log o0_settings o0_rebate o0_day (.int (nI gz)) o1_price o3 o1_listed o1_list life kg un dl (by omega)) 3 gX9_bring_X9_isSupply rfl rfl rfl hdV_X9_isSupply ⟨Nat.le_of_ble_eq_true rfl, Nat.le_of_ble_eq_true rfl⟩ hN hK hP hD [0, 1, 2, 3] rfl rfl 9 0 rfl rfl rfl hl.1 rfl (Nat.le_of_ble_eq_true rfl) dX9_bring_14 ⟨Nat.zero_le _, Nat.zero_le _⟩) (fun r_2 hr_2 => ?_)
  have hr_2 : r_2 = (if (nI 1 ≤ un ∧ un ≤ nI 999) ∧ nI 1 ≤ dl ∧ dl ≤ life kg then nI 1 else nI 0) := hr_2
  rcases xi_ite inferInstance hr_2 with ⟨c_3, hr_2⟩ | ⟨c_3, hr_2⟩
  · subst hr_2
    refine xr_ifn1 (tgt := 23) hx hb (by decide) dX9_bring_17 (by decide) ?_
    refine lv_aload_n hx hb dX9_bring_23 rfl (lv_at hl 0 rfl) ?_
    refine va_get (D := (dC, dI)) (ci := 9) (v := .ref o0) (C := RX9) (T := TX9) (N := 9) hx hb hts i_X9 hown hK hP 0 rfl rfl 0 (by decide) k_12 (fun _ h9 => h9) rfl dX9_bring_24 ?_
    refine va_get (D := (dC, dI)) (ci := 8) (v := .ref o6) (C := RX8) (T := TX8) (N := 8) hx hb hts i_X8 hown hK hP 1 rfl rfl 1 (by decide) k_129 (fun _ h9 => h9) rfl dX9_bring_27 ?_
    refine va_get (D := (dC, dI)) (ci := 0) (v := .int (nI bz)) (C := RX0) (T := TX0) (N := 9) hx hb hts i_X0 hown hK hP 4 rfl rfl 0 (by decide) k_133 (fun _ h9 => h9) rfl dX9_bring_30 ?_
    refine lv_bipush (v := nI 40) hx hb dX9_bring_33 (by decide) ?_
    refine xr_lt_n (tgt := 41) hx hb (by omega) (by omega) dX9_bring_35 (by decide) (fun c_4 => False.elim (by exact he (by unfold eBring; rw [if_neg (fun z9 => z9 c_3), if_neg (by omega)]))) (fun c_4 => ?_)
    refine lv_bipush (v := (-3)) hx hb dX9_bring_38 (by decide) ?_
    exact W.iret (v := (-3)) hx hb hr (fun t ht hW => ⟨_, rfl, (show (-3) = eBring un dl (life kg) bz from (by unfold eBring; rw [if_neg (fun z9 => z9 c_3), if_pos c_4])), ht⟩) (fun q h => by cases h) dX9_bring_40
  subst hr_2
  refine xr_ifn0 (tgt := 23) hx hb (by decide) dX9_bring_17 (by decide) ?_
  refine lv_bipush (v := (-2)) hx hb dX9_bring_20 (by decide) ?_
  exact W.iret (v := (-2)) hx hb hr (fun t ht hW => ⟨_, rfl, (show (-2) = eBring un dl (life kg) bz from (by unfold eBring; rw [if_pos c_3])), ht⟩) (fun q h => by cases h) dX9_bring_22
set_option maxHeartbeats 4000000 in
set_option maxRecDepth 100000 in
theorem c_X9_recalle (l : Launch) (dC : Nat → ClassId) (dI : Nat → Nat → Nat) (cI cF cC cZ cQ cS : ClassId) (x0 : Nat) (o0 : Nat) (x0_snapshot : Value) (x0_trial : Value) (x0_history : Value) (x0_filling : Value) (x0_delivery : Value) (x0_text : Value) (x0_textLength : Value) (x0_hasSnapshot : Value) (o1 : Nat) (o6 : Nat) (o0_orders : Value) (o0_stages : Value) (o0_log : Value) (o0_settings : Value) (o0_rebate : Value) (o0_day : Value) (gz : Nat) (o1_price : Value) (o1_life : Value) (o1_listed : Value) (o1_list : Value) (bz : Nat) (o7 : Nat) (o6_came : Value) (o6_left : Value) (o10 : Nat) (o6_sold : Value) (o6_given : Value) (o6_cents : Value) (o6_wasted : Value) (shelf : Nat → Int32) (good : Nat → Int32) (kg : Nat) (hbz : bz ≤ 40) (hm : gz ≤ 12) (hk : kg < gz) (he : ¬ eRecall (xsumIf good (nI kg) shelf bz) = nI 0) : Met l yX9_recall wsX9_recall ({ frames := 2, cells := 0, slots := 0, locals := 43 }) (xPre (dC, dI) vwCl [.ref x0, .int (nI kg)] (xtys cI cF cC cZ cQ cS) [(x0, .inr (9, [.ref o0, x0_snapshot, x0_trial, x0_history, x0_filling, x0_delivery, x0_text, x0_textLength, x0_hasSnapshot])), (o0, .inr (8, [.ref o1, .ref o6, o0_orders, o0_stages, o0_log, o0_settings, o0_rebate, o0_day])), (o1, .inr (3, [.int (nI gz), o1_price, o1_life, o1_listed, o1_list])), (o6, .inr (0, [.int (nI bz), .ref o7, o6_came, o6_left, .ref o10, o6_sold, o6_given, o6_cents, o6_wasted])), (o10, .inl (cI, 40, .inl shelf)), (o7, .inl (cI, 40, .inl good))]) (vp_Si (fun r0 => r0 = eRecall (xsumIf good (nI kg) shelf bz))) 0 0 (fun _ => False) := by
  refine Met.ofW (cc := cX9_recall) (maxL := 3) (ret := (some .int)) (by decide) rfl ?_
  intro p e s m args below meth c s₁ B hml hv
  obtain ⟨rfl, hP, hK, hD0, hN⟩ := hv
  have hx := B.exec
  have hb := B.bytes
  have hr := B.returns
  have hts := atoms_spec (ws := wsX9_recall) B.pre
  have hown : s.vm.findClass RX9 = some m.cls := findClass_of_methodNamed B.named
  have hlocks := B.notSynchronized
  have k_12 := hts (Cond.fieldLink RX9 12 "ShelfStages" "now" "LShelfStages$State;") (by decide +kernel)
  have k_129 := hts (Cond.fieldLink RX9 129 "ShelfStages$State" "batches" "LShelfStages$Batches;") (by decide +kernel)
  have k_192 := hts (Cond.fieldLink RX9 192 "ShelfStages$Batches" "shelf" "[I") (by decide +kernel)
  have i_X0 : ∀ w ∈ wsX00, w ∈ wsX9_recall := by decide +kernel
  have i_X8 : ∀ w ∈ wsX80, w ∈ wsX9_recall := by decide +kernel
  have i_X9 : ∀ w ∈ wsX90, w ∈ wsX9_recall := by decide +kernel
  have hD := hD0
  have hl := lv_entry ([.ref x0, .int (nI kg)]) (n := 3) (Nat.le_of_ble_eq_true rfl)
  rw [lg_entry_eq]
  generalize (lg_sl ([.ref x0, .int (nI kg)]) ++ List.replicate (3 - (lg_sl ([.ref x0, .int (nI kg)])).length) Slot.unset).toArray = ls at hl ⊢
  have hl : lv_has ls 3 [(0, .ref x0), (1, .int (nI kg))] := hl
  refine lv_aload_n hx hb dX9_recall_0 rfl (lv_at hl 0 rfl) ?_
  refine lv_iload_n hx hb dX9_recall_1 rfl (lv_at hl 1 rfl) ?_
  refine xkRi (xV (As := [.int (nI kg)]) (rest := []) (wc := [(x0, .inr (9, [.ref o0, x0_snapshot, x0_trial, x0_history, x0_filling, x0_delivery, x0_text, x0_textLength, x0_hasSnapshot])), (o0, .inr (8, [.ref o1, .ref o6, o0_orders, o0_stages, o0_log, o0_settings, o0_rebate, o0_day])), (o1, .inr (3, [.int (nI gz), o1_price, o1_life, o1_listed, o1_list]))]) hx hb hml hown hts (c_X9_hasGood l dC dI cI cF cC cZ cQ cS x0 o0 x0_snapshot x0_trial x0_history x0_filling x0_delivery x0_text x0_textLength x0_hasSnapshot o1 (.ref o6) o0_orders o0_stages o0_log o0_settings o0_rebate o0_day gz o1_price o1_life o1_listed o1_list (nI kg) (by omega)) 1 gX9_recall_X9_hasGood rfl rfl rfl hdV_X9_hasGood ⟨Nat.le_of_ble_eq_true rfl, Nat.le_of_ble_eq_true rfl⟩ hN hK hP hD [0, 1, 2] rfl rfl 9 0 rfl rfl rfl hl.1 rfl (Nat.le_of_ble_eq_true rfl) dX9_recall_2 ⟨Nat.zero_le _, Nat.zero_le _⟩) (fun r_1 hr_1 => ?_)
  have hr_1 : r_1 = (if xhas (nI kg) gz then nI 1 else nI 0) := hr_1
  obtain rfl : r_1 = nI 1 := hr_1.trans (if_pos (xhas_of hk (by omega)))
  refine xr_ifn1 (tgt := 10) hx hb (by decide) dX9_recall_5 (by decide) ?_
  refine lv_aload_n hx hb dX9_recall_10 rfl (lv_at hl 0 rfl) ?_
  refine va_get (D := (dC, dI)) (ci := 9) (v := .ref o0) (C := RX9) (T := TX9) (N := 9) hx hb hts i_X9 hown hK hP 0 rfl rfl 0 (by decide) k_12 (fun _ h9 => h9) rfl dX9_recall_11 ?_
  refine va_get (D := (dC, dI)) (ci := 8) (v := .ref o6) (C := RX8) (T := TX8) (N := 8) hx hb hts i_X8 hown hK hP 1 rfl rfl 1 (by decide) k_129 (fun _ h9 => h9) rfl dX9_recall_14 ?_
  refine lv_aload_n hx hb dX9_recall_17 rfl (lv_at hl 0 rfl) ?_
  refine va_get (D := (dC, dI)) (ci := 9) (v := .ref o0) (C := RX9) (T := TX9) (N := 9) hx hb hts i_X9 hown hK hP 0 rfl rfl 0 (by decide) k_12 (fun _ h9 => h9) rfl dX9_recall_18 ?_
  refine va_get (D := (dC, dI)) (ci := 8) (v := .ref o6) (C := RX8) (T := TX8) (N := 8) hx hb hts i_X8 hown hK hP 1 rfl rfl 1 (by decide) k_129 (fun _ h9 => h9) rfl dX9_recall_21 ?_
  refine va_get (D := (dC, dI)) (ci := 0) (v := .ref o10) (C := RX0) (T := TX0) (N := 9) hx hb hts i_X0 hown hK hP 3 rfl rfl 4 (by decide) k_192 (fun _ h9 => h9) rfl dX9_recall_24 ?_
  refine lv_iload_n hx hb dX9_recall_27 rfl (lv_at hl 1 rfl) ?_
  refine xkRi (xV (As := [.ref o10, .int (nI kg)]) (rest := []) (wc := [(o6, .inr (0, [.int (nI bz), .ref o7, o6_came, o6_left, .ref o10, o6_sold, o6_given, o6_cents, o6_wasted])), (o10, .inl (cI, 40, .inl shelf)), (o7, .inl (cI, 40, .inl good))]) hx hb hml hown hts (c_X0_sumOfGood l dC dI cI cF cC cZ cQ cS o6 o7 o6_came o6_left (.ref o10) o6_sold o6_given o6_cents o6_wasted o10 shelf good bz (nI kg) (by omega)) 2 gX9_recall_X0_sumOfGood rfl rfl rfl hdV_X0_sumOfGood ⟨Nat.le_of_ble_eq_true rfl, Nat.le_of_ble_eq_true rfl⟩ hN hK hP hD [3, 4, 5] rfl rfl 0 3 rfl rfl rfl hl.1 rfl (Nat.le_of_ble_eq_true rfl) dX9_recall_28 ⟨Nat.zero_le _, Nat.zero_le _⟩) (fun r_2 hr_2 => ?_)
  obtain rfl : r_2 = xsumIf good (nI kg) shelf bz := hr_2
  refine lv_istore_n (lv' := [(2, .int (xsumIf good (nI kg) shelf bz)), (0, .ref x0), (1, .int (nI kg))]) hx hb dX9_recall_31 rfl hl (by decide) rfl (fun ls hl => ?_)
  refine lv_iload_n hx hb dX9_recall_32 rfl (lv_at hl 0 rfl) ?_
  refine lv_if_ne (tgt := 39) hx hb dX9_recall_33 (by decide) (fun c_3 => False.elim (by exact he (by unfold eRecall; rw [if_neg c_3]))) (fun c_3 => ?_)
  refine lv_bipush (v := (-5)) hx hb dX9_recall_36 (by decide) ?_
  exact W.iret (v := (-5)) hx hb hr (fun t ht hW => ⟨_, rfl, (show (-5) = eRecall (xsumIf good (nI kg) shelf bz) from (by unfold eRecall; rw [if_pos c_3])), ht⟩) (fun q h => by cases h) dX9_recall_38