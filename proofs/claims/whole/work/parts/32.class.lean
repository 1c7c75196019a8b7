set_option maxHeartbeats 4000000 in
set_option maxRecDepth 100000 in
theorem c_X9_setPricee (l : Launch) (dC : Nat → ClassId) (dI : Nat → Nat → Nat) (cI cF cC cZ cQ cS : ClassId) (x0 : Nat) (o0 : Nat) (x0_snapshot : Value) (x0_trial : Value) (x0_history : Value) (x0_filling : Value) (x0_delivery : Value) (x0_text : Value) (x0_textLength : Value) (x0_hasSnapshot : Value) (o1 : Nat) (o0_batches : Value) (o0_orders : Value) (o0_stages : Value) (o0_log : Value) (o0_settings : Value) (o0_rebate : Value) (o0_day : Value) (gz : Nat) (o2 : Nat) (o1_life : Value) (o1_listed : Value) (o1_list : Value) (price : Nat → Int32) (kg : Nat) (pv : Int32) (hm : gz ≤ 12) (hk : kg < gz) (he : ¬ eSetPrice pv (price kg) = nI 0) : Met l yX9_setPrice wsX9_setPrice ({ frames := 2, cells := 0, slots := 0, locals := 43 }) (xPre (dC, dI) vwCl [.ref x0, .int (nI kg), .int pv] (xtys cI cF cC cZ cQ cS) [(x0, .inr (9, [.ref o0, x0_snapshot, x0_trial, x0_history, x0_filling, x0_delivery, x0_text, x0_textLength, x0_hasSnapshot])), (o0, .inr (8, [.ref o1, o0_batches, o0_orders, o0_stages, o0_log, o0_settings, o0_rebate, o0_day])), (o1, .inr (3, [.int (nI gz), .ref o2, o1_life, o1_listed, o1_list])), (o2, .inl (cI, 12, .inl price))]) (vp_Si (fun r0 => r0 = eSetPrice pv (price kg))) 0 0 (fun _ => False) := by
  refine Met.ofW (cc := cX9_setPrice) (maxL := 4) (ret := (some .int)) (by decide) rfl ?_
  intro p e s m args below meth c s₁ B hml hv
  obtain ⟨rfl, hP, hK, hD0, hN⟩ := hv
  have hx := B.exec
  have hb := B.bytes
  have hr := B.returns
  have hts := atoms_spec (ws := wsX9_setPrice) B.pre
  have hown : s.vm.findClass RX9 = some m.cls := findClass_of_methodNamed B.named
  have hlocks := B.notSynchronized
  have k_12 := hts (Cond.fieldLink RX9 12 "ShelfStages" "now" "LShelfStages$State;") (by decide +kernel)
  have k_51 := hts (Cond.fieldLink RX9 51 "ShelfStages$State" "goods" "LShelfStages$Goods;") (by decide +kernel)
  have k_73 := hts (Cond.fieldLink RX9 73 "ShelfStages$Goods" "price" "[I") (by decide +kernel)
  have i_X3 : ∀ w ∈ wsX30, w ∈ wsX9_setPrice := by decide +kernel
  have i_X8 : ∀ w ∈ wsX80, w ∈ wsX9_setPrice := by decide +kernel
  have i_X9 : ∀ w ∈ wsX90, w ∈ wsX9_setPrice := by decide +kernel
  have hD := hD0
  have hl := lv_entry ([.ref x0, .int (nI kg), .int pv]) (n := 4) (Nat.le_of_ble_eq_true rfl)
  rw [lg_entry_eq]
  generalize (lg_sl ([.ref x0, .int (nI kg), .int pv]) ++ List.replicate (4 - (lg_sl ([.ref x0, .int (nI kg), .int pv])).length) Slot.unset).toArray = ls at hl ⊢
  have hl : lv_has ls 4 [(0, .ref x0), (1, .int (nI kg)), (2, .int pv)] := hl
  refine lv_aload_n hx hb dX9_setPrice_0 rfl (lv_at hl 0 rfl) ?_
  refine lv_iload_n hx hb dX9_setPrice_1 rfl (lv_at hl 1 rfl) ?_
  refine xkRi (xV (As := [.int (nI kg)]) (rest := []) (wc := [(x0, .inr (9, [.ref o0, x0_snapshot, x0_trial, x0_history, x0_filling, x0_delivery, x0_text, x0_textLength, x0_hasSnapshot])), (o0, .inr (8, [.ref o1, o0_batches, o0_orders, o0_stages, o0_log, o0_settings, o0_rebate, o0_day])), (o1, .inr (3, [.int (nI gz), .ref o2, o1_life, o1_listed, o1_list]))]) hx hb hml hown hts (c_X9_hasGood l dC dI cI cF cC cZ cQ cS x0 o0 x0_snapshot x0_trial x0_history x0_filling x0_delivery x0_text x0_textLength x0_hasSnapshot o1 o0_batches o0_orders o0_stages o0_log o0_settings o0_rebate o0_day gz (.ref o2) o1_life o1_listed o1_list (nI kg) (by omega)) 1 gX9_setPrice_X9_hasGood rfl rfl rfl hdV_X9_hasGood ⟨Nat.le_of_ble_eq_true rfl, Nat.le_of_ble_eq_true rfl⟩ hN hK hP hD [0, 1, 2] rfl rfl 9 0 rfl rfl rfl hl.1 rfl (Nat.le_of_ble_eq_true rfl) dX9_setPrice_2 ⟨Nat.zero_le _, Nat.zero_le _⟩) (fun r_1 hr_1 => ?_)
  have hr_1 : r_1 = (if xhas (nI kg) gz then nI 1 else nI 0) := hr_1
  obtain rfl : r_1 = nI 1 := hr_1.trans (if_pos (xhas_of hk (by omega)))
  refine xr_ifn1 (tgt := 10) hx hb (by decide) dX9_setPrice_5 (by decide) ?_
  refine lv_iload_n hx hb dX9_setPrice_10 rfl (lv_at hl 2 rfl) ?_
  refine lv_iconst (v := nI 1) hx hb dX9_setPrice_11 (by decide) ?_
  refine lv_sipush (v := nI 9999) hx hb dX9_setPrice_12 (by decide) ?_
  refine xkRi (xSs (Ws' := ([] : List Cond)) (As := [.int pv, .int (nI 1), .int (nI 9999)]) (rest := []) (wc := []) hx hb hml hown hts (c_X9_within l dC dI cI cF cC cZ cQ cS pv (nI 1) (nI 9999)) 3 (fun hR => va_cwS 3 hts gX9_setPrice_X9_within rfl rfl rfl hdN_X9_within hR) ⟨Nat.le_of_ble_eq_true rfl, Nat.le_of_ble_eq_true rfl⟩ hN hK hP hD [] rfl rfl rfl hl.1 rfl (Nat.le_of_ble_eq_true rfl) dX9_setPrice_15 ⟨Nat.zero_le _, Nat.zero_le _⟩) (fun r_2 hr_2 => ?_)
  have hr_2 : r_2 = (if (nI 1) ≤ pv ∧ pv ≤ (nI 9999) then nI 1 else nI 0) := hr_2
  rcases xi_ite inferInstance hr_2 with ⟨c_3, hr_2⟩ | ⟨c_3, hr_2⟩
  · subst hr_2
    refine xr_ifn1 (tgt := 24) hx hb (by decide) dX9_setPrice_18 (by decide) ?_
    refine lv_aload_n hx hb dX9_setPrice_24 rfl (lv_at hl 0 rfl) ?_
    refine va_get (D := (dC, dI)) (ci := 9) (v := .ref o0) (C := RX9) (T := TX9) (N := 9) hx hb hts i_X9 hown hK hP 0 rfl rfl 0 (by decide) k_12 (fun _ h9 => h9) rfl dX9_setPrice_25 ?_
    refine va_get (D := (dC, dI)) (ci := 8) (v := .ref o1) (C := RX8) (T := TX8) (N := 8) hx hb hts i_X8 hown hK hP 1 rfl rfl 0 (by decide) k_51 (fun _ h9 => h9) rfl dX9_setPrice_28 ?_
    refine va_get (D := (dC, dI)) (ci := 3) (v := .ref o2) (C := RX3) (T := TX3) (N := 5) hx hb hts i_X3 hown hK hP 2 rfl rfl 1 (by decide) k_73 (fun _ h9 => h9) rfl dX9_setPrice_31 ?_
    refine lv_iload_n hx hb dX9_setPrice_34 rfl (lv_at hl 1 rfl) ?_
    refine xr_iald hx hb hK hP 3 0 rfl rfl (i := kg) (by omega) (by decide) dX9_setPrice_35 ?_
    refine lv_istore_n (lv' := [(3, .int (price kg)), (0, .ref x0), (1, .int (nI kg)), (2, .int pv)]) hx hb dX9_setPrice_36 rfl hl (by decide) rfl (fun ls hl => ?_)
    refine lv_iload_n hx hb dX9_setPrice_37 rfl (lv_at hl 0 rfl) ?_
    refine lv_iload_n hx hb dX9_setPrice_38 rfl (lv_at hl 3 rfl) ?_
    refine lv_icmp_ne (tgt := 45) hx hb dX9_setPrice_39 (by decide) (fun c_4 => False.elim (by exact he (by unfold eSetPrice; rw [if_neg (fun z9 => z9 c_3), if_neg c_4]))) (fun c_4 => ?_)
    refine lv_bipush (v := (-5)) hx hb dX9_setPrice_42 (by decide) ?_
    exact W.iret (v := (-5)) hx hb hr (fun t ht hW => ⟨_, rfl, (show (-5) = eSetPrice pv (price kg) from (by unfold eSetPrice; rw [if_neg (fun z9 => z9 c_3), if_pos c_4])), ht⟩) (fun q h => by cases h) dX9_setPrice_44
  subst hr_2
  refine xr_ifn0 (tgt := 24) hx hb (by decide) dX9_setPrice_18 (by decide) ?_
  refine lv_bipush (v := (-2)) hx hb dX9_setPrice_21 (by decide) ?_
  exact W.iret (v := (-2)) hx hb hr (fun t ht hW => ⟨_, rfl, (show (-2) = eSetPrice pv (price kg) from (by unfold eSetPrice; rw [if_pos c_3])), ht⟩) (fun q h => by cases h) dX9_setPrice_23
set_option maxHeartbeats 4000000 in
set_option maxRecDepth 100000 in
theorem c_X10_setPricee (l : Launch) (dC : Nat → ClassId) (dI : Nat → Nat → Nat) (cI cF cC cZ cQ cS : ClassId) (h0 : Nat) (zq : Nat) (h0_past : Value) (h0_kept : Value) (h0_spare : Value) (h0_pastMany : Value) (h0_isKept : Value) (h0_text : Value) (h0_typed : Value) (h0_isUsed : Value) (h0_planBatch : Value) (h0_planUnits : Value) (h0_planCents : Value) (h0_planMany : Value) (h0_planGot : Value) (h0_planSubstitutes : Value) (h0_at : Value) (h0_fault : Value) (h0_entries : Value) (h0_entry : Value) (z : Nat → Int32) (gz : Nat) (kg : Nat) (pv : Int32) (hz1 : z 1 = nI gz) (hgz : gz ≤ 12) (hk : kg < gz) (he : ¬ eSetPrice pv (zG z kg 0) = nI 0) : Met l yX10_setPrice wsX10_setPrice ({ frames := 1, cells := 0, slots := 0, locals := 22 }) (xPre (dC, dI) vwCl [.ref h0, .int (nI kg), .int pv] (xtys cI cF cC cZ cQ cS) [(h0, .inr (10, [.ref zq, h0_past, h0_kept, h0_spare, h0_pastMany, h0_isKept, h0_text, h0_typed, h0_isUsed, h0_planBatch, h0_planUnits, h0_planCents, h0_planMany, h0_planGot, h0_planSubstitutes, h0_at, h0_fault, h0_entries, h0_entry])), (zq, .inl (cI, 1002, .inl z))]) (vp_Si (fun r0 => r0 = eSetPrice pv (zG z kg 0))) 0 0 (fun _ => False) := by
  refine Met.ofW (cc := cX10_setPrice) (maxL := 4) (ret := (some .int)) (by decide) rfl ?_
  intro p e s m args below meth c s₁ B hml hv
  obtain ⟨rfl, hP, hK, hD0, hN⟩ := hv
  have hx := B.exec
  have hb := B.bytes
  have hr := B.returns
  have hts := atoms_spec (ws := wsX10_setPrice) B.pre
  have hown : s.vm.findClass RX10 = some m.cls := findClass_of_methodNamed B.named
  have hlocks := B.notSynchronized
  have hD := hD0
  have hl := lv_entry ([.ref h0, .int (nI kg), .int pv]) (n := 4) (Nat.le_of_ble_eq_true rfl)
  rw [lg_entry_eq]
  generalize (lg_sl ([.ref h0, .int (nI kg), .int pv]) ++ List.replicate (4 - (lg_sl ([.ref h0, .int (nI kg), .int pv])).length) Slot.unset).toArray = ls at hl ⊢
  have hl : lv_has ls 4 [(0, .ref h0), (1, .int (nI kg)), (2, .int pv)] := hl
  refine lv_aload_n hx hb dX10_setPrice_0 rfl (lv_at hl 0 rfl) ?_
  refine lv_iload_n hx hb dX10_setPrice_1 rfl (lv_at hl 1 rfl) ?_
  refine xkRi (xV (As := [.int (nI kg)]) (rest := []) (wc := [(h0, .inr (10, [.ref zq, h0_past, h0_kept, h0_spare, h0_pastMany, h0_isKept, h0_text, h0_typed, h0_isUsed, h0_planBatch, h0_planUnits, h0_planCents, h0_planMany, h0_planGot, h0_planSubstitutes, h0_at, h0_fault, h0_entries, h0_entry])), (zq, .inl (cI, 1002, .inl z))]) hx hb hml hown hts (c_X10_isGood l dC dI cI cF cC cZ cQ cS h0 zq h0_past h0_kept h0_spare h0_pastMany h0_isKept h0_text h0_typed h0_isUsed h0_planBatch h0_planUnits h0_planCents h0_planMany h0_planGot h0_planSubstitutes h0_at h0_fault h0_entries h0_entry z (nI kg) gz (by omega) (by omega)) 1 gX10_setPrice_X10_isGood rfl rfl rfl hdV_X10_isGood ⟨Nat.le_of_ble_eq_true rfl, Nat.le_of_ble_eq_true rfl⟩ hN hK hP hD [0, 1] rfl rfl 10 0 rfl rfl rfl hl.1 rfl (Nat.le_of_ble_eq_true rfl) dX10_setPrice_2 ⟨Nat.zero_le _, Nat.zero_le _⟩) (fun r_1 hr_1 => ?_)
  have hr_1 : r_1 = (if xhas (nI kg) gz then nI 1 else nI 0) := hr_1
  obtain rfl : r_1 = nI 1 := hr_1.trans (if_pos (xhas_of hk (by omega)))
  refine xr_ifn1 (tgt := 10) hx hb (by decide) dX10_setPrice_5 (by decide) ?_
  refine lv_iload_n hx hb dX10_setPrice_10 rfl (lv_at hl 2 rfl) ?_
  refine lv_iconst (v := nI 1) hx hb dX10_setPrice_11 (by decide) ?_
  refine lv_sipush (v := nI 9999) hx hb dX10_setPrice_12 (by decide) ?_
  refine xkRi (xSs (Ws' := ([] : List Cond)) (As := [.int pv, .int (nI 1), .int (nI 9999)]) (rest := []) (wc := []) hx hb hml hown hts (c_X10_in l dC dI cI cF cC cZ cQ cS pv (nI 1) (nI 9999)) 3 (fun hR => va_cwS 3 hts gX10_setPrice_X10_in rfl rfl rfl hdN_X10_in hR) ⟨Nat.le_of_ble_eq_true rfl, Nat.le_of_ble_eq_true rfl⟩ hN hK hP hD [] rfl rfl rfl hl.1 rfl (Nat.le_of_ble_eq_true rfl) dX10_setPrice_15 ⟨Nat.zero_le _, Nat.zero_le _⟩) (fun r_2 hr_2 => ?_)
  have hr_2 : r_2 = (if (nI 1) ≤ pv ∧ pv ≤ (nI 9999) then nI 1 else nI 0) := hr_2
  rcases xi_ite inferInstance hr_2 with ⟨c_3, hr_2⟩ | ⟨c_3, hr_2⟩
  · subst hr_2
    refine xr_ifn1 (tgt := 24) hx hb (by decide) dX10_setPrice_18 (by decide) ?_
    refine lv_aload_n hx hb dX10_setPrice_24 rfl (lv_at hl 0 rfl) ?_
    refine lv_iload_n hx hb dX10_setPrice_25 rfl (lv_at hl 1 rfl) ?_
    refine lv_iconst (v := nI 0) hx hb dX10_setPrice_26 (by decide) ?_
    refine xkRi (xV (As := [.int (nI kg), .int (nI 0)]) (rest := []) (wc := [(h0, .inr (10, [.ref zq, h0_past, h0_kept, h0_spare, h0_pastMany, h0_isKept, h0_text, h0_typed, h0_isUsed, h0_planBatch, h0_planUnits, h0_planCents, h0_planMany, h0_planGot, h0_planSubstitutes, h0_at, h0_fault, h0_entries, h0_entry])), (zq, .inl (cI, 1002, .inl z))]) hx hb hml hown hts (c_X10_ofGood l dC dI cI cF cC cZ cQ cS h0 zq h0_past h0_kept h0_spare h0_pastMany h0_isKept h0_text h0_typed h0_isUsed h0_planBatch h0_planUnits h0_planCents h0_planMany h0_planGot h0_planSubstitutes h0_at h0_fault h0_entries h0_entry z kg 0 (by omega) (by omega)) 2 gX10_setPrice_X10_ofGood rfl rfl rfl hdV_X10_ofGood ⟨Nat.le_of_ble_eq_true rfl, Nat.le_of_ble_eq_true rfl⟩ hN hK hP hD [0, 1] rfl rfl 10 0 rfl rfl rfl hl.1 rfl (Nat.le_of_ble_eq_true rfl) dX10_setPrice_27 ⟨Nat.zero_le _, Nat.zero_le _⟩) (fun r_4 hr_4 => ?_)
    obtain rfl : r_4 = zG z kg 0 := hr_4
    refine lv_istore_n (lv' := [(3, .int (zG z kg 0)), (0, .ref h0), (1, .int (nI kg)), (2, .int pv)]) hx hb dX10_setPrice_30 rfl hl (by decide) rfl (fun ls hl => ?_)
    refine lv_iload_n hx hb dX10_setPrice_31 rfl (lv_at hl 0 rfl) ?_
    refine lv_iload_n hx hb dX10_setPrice_32 rfl (lv_at hl 3 rfl) ?_
    refine lv_icmp_ne (tgt := 39) hx hb dX10_setPrice_33 (by decide) (fun c_5 => False.elim (by exact he (by unfold eSetPrice; rw [if_neg (fun z9 => z9 c_3), if_neg c_5]))) (fun c_5 => ?_)
    refine lv_bipush (v := (-5)) hx hb dX10_setPrice_36 (by decide) ?_
    exact W.iret (v := (-5)) hx hb hr (fun t ht hW => ⟨_, rfl, (show (-5) = eSetPrice pv (zG z kg 0) from (by unfold eSetPrice; rw [if_neg (fun z9 => z9 c_3), if_pos c_5])), ht⟩) (fun q h => by cases h) dX10_setPrice_38
  subst hr_2
  refine xr_ifn0 (tgt := 24) hx hb (by decide) dX10_setPrice_18 (by decide) ?_
  refine lv_bipush (v := (-2)) hx hb dX10_setPrice_21 (by decide) ?_
  exact W.iret (v := (-2)) hx hb hr (fun t ht hW => ⟨_, rfl, (show (-2) = eSetPrice pv (zG z kg 0) from (by unfold eSetPrice; rw [if_pos c_3])), ht⟩) (fun q h => by cases h) dX10_setPrice_23
set_option maxHeartbeats 4000000 in
set_option maxRecDepth 100000 in
theorem c_X9_breakUnitse (l : Launch) (dC : Nat → ClassId) (dI : Nat → Nat → Nat) (cI cF cC cZ cQ cS : ClassId) (x0 : Nat) (o0 : Nat) (x0_snapshot : Value) (x0_trial : Value) (x0_history : Value) (x0_filling : Value) (x0_delivery : Value) (x0_text : Value) (x0_textLength : Value) (x0_hasSnapshot : Value) (o0_goods : Value) (o6 : Nat) (o0_orders : Value) (o0_stages : Value) (o0_log : Value) (o0_settings : Value) (o0_rebate : Value) (o0_day : Value) (bz : Nat) (o6_good : Value) (o6_came : Value) (o6_left : Value) (o10 : Nat) (o6_sold : Value) (o6_given : Value) (o6_cents : Value) (o6_wasted : Value) (shelf : Nat → Int32) (kb : Nat) (un : Int32) (hm : bz ≤ 40) (hk : kb < bz) (he : ¬ eBreak un (shelf kb) = nI 0) : Met l yX9_breakUnits wsX9_breakUnits ({ frames := 2, cells := 0, slots := 0, locals := 43 }) (xPre (dC, dI) vwCl [.ref x0, .int (nI kb), .int un] (xtys cI cF cC cZ cQ cS) [(x0, .inr (9, [.ref o0, x0_snapshot, x0_trial, x0_history, x0_filling, x0_delivery, x0_text, x0_textLength, x0_hasSnapshot])), (o0, .inr (8, [o0_goods, .ref o6, o0_orders, o0_stages, o0_log, o0_settings, o0_rebate, o0_day])), (o6, .inr (0, [.int (nI bz), o6_good, o6_came, o6_left, .ref o10, o6_sold, o6_given, o6_cents, o6_wasted])), (o10, .inl (cI, 40, .inl shelf))]) (vp_Si (fun r0 => r0 = eBreak un (shelf kb))) 0 0 (fun _ => False) := by
  refine Met.ofW (cc := cX9_breakUnits) (maxL := 3) (ret := (some .int)) (by decide) rfl ?_
  intro p e s m args below meth c s₁ B hml hv
  obtain ⟨rfl, hP, hK, hD0, hN⟩ := hv
  have hx := B.exec
  have hb := B.bytes
  have hr := B.returns
  have hts := atoms_spec (ws := wsX9_breakUnits) B.pre
  have hown : s.vm.findClass RX9 = some m.cls := findClass_of_methodNamed B.named
  have hlocks := B.notSynchronized
  have k_12 := hts (Cond.fieldLink RX9 12 "ShelfStages" "now" "LShelfStages$State;") (by decide +kernel)
  have k_129 := hts (Cond.fieldLink RX9 129 "ShelfStages$State" "batches" "LShelfStages$Batches;") (by decide +kernel)
  have k_192 := hts (Cond.fieldLink RX9 192 "ShelfStages$Batches" "shelf" "[I") (by decide +kernel)
  have i_X0 : ∀ w ∈ wsX00, w ∈ wsX9_breakUnits := by decide +kernel
  have i_X8 : ∀ w ∈ wsX80, w ∈ wsX9_breakUnits := by decide +kernel
  have i_X9 : ∀ w ∈ wsX90, w ∈ wsX9_breakUnits := by decide +kernel
  have hD := hD0
  have hl := lv_entry ([.ref x0, .int (nI kb), .int un]) (n := 3) (Nat.le_of_ble_eq_true rfl)
  rw [lg_entry_eq]
  generalize (lg_sl ([.ref x0, .int (nI kb), .int un]) ++ List.replicate (3 - (lg_sl ([.ref x0, .int (nI kb), .int un])).length) Slot.unset).toArray = ls at hl ⊢
  have hl : lv_has ls 3 [(0, .ref x0), (1, .int (nI kb)), (2, .int un)] := hl
  refine lv_aload_n hx hb dX9_breakUnits_0 rfl (lv_at hl 0 rfl) ?_
  refine lv_iload_n hx hb dX9_breakUnits_1 rfl (lv_at hl 1 rfl) ?_
  refine xkRi (xV (As := [.int (nI kb)]) (rest := []) (wc := [(x0, .inr (9, [.ref o0, x0_snapshot, x0_trial, x0_history, x0_filling, x0_delivery, x0_text, x0_textLength, x0_hasSnapshot])), (o0, .inr (8, [o0_goods, .ref o6, o0_orders, o0_stages, o0_log, o0_settings, o0_rebate, o0_day])), (o6, .inr (0, [.int (nI bz), o6_good, o6_came, o6_left, .ref o10, o6_sold, o6_given, o6_cents, o6_wasted]))]) hx hb hml hown hts (c_X9_hasBatch l dC dI cI cF cC cZ cQ cS x0 o0 x0_snapshot x0_trial x0_history x0_filling x0_delivery x0_text x0_textLength x0_hasSnapshot o0_goods o6 o0_orders o0_stages o0_log o0_settings o0_rebate o0_day bz o6_good o6_came o6_left (.ref o10) o6_sold o6_given o6_cents o6_wasted (nI kb) (by omega)) 1 gX9_breakUnits_X9_hasBatch rfl rfl rfl hdV_X9_hasBatch ⟨Nat.le_of_ble_eq_true rfl, Nat.le_of_ble_eq_true rfl⟩ hN hK hP hD [0, 1, 2] rfl rfl 9 0 rfl rfl rfl hl.1 rfl (Nat.le_of_ble_eq_true rfl) dX9_breakUnits_2 ⟨Nat.zero_le _, Nat.zero_le _⟩) (fun r_1 hr_1 => ?_)
  have hr_1 : r_1 = (if xhas (nI kb) bz then nI 1 else nI 0) := hr_1
  obtain rfl : r_1 = nI 1 := hr_1.trans (if_pos (xhas_of hk (by omega)))
  refine xr_ifn1 (tgt := 10) hx hb (by decide) dX9_breakUnits_5 (by decide) ?_
  refine lv_iload_n hx hb dX9_breakUnits_10 rfl (lv_at hl 2 rfl) ?_
  refine lv_iconst (v := nI 1) hx hb dX9_breakUnits_11 (by decide) ?_
  refine lv_sipush (v := nI 999) hx hb dX9_breakUnits_12 (by decide) ?_
  refine xkRi (xSs (Ws' := ([] : List Cond)) (As := [.int un, .int (nI 1), .int (nI 999)]) (rest := []) (wc := []) hx hb hml hown hts (c_X9_within l dC dI cI cF cC cZ cQ cS un (nI 1) (nI 999)) 3 (fun hR => va_cwS 3 hts gX9_breakUnits_X9_within rfl rfl rfl hdN_X9_within hR) ⟨Nat.le_of_ble_eq_true rfl, Nat.le_of_ble_eq_true rfl⟩ hN hK hP hD [] rfl rfl rfl hl.1 rfl (Nat.le_of_ble_eq_true rfl) dX9_breakUnits_15 ⟨Nat.zero_le _, Nat.zero_le _⟩) (fun r_2 hr_2 => ?_)
  have hr_2 : r_2 = (if (nI 1) ≤ un ∧ un ≤ (nI 999) then nI 1 else nI 0) := hr_2
  rcases xi_ite inferInstance hr_2 with ⟨c_3, hr_2⟩ | ⟨c_3, hr_2⟩
  · subst hr_2
    refine xr_ifn1 (tgt := 24) hx hb (by decide) dX9_breakUnits_18 (by decide) ?_
    refine lv_aload_n hx hb dX9_breakUnits_24 rfl (lv_at hl 0 rfl) ?_
    refine va_get (D := (dC, dI)) (ci := 9) (v := .ref o0) (C := RX9) (T := TX9) (N := 9) hx hb hts i_X9 hown hK hP 0 rfl rfl 0 (by decide) k_12 (fun _ h9 => h9) rfl dX9_breakUnits_25 ?_
    refine va_get (D := (dC, dI)) (ci := 8) (v := .ref o6) (C := RX8) (T := TX8) (N := 8) hx hb hts i_X8 hown hK hP 1 rfl rfl 1 (by decide) k_129 (fun _ h9 => h9) rfl dX9_breakUnits_28 ?_
    refine va_get (D := (dC, dI)) (ci := 0) (v := .ref o10) (C := RX0) (T := TX0) (N := 9) hx hb hts i_X0 hown hK hP 2 rfl rfl 4 (by decide) k_192 (fun _ h9 => h9) rfl dX9_breakUnits_31 ?_
    refine lv_iload_n hx hb dX9_breakUnits_34 rfl (lv_at hl 1 rfl) ?_
    refine xr_iald hx hb hK hP 3 0 rfl rfl (i := kb) (by omega) (by decide) dX9_breakUnits_35 ?_
    refine lv_iload_n hx hb dX9_breakUnits_36 rfl (lv_at hl 2 rfl) ?_
    refine lv_icmp_ge (tgt := 43) hx hb dX9_breakUnits_37 (by decide) (fun c_4 => False.elim (by exact he (by unfold eBreak; rw [if_neg (fun z9 => z9 c_3), if_neg (fun z9 => z9 c_4)]))) (fun c_4 => ?_)
    refine lv_bipush (v := (-4)) hx hb dX9_breakUnits_40 (by decide) ?_
    exact W.iret (v := (-4)) hx hb hr (fun t ht hW => ⟨_, rfl, (show (-4) = eBreak un (shelf kb) from (by unfold eBreak; rw [if_neg (fun z9 => z9 c_3), if_pos c_4])), ht⟩) (fun q h => by cases h) dX9_breakUnits_42
  subst hr_2
  refine xr_ifn0 (tgt := 24) hx hb (by decide) dX9_breakUnits_18 (by decide) ?_
  refine lv_bipush (v := (-2)) hx hb dX9_breakUnits_21 (by decide) ?_
  exact W.iret (v := (-2)) hx hb hr (fun t ht hW => ⟨_, rfl, (show (-2) = eBreak un (shelf kb) from (by unfold eBreak; rw [if_pos c_3])), ht⟩) (fun q h => by cases h) dX9_breakUnits_23
set_option maxHeartbeats 4000000 in
set_option maxRecDepth 100000 in
theorem c_X10_breakUnitse (l : Launch) (dC : Nat → ClassId) (dI : Nat → Nat → Nat) (cI cF cC cZ cQ cS : ClassId) (h0 : Nat) (zq : Nat) (h0_past : Value) (h0_kept : Value) (h0_spare : Value) (h0_pastMany : Value) (h0_isKept : Value) (h0_text : Value) (h0_typed : Value) (h0_isUsed : Value) (h0_planBatch : Value) (h0_planUnits : Value) (h0_planCents : Value) (h0_planMany : Value) (h0_planGot : Value) (h0_planSubstitutes : Value) (h0_at : Value) (h0_fault : Value) (h0_entries : Value) (h0_entry : Value) (z : Nat → Int32) (bz : Nat) (kb : Nat) (un : Int32) (hz2 : z 2 = nI bz) (hbz : bz ≤ 40) (hk : kb < bz) (he : ¬ eBreak un (zB z kb 3) = nI 0) : Met l yX10_breakUnits wsX10_breakUnits ({ frames := 1, cells := 0, slots := 0, locals := 22 }) (xPre (dC, dI) vwCl [.ref h0, .int (nI kb), .int un] (xtys cI cF cC cZ cQ cS) [(h0, .inr (10, [.ref zq, h0_past, h0_kept, h0_spare, h0_pastMany, h0_isKept, h0_text, h0_typed, h0_isUsed, h0_planBatch, h0_planUnits, h0_planCents, h0_planMany, h0_planGot, h0_planSubstitutes, h0_at, h0_fault, h0_entries, h0_entry])), (zq, .inl (cI, 1002, .inl z))]) (vp_Si (fun r0 => r0 = eBreak un (zB z kb 3))) 0 0 (fun _ => False) := by
  refine Met.ofW (cc := cX10_breakUnits) (maxL := 3) (ret := (some .int)) (by decide) rfl ?_
  intro p e s m args below meth c s₁ B hml hv
  obtain ⟨rfl, hP, hK, hD0, hN⟩ := hv
  have hx := B.exec
  have hb := B.bytes
  have hr := B.returns
  have hts := atoms_spec (ws := wsX10_breakUnits) B.pre
  have hown : s.vm.findClass RX10 = some m.cls := findClass_of_methodNamed B.named
  have hlocks := B.notSynchronized
  have hD := hD0
  have hl := lv_entry ([.ref h0, .int (nI kb), .int un]) (n := 3) (Nat.le_of_ble_eq_true rfl)
  rw [lg_entry_eq]
  generalize (lg_sl ([.ref h0, .int (nI kb), .int un]) ++ List.replicate (3 - (lg_sl ([.ref h0, .int (nI kb), .int un])).length) Slot.unset).toArray = ls at hl ⊢
  have hl : lv_has ls 3 [(0, .ref h0), (1, .int (nI kb)), (2, .int un)] := hl
  refine lv_aload_n hx hb dX10_breakUnits_0 rfl (lv_at hl 0 rfl) ?_
  refine lv_iload_n hx hb dX10_breakUnits_1 rfl (lv_at hl 1 rfl) ?_
  refine xkRi (xV (As := [.int (nI kb)]) (rest := []) (wc := [(h0, .inr (10, [.ref zq, h0_past, h0_kept, h0_spare, h0_pastMany, h0_isKept, h0_text, h0_typed, h0_isUsed, h0_planBatch, h0_planUnits, h0_planCents, h0_planMany, h0_planGot, h0_planSubstitutes, h0_at, h0_fault, h0_entries, h0_entry])), (zq, .inl (cI, 1002, .inl z))]) hx hb hml hown hts (c_X10_isBatch l dC dI cI cF cC cZ cQ cS h0 zq h0_past h0_kept h0_spare h0_pastMany h0_isKept h0_text h0_typed h0_isUsed h0_planBatch h0_planUnits h0_planCents h0_planMany h0_planGot h0_planSubstitutes h0_at h0_fault h0_entries h0_entry z (nI kb) bz (by omega) (by omega)) 1 gX10_breakUnits_X10_isBatch rfl rfl rfl hdV_X10_isBatch ⟨Nat.le_of_ble_eq_true rfl, Nat.le_of_ble_eq_true rfl⟩ hN hK hP hD [0, 1] rfl rfl 10 0 rfl rfl rfl hl.1 rfl (Nat.le_of_ble_eq_true rfl) dX10_breakUnits_2 ⟨Nat.zero_le _, Nat.zero_le _⟩) (fun r_1 hr_1 => ?_)
  have hr_1 : r_1 = (if xhas (nI kb) bz then nI 1 else nI 0) := hr_1
  obtain rfl : r_1 = nI 1 := hr_1.trans (if_pos (xhas_of hk (by omega)))
  refine xr_ifn1 (tgt := 10) hx hb (by decide) dX10_breakUnits_5 (by decide) ?_
  refine lv_iload_n hx hb dX10_breakUnits_10 rfl (lv_at hl 2 rfl) ?_
  refine lv_iconst (v := nI 1) hx hb dX10_breakUnits_11 (by decide) ?_
  refine lv_sipush (v := nI 999) hx hb dX10_breakUnits_12 (by decide) ?_
  refine xkRi (xSs (Ws' := ([] : List Cond)) (As := [.int un, .int (nI 1), .int (nI 999)]) (rest := []) (wc := []) hx hb hml hown hts (c_X10_in l dC dI cI cF cC cZ cQ cS un (nI 1) (nI 999)) 3 (fun hR => va_cwS 3 hts gX10_breakUnits_X10_in rfl rfl rfl hdN_X10_in hR) ⟨Nat.le_of_ble_eq_true rfl, Nat.le_of_ble_eq_true rfl⟩ hN hK hP hD [] rfl rfl rfl hl.1 rfl (Nat.le_of_ble_eq_true rfl) dX10_breakUnits_15 ⟨Nat.zero_le _, Nat.zero_le _⟩) (fun r_2 hr_2 => ?_)
  have hr_2 : r_2 = (if (nI 1) ≤ un ∧ un ≤ (nI 999) then nI 1 else nI 0) := hr_2
  rcases xi_ite inferInstance hr_2 with ⟨c_3, hr_2⟩ | ⟨c_3, hr_2⟩
  · subst hr_2
    refine xr_ifn1 (tgt := 24) hx hb (by decide) dX10_breakUnits_18 (by decide) ?_
    refine lv_aload_n hx hb dX10_breakUnits_24 rfl (lv_at hl 0 rfl) ?_
    refine lv_iload_n hx hb dX10_breakUnits_25 rfl (lv_at hl 1 rfl) ?_
    refine lv_iconst (v := nI 3) hx hb dX10_breakUnits_26 (by decide) ?_
    refine xkRi (xV (As := [.int (nI kb), .int (nI 3)]) (rest := []) (wc := [(h0, .inr (10, [.ref zq, h0_past, h0_kept, h0_spare, h0_pastMany, h0_isKept, h0_text, h0_typed, h0_isUsed, h0_planBatch, h0_planUnits, h0_planCents, h0_planMany, h0_planGot, h0_planSubstitutes, h0_at, h0_fault, h0_entries, h0_entry])), (zq, .inl (cI, 1002, .inl z))]) hx hb hml hown hts (c_X10_ofBatch l dC dI cI cF cC cZ cQ cS h0 zq h0_past h0_kept h0_spare h0_pastMany h0_isKept h0_text h0_typed h0_isUsed h0_planBatch h0_planUnits h0_planCents h0_planMany h0_planGot h0_planSubstitutes h0_at h0_fault h0_entries h0_entry z kb 3 (by omega) (by omega)) 2 gX10_breakUnits_X10_ofBatch rfl rfl rfl hdV_X10_ofBatch ⟨Nat.le_of_ble_eq_true rfl, Nat.le_of_ble_eq_true rfl⟩ hN hK hP hD [0, 1] rfl rfl 10 0 rfl rfl rfl hl.1 rfl (Nat.le_of_ble_eq_true rfl) dX10_breakUnits_27 ⟨Nat.zero_le _, Nat.zero_le _⟩) (fun r_4 hr_4 => ?_)
    obtain rfl : r_4 = zB z kb 3 := hr_4
    refine lv_iload_n hx hb dX10_breakUnits_30 rfl (lv_at hl 2 rfl) ?_
    refine lv_icmp_ge (tgt := 37) hx hb dX10_breakUnits_31 (by decide) (fun c_5 => False.elim (by exact he (by unfold eBreak; rw [if_neg (fun z9 => z9 c_3), if_neg (fun z9 => z9 c_5)]))) (fun c_5 => ?_)
    refine lv_bipush (v := (-4)) hx hb dX10_breakUnits_34 (by decide) ?_
    exact W.iret (v := (-4)) hx hb hr (fun t ht hW => ⟨_, rfl, (show (-4) = eBreak un (zB z kb 3) from (by unfold eBreak; rw [if_neg (fun z9 => z9 c_3), if_pos c_5])), ht⟩) (fun q h => by cases h) dX10_breakUnits_36
  subst hr_2
  refine xr_ifn0 (tgt := 24) hx hb (by decide) dX10_breakUnits_18 (by decide) ?_
  refine lv_bipush (v := (-2)) hx hb dX10_breakUnits_21 (by decide) ?_
  exact W.iret (v := (-2)) hx hb hr (fun t ht hW => ⟨_, rfl, (show (-2) = eBreak un (zB z kb 3) from (by unfold eBreak; rw [if_pos c_3])), ht⟩) (fun q h => by cases h) dX10_breakUnits_23
set_option maxHeartbeats 4000000 in
set_option maxRecDepth 100000 in
theorem c_X9_bringe (l : Launch) (dC : Nat → ClassId) (dI : Nat → Nat → Nat) (cI cF cC cZ cQ cS : ClassId) (x0 : Nat) (o0 : Nat) (x0_snapshot : Value) (x0_trial : Value) (x0_history : Value) (x0_filling : Value) (x0_delivery : Value) (x0_text : Value) (x0_textLength : Value) (x0_hasSnapshot : Value) (o1 : Nat) (o6 : Nat) (o0_orders : Value) (o0_stages : Value) (o0_log : Value) (o0_settings : Value) (o0_rebate : Value) (o0_day : Value) (gz : Nat) (o1_price : Value) (o3 : Nat) (o1_listed : Value) (o1_list : Value) (life : Nat → Int32) (bz : Nat) (o6_good : Value) (o6_came : Value) (o6_left : Value) (o6_shelf : Value) (o6_sold : Value) (o6_given : Value) (o6_cents : Value) (o6_wasted : Value) (kg : Nat) (un : Int32) (dl : Int32) (hbz : bz ≤ 40) (hm : gz ≤ 12) (hk : kg < gz) (he : ¬ eBring un dl (life kg) bz = nI 0) : Met l yX9_bring wsX9_bring ({ frames := 2, cells := 0, slots := 0, locals := 45 }) (xPre (dC, dI) vwCl [.ref x0, .int (nI kg), .int un, .int dl] (xtys cI cF cC cZ cQ cS) [(x0, .inr (9, [.ref o0, x0_snapshot, x0_trial, x0_history, x0_filling, x0_delivery, x0_text, x0_textLength, x0_hasSnapshot])), (o0, .inr (8, [.ref o1, .ref o6, o0_orders, o0_stages, o0_log, o0_settings, o0_rebate, o0_day])), (o1, .inr (3, [.int (nI gz), o1_price, .ref o3, o1_listed, o1_list])), (o3, .inl (cI, 12, .inl life)), (o6, .inr (0, [.int (nI bz), o6_good, o6_came, o6_left, o6_shelf, o6_sold, o6_given, o6_cents, o6_wasted]))]) (vp_Si (fun r0 => r0 = eBring un dl (life kg) bz)) 0 0 (fun _ => False) := by
  refine Met.ofW (cc := cX9_bring) (maxL := 4) (ret := (some .int)) (by decide) rfl ?_
  intro p e s m args below meth c s₁ B hml hv
  obtain ⟨rfl, hP, hK, hD0, hN⟩ := hv
  have hx := B.exec
  have hb := B.bytes
  have hr := B.returns
  have hts := atoms_spec (ws := wsX9_bring) B.pre
  have hown : s.vm.findClass RX9 = some m.cls := findClass_of_methodNamed B.named
  have hlocks := B.notSynchronized
  have k_12 := hts (Cond.fieldLink RX9 12 "ShelfStages" "now" "LShelfStages$State;") (by decide +kernel)
  have k_129 := hts (Cond.fieldLink RX9 129 "ShelfStages$State" "batches" "LShelfStages$Batches;") (by decide +kernel)
  have k_133 := hts (Cond.fieldLink RX9 133 "ShelfStages$Batches" "size" "I") (by decide +kernel)
  have i_X0 : ∀ w ∈ wsX00, w ∈ wsX9_bring := by decide +kernel
  have i_X8 : ∀ w ∈ wsX80, w ∈ wsX9_bring := by decide +kernel
  have i_X9 : ∀ w ∈ wsX90, w ∈ wsX9_bring := by decide +kernel
  have hD := hD0
  have hl := lv_entry ([.ref x0, .int (nI kg), .int un, .int dl]) (n := 4) (Nat.le_of_ble_eq_true rfl)
  rw [lg_entry_eq]
  generalize (lg_sl ([.ref x0, .int (nI kg), .int un, .int dl]) ++ List.replicate (4 - (lg_sl ([.ref x0, .int (nI kg), .int un, .int dl])).length) Slot.unset).toArray = ls at hl ⊢
  have hl : lv_has ls 4 [(0, .ref x0), (1, .int (nI kg)), (2, .int un), (3, .int dl)] := hl
  refine lv_aload_n hx hb dX9_bring_0 rfl (lv_at hl 0 rfl) ?_
  refine lv_iload_n hx hb dX9_bring_1 rfl (lv_at hl 1 rfl) ?_
  refine xkRi (xV (As := [.int (nI kg)]) (rest := []) (wc := [(x0, .inr (9, [.ref o0, x0_snapshot, x0_trial, x0_history, x0_filling, x0_delivery, x0_text, x0_textLength, x0_hasSnapshot])), (o0, .inr (8, [.ref o1, .ref o6, o0_orders, o0_stages, o0_log, o0_settings, o0_rebate, o0_day])), (o1, .inr (3, [.int (nI gz), o1_price, .ref o3, o1_listed, o1_list]))]) hx hb hml hown hts (c_X9_hasGood l dC dI cI cF cC cZ cQ cS x0 o0 x0_snapshot x0_trial x0_history x0_filling x0_delivery x0_text x0_textLength x0_hasSnapshot o1 (.ref o6) o0_orders o0_stages o0_log o0_settings o0_rebate o0_day gz o1_price (.ref o3) o1_listed o1_list (nI kg) (by omega)) 1 gX9_bring_X9_hasGood rfl rfl rfl hdV_X9_hasGood ⟨Nat.le_of_ble_eq_true rfl, Nat.le_of_ble_eq_true rfl⟩ hN hK hP hD [0, 1, 2] rfl rfl 9 0 rfl rfl rfl hl.1 rfl (Nat.le_of_ble_eq_true rfl) dX9_bring_2 ⟨Nat.zero_le _, Nat.zero_le _⟩) (fun r_1 hr_1 => ?_)
  have hr_1 : r_1 = (if xhas (nI kg) gz then nI 1 else nI 0) := hr_1
  obtain rfl : r_1 = nI 1 := hr_1.trans (if_pos (xhas_of hk (by omega)))
  refine xr_ifn1 (tgt := 10) hx hb (by decide) dX9_bring_5 (by decide) ?_
  refine lv_aload_n hx hb dX9_bring_10 rfl (lv_at hl 0 rfl) ?_
  refine lv_iload_n hx hb dX9_bring_11 rfl (lv_at hl 1 rfl) ?_
  refine lv_iload_n hx hb dX9_bring_12 rfl (lv_at hl 2 rfl) ?_
  refine lv_iload_n hx hb dX9_bring_13 rfl (lv_at hl 3 rfl) ?_
  refine xkRi (xV (As := [.int (nI kg), .int un, .int dl]) (rest := []) (wc := [(x0, .inr (9, [.ref o0, x0_snapshot, x0_trial, x0_history, x0_filling, x0_delivery, x0_text, x0_textLength, x0_hasSnapshot])), (o0, .inr (8, [.ref o1, .ref o6, o0_orders, o0_stages, o0_log, o0_settings, o0_rebate, o0_day])), (o1, .inr (3, [.int (nI gz), o1_price, .ref o3, o1_listed, o1_list])), (o3, .inl (cI, 12, .inl life))]) hx hb hml hown hts (c_X9_isSupply l dC dI cI cF cC cZ cQ cS x0 o0 x0_snapshot x0_trial x0_history x0_filling x0_delivery x0_text x0_textLength x0_hasSnapshot o1 (.ref o6) o0_orders o0_stages o0_log o0_settings o0_rebate o0_day (.int (nI gz)) o1_price o3 o1_listed o1_list life kg un dl (by omega)) 3 gX9_bring_X9_isSupply rfl rfl rfl hdV_X9_isSupply ⟨Nat.le_of_ble_eq_true rfl, Nat.le_of_ble_eq_true rfl⟩ hN hK hP hD [0, 1, 2, 3] rfl rfl 9 0 rfl rfl rfl hl.1 rfl (Nat.le_of_ble_eq_true rfl) dX9_bring_14 ⟨Nat.zero_le _, Nat.zero_le _⟩) (fun r_2 hr_2 => ?_)
  have hr_2 : r_2 = (if (nI 1 ≤ un ∧ un ≤ nI 999) ∧ nI 1 ≤ dl ∧ dl ≤ life kg then nI 1 else nI 0) := hr_2
  rcases xi_ite inferInstance hr_2 with ⟨c_3, hr_2⟩ | ⟨c_3, hr_2⟩
  · subst hr_2
    refine xr_ifn1 (tgt := 23) hx hb (by decide) dX9_bring_17 (by decide) ?_
    refine lv_aload_n hx hb dX9_bring_23 rfl (lv_at hl 0 rfl) ?_
    refine va_get (D := (dC, dI)) (ci := 9) (v := .ref o0) (C := RX9) (T := TX9) (N := 9) hx hb hts i_X9 hown hK hP 0 rfl rfl 0 (by decide) k_12 (fun _ h9 => h9) rfl dX9_bring_24 ?_
    refine va_get (D := (dC, dI)) (ci := 8) (v := .ref o6) (C := RX8) (T := TX8) (N := 8) hx hb hts i_X8 hown hK hP 1 rfl rfl 1 (by decide) k_129 (fun _ h9 => h9) rfl dX9_bring_27 ?_
    refine va_get (D := (dC, dI)) (ci := 0) (v := .int (nI bz)) (C := RX0) (T := TX0) (N := 9) hx hb hts i_X0 hown hK hP 4 rfl rfl 0 (by decide) k_133 (fun _ h9 => h9) rfl dX9_bring_30 ?_
    refine lv_bipush (v := nI 40) hx hb dX9_bring_33 (by decide) ?_
    refine xr_lt_n (tgt := 41) hx hb (by omega) (by omega) dX9_bring_35 (by decide) (fun c_4 => False.elim (by exact he (by unfold eBring; rw [if_neg (fun z9 => z9 c_3), if_neg (by omega)]))) (fun c_4 => ?_)
    refine lv_bipush (v := (-3)) hx hb dX9_bring_38 (by decide) ?_
    exact W.iret (v := (-3)) hx hb hr (fun t ht hW => ⟨_, rfl, (show (-3) = eBring un dl (life kg) bz from (by unfold eBring; rw [if_neg (fun z9 => z9 c_3), if_pos c_4])), ht⟩) (fun q h => by cases h) dX9_bring_40
  subst hr_2
  refine xr_ifn0 (tgt := 23) hx hb (by decide) dX9_bring_17 (by decide) ?_
  refine lv_bipush (v := (-2)) hx hb dX9_bring_20 (by decide) ?_
  exact W.iret (v := (-2)) hx hb hr (fun t ht hW => ⟨_, rfl, (show (-2) = eBring un dl (life kg) bz from (by unfold eBring; rw [if_pos c_3])), ht⟩) (fun q h => by cases h) dX9_bring_22
set_option maxHeartbeats 4000000 in
set_option maxRecDepth 100000 in
theorem c_X10_bringe (l : Launch) (dC : Nat → ClassId) (dI : Nat → Nat → Nat) (cI cF cC cZ cQ cS : ClassId) (h0 : Nat) (zq : Nat) (h0_past : Value) (h0_kept : Value) (h0_spare : Value) (h0_pastMany : Value) (h0_isKept : Value) (h0_text : Value) (h0_typed : Value) (h0_isUsed : Value) (h0_planBatch : Value) (h0_planUnits : Value) (h0_planCents : Value) (h0_planMany : Value) (h0_planGot : Value) (h0_planSubstitutes : Value) (h0_at : Value) (h0_fault : Value) (h0_entries : Value) (h0_entry : Value) (z : Nat → Int32) (gz : Nat) (kg : Nat) (un : Int32) (dl : Int32) (bz : Nat) (hz1 : z 1 = nI gz) (hgz : gz ≤ 12) (hk : kg < gz) (hz2 : z 2 = nI bz) (hbz : bz ≤ 40) (he : ¬ eBring un dl (zG z kg 1) bz = nI 0) : Met l yX10_bring wsX10_bring ({ frames := 1, cells := 0, slots := 0, locals := 22 }) (xPre (dC, dI) vwCl [.ref h0, .int (nI kg), .int un, .int dl] (xtys cI cF cC cZ cQ cS) [(h0, .inr (10, [.ref zq, h0_past, h0_kept, h0_spare, h0_pastMany, h0_isKept, h0_text, h0_typed, h0_isUsed, h0_planBatch, h0_planUnits, h0_planCents, h0_planMany, h0_planGot, h0_planSubstitutes, h0_at, h0_fault, h0_entries, h0_entry])), (zq, .inl (cI, 1002, .inl z))]) (vp_Si (fun r0 => r0 = eBring un dl (zG z kg 1) bz)) 0 0 (fun _ => False) := by
  refine Met.ofW (cc := cX10_bring) (maxL := 4) (ret := (some .int)) (by decide) rfl ?_
  intro p e s m args below meth c s₁ B hml hv
  obtain ⟨rfl, hP, hK, hD0, hN⟩ := hv
  have hx := B.exec
  have hb := B.bytes
  have hr := B.returns
  have hts := atoms_spec (ws := wsX10_bring) B.pre
  have hown : s.vm.findClass RX10 = some m.cls := findClass_of_methodNamed B.named
  have hlocks := B.notSynchronized
  have k_7 := hts (Cond.fieldLink RX10 7 "ShelfStagesModel" "z" "[I") (by decide +kernel)
  have i_X10 : ∀ w ∈ wsX100, w ∈ wsX10_bring := by decide +kernel
  have hD := hD0
  have hl := lv_entry ([.ref h0, .int (nI kg), .int un, .int dl]) (n := 4) (Nat.le_of_ble_eq_true rfl)
  rw [lg_entry_eq]
  generalize (lg_sl ([.ref h0, .int (nI kg), .int un, .int dl]) ++ List.replicate (4 - (lg_sl ([.ref h0, .int (nI kg), .int un, .int dl])).length) Slot.unset).toArray = ls at hl ⊢
  have hl : lv_has ls 4 [(0, .ref h0), (1, .int (nI kg)), (2, .int un), (3, .int dl)] := hl
  refine lv_aload_n hx hb dX10_bring_0 rfl (lv_at hl 0 rfl) ?_
  refine lv_iload_n hx hb dX10_bring_1 rfl (lv_at hl 1 rfl) ?_
  refine xkRi (xV (As := [.int (nI kg)]) (rest := []) (wc := [(h0, .inr (10, [.ref zq, h0_past, h0_kept, h0_spare, h0_pastMany, h0_isKept, h0_text, h0_typed, h0_isUsed, h0_planBatch, h0_planUnits, h0_planCents, h0_planMany, h0_planGot, h0_planSubstitutes, h0_at, h0_fault, h0_entries, h0_entry])), (zq, .inl (cI, 1002, .inl z))]) hx hb hml hown hts (c_X10_isGood l dC dI cI cF cC cZ cQ cS h0 zq h0_past h0_kept h0_spare h0_pastMany h0_isKept h0_text h0_typed h0_isUsed h0_planBatch h0_planUnits h0_planCents h0_planMany h0_planGot h0_planSubstitutes h0_at h0_fault h0_entries h0_entry z (nI kg) gz (by omega) (by omega)) 1 gX10_bring_X10_isGood rfl rfl rfl hdV_X10_isGood ⟨Nat.le_of_ble_eq_true rfl, Nat.le_of_ble_eq_true rfl⟩ hN hK hP hD [0, 1] rfl rfl 10 0 rfl rfl rfl hl.1 rfl (Nat.le_of_ble_eq_true rfl) dX10_bring_2 ⟨Nat.zero_le _, Nat.zero_le _⟩) (fun r_1 hr_1 => ?_)
  have hr_1 : r_1 = (if xhas (nI kg) gz then nI 1 else nI 0) := hr_1
  obtain rfl : r_1 = nI 1 := hr_1.trans (if_pos (xhas_of hk (by omega)))
  refine xr_ifn1 (tgt := 10) hx hb (by decide) dX10_bring_5 (by decide) ?_
  refine lv_iload_n hx hb dX10_bring_10 rfl (lv_at hl 2 rfl) ?_
  refine lv_iconst (v := nI 1) hx hb dX10_bring_11 (by decide) ?_
  refine lv_sipush (v := nI 999) hx hb dX10_bring_12 (by decide) ?_
  refine xkRi (xSs (Ws' := ([] : List Cond)) (As := [.int un, .int (nI 1), .int (nI 999)]) (rest := []) (wc := []) hx hb hml hown hts (c_X10_in l dC dI cI cF cC cZ cQ cS un (nI 1) (nI 999)) 3 (fun hR => va_cwS 3 hts gX10_bring_X10_in rfl rfl rfl hdN_X10_in hR) ⟨Nat.le_of_ble_eq_true rfl, Nat.le_of_ble_eq_true rfl⟩ hN hK hP hD [] rfl rfl rfl hl.1 rfl (Nat.le_of_ble_eq_true rfl) dX10_bring_15 ⟨Nat.zero_le _, Nat.zero_le _⟩) (fun r_2 hr_2 => ?_)
  have hr_2 : r_2 = (if (nI 1) ≤ un ∧ un ≤ (nI 999) then nI 1 else nI 0) := hr_2
  rcases xi_ite inferInstance hr_2 with ⟨c_3, hr_2⟩ | ⟨c_3, hr_2⟩
  · subst hr_2
    refine xr_if1 (tgt := 35) hx hb (by decide) dX10_bring_18 (by decide) ?_
    refine lv_iload_n hx hb dX10_bring_21 rfl (lv_at hl 3 rfl) ?_
    refine lv_iconst (v := nI 1) hx hb dX10_bring_22 (by decide) ?_
    refine lv_aload_n hx hb dX10_bring_23 rfl (lv_at hl 0 rfl) ?_
    refine lv_iload_n hx hb dX10_bring_24 rfl (lv_at hl 1 rfl) ?_
    refine lv_iconst (v := nI 1) hx hb dX10_bring_25 (by decide) ?_
    refine xkRi (xV (As := [.int (nI kg), .int (nI 1)]) (rest := [.int (nI 1), .int dl]) (wc := [(h0, .inr (10, [.ref zq, h0_past, h0_kept, h0_spare, h0_pastMany, h0_isKept, h0_text, h0_typed, h0_isUsed, h0_planBatch, h0_planUnits, h0_planCents, h0_planMany, h0_planGot, h0_planSubstitutes, h0_at, h0_fault, h0_entries, h0_entry])), (zq, .inl (cI, 1002, .inl z))]) hx hb hml hown hts (c_X10_ofGood l dC dI cI cF cC cZ cQ cS h0 zq h0_past h0_kept h0_spare h0_pastMany h0_isKept h0_text h0_typed h0_isUsed h0_planBatch h0_planUnits h0_planCents h0_planMany h0_planGot h0_planSubstitutes h0_at h0_fault h0_entries h0_entry z kg 1 (by omega) (by omega)) 2 gX10_bring_X10_ofGood rfl rfl rfl hdV_X10_ofGood ⟨Nat.le_of_ble_eq_true rfl, Nat.le_of_ble_eq_true rfl⟩ hN hK hP hD [0, 1] rfl rfl 10 0 rfl rfl rfl hl.1 rfl (Nat.le_of_ble_eq_true rfl) dX10_bring_26 ⟨Nat.zero_le _, Nat.zero_le _⟩) (fun r_4 hr_4 => ?_)
    obtain rfl : r_4 = zG z kg 1 := hr_4
    refine xkRi (xSs (Ws' := ([] : List Cond)) (As := [.int dl, .int (nI 1), .int (zG z kg 1)]) (rest := []) (wc := []) hx hb hml hown hts (c_X10_in l dC dI cI cF cC cZ cQ cS dl (nI 1) (zG z kg 1)) 3 (fun hR => va_cwS 3 hts gX10_bring_X10_in rfl rfl rfl hdN_X10_in hR) ⟨Nat.le_of_ble_eq_true rfl, Nat.le_of_ble_eq_true rfl⟩ hN hK hP hD [] rfl rfl rfl hl.1 rfl (Nat.le_of_ble_eq_true rfl) dX10_bring_29 ⟨Nat.zero_le _, Nat.zero_le _⟩) (fun r_5 hr_5 => ?_)
    have hr_5 : r_5 = (if (nI 1) ≤ dl ∧ dl ≤ (zG z kg 1) then nI 1 else nI 0) := hr_5
    rcases xi_ite inferInstance hr_5 with ⟨c_6, hr_5⟩ | ⟨c_6, hr_5⟩
    · subst hr_5
      refine xr_ifn1 (tgt := 38) hx hb (by decide) dX10_bring_32 (by decide) ?_
      refine lv_aload_n hx hb dX10_bring_38 rfl (lv_at hl 0 rfl) ?_
      refine va_get (D := (dC, dI)) (ci := 10) (v := .ref zq) (C := RX10) (T := TX10) (N := 19) hx hb hts i_X10 hown hK hP 0 rfl rfl 0 (by decide) k_7 (fun _ h9 => h9) rfl dX10_bring_39 ?_
      refine lv_iconst (v := nI 2) hx hb dX10_bring_42 (by decide) ?_
      refine xr_iald hx hb hK hP 1 0 rfl rfl (i := 2) (by omega) (by decide) dX10_bring_43 ?_
      refine xr_top (show z 2 = nI bz from hz2) ?_
      refine lv_bipush (v := nI 40) hx hb dX10_bring_44 (by decide) ?_
      refine xr_ne_n (tgt := 52) hx hb (by omega) (by omega) dX10_bring_46 (by decide) (fun c_7 => False.elim (by exact he (by unfold eBring; rw [if_neg (fun z9 => z9 ⟨c_3, c_6⟩), if_neg (by omega)]))) (fun c_7 => ?_)
      refine lv_bipush (v := (-3)) hx hb dX10_bring_49 (by decide) ?_
      exact W.iret (v := (-3)) hx hb hr (fun t ht hW => ⟨_, rfl, (show (-3) = eBring un dl (zG z kg 1) bz from (by unfold eBring; rw [if_neg (fun z9 => z9 ⟨c_3, c_6⟩), if_pos (by omega)])), ht⟩) (fun q h => by cases h) dX10_bring_51
    subst hr_5
    refine xr_ifn0 (tgt := 38) hx hb (by decide) dX10_bring_32 (by decide) ?_
    refine lv_bipush (v := (-2)) hx hb dX10_bring_35 (by decide) ?_
    exact W.iret (v := (-2)) hx hb hr (fun t ht hW => ⟨_, rfl, (show (-2) = eBring un dl (zG z kg 1) bz from (by unfold eBring; rw [if_pos (fun z9 => c_6 z9.2)])), ht⟩) (fun q h => by cases h) dX10_bring_37
  subst hr_2
  refine xr_if0 (tgt := 35) hx hb (by decide) dX10_bring_18 (by decide) ?_
  refine lv_bipush (v := (-2)) hx hb dX10_bring_35 (by decide) ?_
  exact W.iret (v := (-2)) hx hb hr (fun t ht hW => ⟨_, rfl, (show (-2) = eBring un dl (zG z kg 1) bz from (by unfold eBring; rw [if_pos (fun z9 => c_3 z9.1)])), ht⟩) (fun q h => by cases h) dX10_bring_37
set_option maxHeartbeats 4000000 in
set_option maxRecDepth 100000 in
theorem c_X9_recalle (l : Launch) (dC : Nat → ClassId) (dI : Nat → Nat → Nat) (cI cF cC cZ cQ cS : ClassId) (x0 : Nat) (o0 : Nat) (x0_snapshot : Value) (x0_trial : Value) (x0_history : Value) (x0_filling : Value) (x0_delivery : Value) (x0_text : Value) (x0_textLength : Value) (x0_hasSnapshot : Value) (o1 : Nat) (o6 : Nat) (o0_orders : Value) (o0_stages : Value) (o0_log : Value) (o0_settings : Value) (o0_rebate : Value) (o0_day : Value) (gz : Nat) (o1_price : Value) (o1_life : Value) (o1_listed : Value) (o1_list : Value) (bz : Nat) (o7 : Nat) (o6_came : Value) (o6_left : Value) (o10 : Nat) (o6_sold : Value) (o6_given : Value) (o6_cents : Value) (o6_wasted : Value) (shelf : Nat → Int32) (good : Nat → Int32) (kg : Nat) (hbz : bz ≤ 40) (hm : gz ≤ 12) (hk : kg < gz) (he : ¬ eRecall (xsumIf good (nI kg) shelf bz) = nI 0) : Met l yX9_recall wsX9_recall ({ frames := 2, cells := 0, slots := 0, locals := 43 }) (xPre (dC, dI) vwCl [.ref x0, .int (nI kg)] (xtys cI cF cC cZ cQ cS) [(x0, .inr (9, [.ref o0, x0_snapshot, x0_trial, x0_history, x0_filling, x0_delivery, x0_text, x0_textLength, x0_hasSnapshot])), (o0, .inr (8, [.ref o1, .ref o6, o0_orders, o0_stages, o0_log, o0_settings, o0_rebate, o0_day])), (o1, .inr (3, [.int (nI gz), o1_price, o1_life, o1_listed, o1_list])), (o6, .inr (0, [.int (nI bz), .ref o7, o6_came, o6_left, .ref o10, o6_sold, o6_given, o6_cents, o6_wasted])), (o10, .inl (cI, 40, .inl shelf)), (o7, .inl (cI, 40, .inl good))]) (vp_Si (fun r0 => r0 = eRecall (xsumIf good (nI kg) shelf bz))) 0 0 (fun _ => False) := by
  refine Met.ofW (cc := cX9_recall) (maxL := 3) (ret := (some .int)) (by decide) rfl ?_
  intro p e s m args below meth c s₁ B hml hv
  obtain ⟨rfl, hP, hK, hD0, hN⟩ := hv
  have hx := B.exec
  have hb := B.bytes
  have hr := B.returns
  have hts := atoms_spec (ws := wsX9_recall) B.pre
  have hown : s.vm.findClass RX9 = some m.cls := findClass_of_methodNamed B.named
  have hlocks := B.notSynchronized
  have k_12 := hts (Cond.fieldLink RX9 12 "ShelfStages" "now" "LShelfStages$State;") (by decide +kernel)
  have k_129 := hts (Cond.fieldLink RX9 129 "ShelfStages$State" "batches" "LShelfStages$Batches;") (by decide +kernel)
  have k_192 := hts (Cond.fieldLink RX9 192 "ShelfStages$Batches" "shelf" "[I") (by decide +kernel)
  have i_X0 : ∀ w ∈ wsX00, w ∈ wsX9_recall := by decide +kernel
  have i_X8 : ∀ w ∈ wsX80, w ∈ wsX9_recall := by decide +kernel
  have i_X9 : ∀ w ∈ wsX90, w ∈ wsX9_recall := by decide +kernel
  have hD := hD0
  have hl := lv_entry ([.ref x0, .int (nI kg)]) (n := 3) (Nat.le_of_ble_eq_true rfl)
  rw [lg_entry_eq]
  generalize (lg_sl ([.ref x0, .int (nI kg)]) ++ List.replicate (3 - (lg_sl ([.ref x0, .int (nI kg)])).length) Slot.unset).toArray = ls at hl ⊢
  have hl : lv_has ls 3 [(0, .ref x0), (1, .int (nI kg))] := hl
  refine lv_aload_n hx hb dX9_recall_0 rfl (lv_at hl 0 rfl) ?_
  refine lv_iload_n hx hb dX9_recall_1 rfl (lv_at hl 1 rfl) ?_
  refine xkRi (xV (As := [.int (nI kg)]) (rest := []) (wc := [(x0, .inr (9, [.ref o0, x0_snapshot, x0_trial, x0_history, x0_filling, x0_delivery, x0_text, x0_textLength, x0_hasSnapshot])), (o0, .inr (8, [.ref o1, .ref o6, o0_orders, o0_stages, o0_log, o0_settings, o0_rebate, o0_day])), (o1, .inr (3, [.int (nI gz), o1_price, o1_life, o1_listed, o1_list]))]) hx hb hml hown hts (c_X9_hasGood l dC dI cI cF cC cZ cQ cS x0 o0 x0_snapshot x0_trial x0_history x0_filling x0_delivery x0_text x0_textLength x0_hasSnapshot o1 (.ref o6) o0_orders o0_stages o0_log o0_settings o0_rebate o0_day gz o1_price o1_life o1_listed o1_list (nI kg) (by omega)) 1 gX9_recall_X9_hasGood rfl rfl rfl hdV_X9_hasGood ⟨Nat.le_of_ble_eq_true rfl, Nat.le_of_ble_eq_true rfl⟩ hN hK hP hD [0, 1, 2] rfl rfl 9 0 rfl rfl rfl hl.1 rfl (Nat.le_of_ble_eq_true rfl) dX9_recall_2 ⟨Nat.zero_le _, Nat.zero_le _⟩) (fun r_1 hr_1 => ?_)
  have hr_1 : r_1 = (if xhas (nI kg) gz then nI 1 else nI 0) := hr_1
  obtain rfl : r_1 = nI 1 := hr_1.trans (if_pos (xhas_of hk (by omega)))
  refine xr_ifn1 (tgt := 10) hx hb (by decide) dX9_recall_5 (by decide) ?_
  refine lv_aload_n hx hb dX9_recall_10 rfl (lv_at hl 0 rfl) ?_
  refine va_get (D := (dC, dI)) (ci := 9) (v := .ref o0) (C := RX9) (T := TX9) (N := 9) hx hb hts i_X9 hown hK hP 0 rfl rfl 0 (by decide) k_12 (fun _ h9 => h9) rfl dX9_recall_11 ?_
  refine va_get (D := (dC, dI)) (ci := 8) (v := .ref o6) (C := RX8) (T := TX8) (N := 8) hx hb hts i_X8 hown hK hP 1 rfl rfl 1 (by decide) k_129 (fun _ h9 => h9) rfl dX9_recall_14 ?_
  refine lv_aload_n hx hb dX9_recall_17 rfl (lv_at hl 0 rfl) ?_
  refine va_get (D := (dC, dI)) (ci := 9) (v := .ref o0) (C := RX9) (T := TX9) (N := 9) hx hb hts i_X9 hown hK hP 0 rfl rfl 0 (by decide) k_12 (fun _ h9 => h9) rfl dX9_recall_18 ?_
  refine va_get (D := (dC, dI)) (ci := 8) (v := .ref o6) (C := RX8) (T := TX8) (N := 8) hx hb hts i_X8 hown hK hP 1 rfl rfl 1 (by decide) k_129 (fun _ h9 => h9) rfl dX9_recall_21 ?_
  refine va_get (D := (dC, dI)) (ci := 0) (v := .ref o10) (C := RX0) (T := TX0) (N := 9) hx hb hts i_X0 hown hK hP 3 rfl rfl 4 (by decide) k_192 (fun _ h9 => h9) rfl dX9_recall_24 ?_
  refine lv_iload_n hx hb dX9_recall_27 rfl (lv_at hl 1 rfl) ?_
  refine xkRi (xV (As := [.ref o10, .int (nI kg)]) (rest := []) (wc := [(o6, .inr (0, [.int (nI bz), .ref o7, o6_came, o6_left, .ref o10, o6_sold, o6_given, o6_cents, o6_wasted])), (o10, .inl (cI, 40, .inl shelf)), (o7, .inl (cI, 40, .inl good))]) hx hb hml hown hts (c_X0_sumOfGood l dC dI cI cF cC cZ cQ cS o6 o7 o6_came o6_left (.ref o10) o6_sold o6_given o6_cents o6_wasted o10 shelf good bz (nI kg) (by omega)) 2 gX9_recall_X0_sumOfGood rfl rfl rfl hdV_X0_sumOfGood ⟨Nat.le_of_ble_eq_true rfl, Nat.le_of_ble_eq_true rfl⟩ hN hK hP hD [3, 4, 5] rfl rfl 0 3 rfl rfl rfl hl.1 rfl (Nat.le_of_ble_eq_true rfl) dX9_recall_28 ⟨Nat.zero_le _, Nat.zero_le _⟩) (fun r_2 hr_2 => ?_)
  obtain rfl : r_2 = xsumIf good (nI kg) shelf bz := hr_2
  refine lv_istore_n (lv' := [(2, .int (xsumIf good (nI kg) shelf bz)), (0, .ref x0), (1, .int (nI kg))]) hx hb dX9_recall_31 rfl hl (by decide) rfl (fun ls hl => ?_)
  refine lv_iload_n hx hb dX9_recall_32 rfl (lv_at hl 0 rfl) ?_
  refine lv_if_ne (tgt := 39) hx hb dX9_recall_33 (by decide) (fun c_3 => False.elim (by exact he (by unfold eRecall; rw [if_neg c_3]))) (fun c_3 => ?_)
  refine lv_bipush (v := (-5)) hx hb dX9_recall_36 (by decide) ?_
  exact W.iret (v := (-5)) hx hb hr (fun t ht hW => ⟨_, rfl, (show (-5) = eRecall (xsumIf good (nI kg) shelf bz) from (by unfold eRecall; rw [if_pos c_3])), ht⟩) (fun q h => by cases h) dX9_recall_38
set_option maxHeartbeats 4000000 in
set_option maxRecDepth 100000 in
theorem c_X10_recalle (l : Launch) (dC : Nat → ClassId) (dI : Nat → Nat → Nat) (cI cF cC cZ cQ cS : ClassId) (h0 : Nat) (zq : Nat) (h0_past : Value) (h0_kept : Value) (h0_spare : Value) (h0_pastMany : Value) (h0_isKept : Value) (h0_text : Value) (h0_typed : Value) (h0_isUsed : Value) (h0_planBatch : Value) (h0_planUnits : Value) (h0_planCents : Value) (h0_planMany : Value) (h0_planGot : Value) (h0_planSubstitutes : Value) (h0_at : Value) (h0_fault : Value) (h0_entries : Value) (h0_entry : Value) (z : Nat → Int32) (gz : Nat) (kg : Nat) (bz : Nat) (hz1 : z 1 = nI gz) (hgz : gz ≤ 12) (hk : kg < gz) (hz2 : z 2 = nI bz) (hbz : bz ≤ 40) (he : ¬ eRecall (zsumIf z 3 (nI kg) bz) = nI 0) : Met l yX10_recall wsX10_recall ({ frames := 2, cells := 0, slots := 0, locals := 45 }) (xPre (dC, dI) vwCl [.ref h0, .int (nI kg)] (xtys cI cF cC cZ cQ cS) [(h0, .inr (10, [.ref zq, h0_past, h0_kept, h0_spare, h0_pastMany, h0_isKept, h0_text, h0_typed, h0_isUsed, h0_planBatch, h0_planUnits, h0_planCents, h0_planMany, h0_planGot, h0_planSubstitutes, h0_at, h0_fault, h0_entries, h0_entry])), (zq, .inl (cI, 1002, .inl z))]) (vp_Si (fun r0 => r0 = eRecall (zsumIf z 3 (nI kg) bz))) 0 0 (fun _ => False) := by
  refine Met.ofW (cc := cX10_recall) (maxL := 4) (ret := (some .int)) (by decide) rfl ?_
  intro p e s m args below meth c s₁ B hml hv
  obtain ⟨rfl, hP, hK, hD0, hN⟩ := hv
  have hx := B.exec
  have hb := B.bytes
  have hr := B.returns
  have hts := atoms_spec (ws := wsX10_recall) B.pre
  have hown : s.vm.findClass RX10 = some m.cls := findClass_of_methodNamed B.named
  have hlocks := B.notSynchronized
  have hD := hD0
  have hl := lv_entry ([.ref h0, .int (nI kg)]) (n := 4) (Nat.le_of_ble_eq_true rfl)
  rw [lg_entry_eq]
  generalize (lg_sl ([.ref h0, .int (nI kg)]) ++ List.replicate (4 - (lg_sl ([.ref h0, .int (nI kg)])).length) Slot.unset).toArray = ls at hl ⊢
  have hl : lv_has ls 4 [(0, .ref h0), (1, .int (nI kg))] := hl
  refine lv_aload_n hx hb dX10_recall_0 rfl (lv_at hl 0 rfl) ?_
  refine lv_iload_n hx hb dX10_recall_1 rfl (lv_at hl 1 rfl) ?_
  refine xkRi (xV (As := [.int (nI kg)]) (rest := []) (wc := [(h0, .inr (10, [.ref zq, h0_past, h0_kept, h0_spare, h0_pastMany, h0_isKept, h0_text, h0_typed, h0_isUsed, h0_planBatch, h0_planUnits, h0_planCents, h0_planMany, h0_planGot, h0_planSubstitutes, h0_at, h0_fault, h0_entries, h0_entry])), (zq, .inl (cI, 1002, .inl z))]) hx hb hml hown hts (c_X10_isGood l dC dI cI cF cC cZ cQ cS h0 zq h0_past h0_kept h0_spare h0_pastMany h0_isKept h0_text h0_typed h0_isUsed h0_planBatch h0_planUnits h0_planCents h0_planMany h0_planGot h0_planSubstitutes h0_at h0_fault h0_entries h0_entry z (nI kg) gz (by omega) (by omega)) 1 gX10_recall_X10_isGood rfl rfl rfl hdV_X10_isGood ⟨Nat.le_of_ble_eq_true rfl, Nat.le_of_ble_eq_true rfl⟩ hN hK hP hD [0, 1] rfl rfl 10 0 rfl rfl rfl hl.1 rfl (Nat.le_of_ble_eq_true rfl) dX10_recall_2 ⟨Nat.zero_le _, Nat.zero_le _⟩) (fun r_1 hr_1 => ?_)
  have hr_1 : r_1 = (if xhas (nI kg) gz then nI 1 else nI 0) := hr_1
  obtain rfl : r_1 = nI 1 := hr_1.trans (if_pos (xhas_of hk (by omega)))
  refine xr_ifn1 (tgt := 10) hx hb (by decide) dX10_recall_5 (by decide) ?_
  refine lv_aload_n hx hb dX10_recall_10 rfl (lv_at hl 0 rfl) ?_
  refine lv_iload_n hx hb dX10_recall_11 rfl (lv_at hl 1 rfl) ?_
  refine xkRi (xV (As := [.int (nI kg)]) (rest := []) (wc := [(h0, .inr (10, [.ref zq, h0_past, h0_kept, h0_spare, h0_pastMany, h0_isKept, h0_text, h0_typed, h0_isUsed, h0_planBatch, h0_planUnits, h0_planCents, h0_planMany, h0_planGot, h0_planSubstitutes, h0_at, h0_fault, h0_entries, h0_entry])), (zq, .inl (cI, 1002, .inl z))]) hx hb hml hown hts (c_X10_shelfOf l dC dI cI cF cC cZ cQ cS h0 zq h0_past h0_kept h0_spare h0_pastMany h0_isKept h0_text h0_typed h0_isUsed h0_planBatch h0_planUnits h0_planCents h0_planMany h0_planGot h0_planSubstitutes h0_at h0_fault h0_entries h0_entry z (nI kg) bz (by omega) (by omega)) 1 gX10_recall_X10_shelfOf rfl rfl rfl hdV_X10_shelfOf ⟨Nat.le_of_ble_eq_true rfl, Nat.le_of_ble_eq_true rfl⟩ hN hK hP hD [0, 1] rfl rfl 10 0 rfl rfl rfl hl.1 rfl (Nat.le_of_ble_eq_true rfl) dX10_recall_12 ⟨Nat.zero_le _, Nat.zero_le _⟩) (fun r_2 hr_2 => ?_)
  obtain rfl : r_2 = zsumIf z 3 (nI kg) bz := hr_2
  refine lv_istore_n (lv' := [(2, .int (zsumIf z 3 (nI kg) bz)), (0, .ref h0), (1, .int (nI kg))]) hx hb dX10_recall_15 rfl hl (by decide) rfl (fun ls hl => ?_)
  refine lv_iload_n hx hb dX10_recall_16 rfl (lv_at hl 0 rfl) ?_
  refine lv_if_ne (tgt := 23) hx hb dX10_recall_17 (by decide) (fun c_3 => False.elim (by exact he (by unfold eRecall; rw [if_neg c_3]))) (fun c_3 => ?_)
  refine lv_bipush (v := (-5)) hx hb dX10_recall_20 (by decide) ?_
  exact W.iret (v := (-5)) hx hb hr (fun t ht hW => ⟨_, rfl, (show (-5) = eRecall (zsumIf z 3 (nI kg) bz) from (by unfold eRecall; rw [if_pos c_3])), ht⟩) (fun q h => by cases h) dX10_recall_22
