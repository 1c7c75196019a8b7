def zcntS (z : Nat → Int32) (sn : Nat) : Nat → Int32
  | 0 => nI 0
  | k + 1 => zcntS z sn k + (if ¬ zB z k 3 ≤ 0 ∧ zstg z k = sn then nI 1 else nI 0)
def zsumS (z : Nat → Int32) (sn : Nat) : Nat → Int32
  | 0 => nI 0
  | k + 1 => zsumS z sn k + (if ¬ zB z k 3 ≤ 0 ∧ zstg z k = sn then zB z k 3 else nI 0)
theorem xins_lt {f : Nat → Int32} {b n pl : Nat} {sb : Int32} {j : Nat} (h : j < b) : xins f b n pl sb j = f j := by
  unfold xins
  rw [if_neg (by omega), if_neg (by omega)]
set_option maxHeartbeats 4000000 in
set_option maxRecDepth 100000 in
theorem c_X9_addSubstituteb (l : Launch) (dC : Nat → ClassId) (dI : Nat → Nat → Nat) (cI cF cC cZ cQ cS : ClassId) (x0 : Nat) (o0 : Nat) (x0_snapshot : Value) (x0_trial : Value) (x0_history : Value) (x0_filling : Value) (x0_delivery : Value) (x0_text : Value) (x0_textLength : Value) (x0_hasSnapshot : Value) (o1 : Nat) (o0_batches : Value) (o0_orders : Value) (o0_stages : Value) (o0_log : Value) (o0_settings : Value) (o0_rebate : Value) (o0_day : Value) (gz : Nat) (o1_price : Value) (o1_life : Value) (o4 : Nat) (o5 : Nat) (listed : Nat → Int32) (list : Nat → Int32) (kg : Nat) (ks : Nat) (lm : Nat) (pq : Int32) (hgz : gz ≤ 12) (hk : kg < gz) (hks : ks < gz) (hls : listed kg = nI lm) (hl4 : lm ≤ 4) (hbad : kg = ks ∨ ¬ (nI 0 ≤ pq ∧ pq ≤ nI lm)) : Met l yX9_addSubstitute wsX9_addSubstitute ({ frames := 2, cells := 0, slots := 0, locals := 43 }) (xPre (dC, dI) vwCl [.ref x0, .int (nI kg), .int (nI ks), .int pq] (xtys cI cF cC cZ cQ cS) [(x0, .inr (9, [.ref o0, x0_snapshot, x0_trial, x0_history, x0_filling, x0_delivery, x0_text, x0_textLength, x0_hasSnapshot])), (o0, .inr (8, [.ref o1, o0_batches, o0_orders, o0_stages, o0_log, o0_settings, o0_rebate, o0_day])), (o1, .inr (3, [.int (nI gz), o1_price, o1_life, .ref o4, .ref o5])), (o4, .inl (cI, 12, .inl listed)), (o5, .inl (cI, 48, .inl list))]) (vp_Si (fun r0 => r0 = (-2))) 0 0 (fun _ => False) := by
  refine Met.ofW (cc := cX9_addSubstitute) (maxL := 5) (ret := (some .int)) (by decide) rfl ?_
  intro p e s m args below meth c s₁ B hml hv
  obtain ⟨rfl, hP, hK, hD0, hN⟩ := hv
  have hx := B.exec
  have hb := B.bytes
  have hr := B.returns
  have hts := atoms_spec (ws := wsX9_addSubstitute) B.pre
  have hown : s.vm.findClass RX9 = some m.cls := findClass_of_methodNamed B.named
  have hlocks := B.notSynchronized
  have k_12 := hts (Cond.fieldLink RX9 12 "ShelfStages" "now" "LShelfStages$State;") (by decide +kernel)
  have k_51 := hts (Cond.fieldLink RX9 51 "ShelfStages$State" "goods" "LShelfStages$Goods;") (by decide +kernel)
  have k_77 := hts (Cond.fieldLink RX9 77 "ShelfStages$Goods" "listed" "[I") (by decide +kernel)
  have i_X3 : ∀ w ∈ wsX30, w ∈ wsX9_addSubstitute := by decide +kernel
  have i_X8 : ∀ w ∈ wsX80, w ∈ wsX9_addSubstitute := by decide +kernel
  have i_X9 : ∀ w ∈ wsX90, w ∈ wsX9_addSubstitute := by decide +kernel
  have hD := hD0
  have hl := lv_entry ([.ref x0, .int (nI kg), .int (nI ks), .int pq]) (n := 5) (Nat.le_of_ble_eq_true rfl)
  rw [lg_entry_eq]
  generalize (lg_sl ([.ref x0, .int (nI kg), .int (nI ks), .int pq]) ++ List.replicate (5 - (lg_sl ([.ref x0, .int (nI kg), .int (nI ks), .int pq])).length) Slot.unset).toArray = ls at hl ⊢
  have hl : lv_has ls 5 [(0, .ref x0), (1, .int (nI kg)), (2, .int (nI ks)), (3, .int pq)] := hl
  refine lv_aload_n hx hb dX9_addSubstitute_0 rfl (lv_at hl 0 rfl) ?_
  refine lv_iload_n hx hb dX9_addSubstitute_1 rfl (lv_at hl 1 rfl) ?_
  refine xkRi (xV (As := [.int (nI kg)]) (rest := []) (wc := [(x0, .inr (9, [.ref o0, x0_snapshot, x0_trial, x0_history, x0_filling, x0_delivery, x0_text, x0_textLength, x0_hasSnapshot])), (o0, .inr (8, [.ref o1, o0_batches, o0_orders, o0_stages, o0_log, o0_settings, o0_rebate, o0_day])), (o1, .inr (3, [.int (nI gz), o1_price, o1_life, .ref o4, .ref o5]))]) hx hb hml hown hts (c_X9_hasGood l dC dI cI cF cC cZ cQ cS x0 o0 x0_snapshot x0_trial x0_history x0_filling x0_delivery x0_text x0_textLength x0_hasSnapshot o1 o0_batches o0_orders o0_stages o0_log o0_settings o0_rebate o0_day gz o1_price o1_life (.ref o4) (.ref o5) (nI kg) (by omega)) 1 gX9_addSubstitute_X9_hasGood rfl rfl rfl hdV_X9_hasGood ⟨Nat.le_of_ble_eq_true rfl, Nat.le_of_ble_eq_true rfl⟩ hN hK hP hD [0, 1, 2] rfl rfl 9 0 rfl rfl rfl hl.1 rfl (Nat.le_of_ble_eq_true rfl) dX9_addSubstitute_2 ⟨Nat.zero_le _, Nat.zero_le _⟩) (fun r_1 hr_1 => ?_)
  have hr_1 : r_1 = (if xhas (nI kg) gz then nI 1 else nI 0) := hr_1
  obtain rfl : r_1 = nI 1 := hr_1.trans (if_pos (xhas_of hk (by omega)))
  refine xr_if1 (tgt := 16) hx hb (by decide) dX9_addSubstitute_5 (by decide) ?_
  refine lv_aload_n hx hb dX9_addSubstitute_8 rfl (lv_at hl 0 rfl) ?_
  refine lv_iload_n hx hb dX9_addSubstitute_9 rfl (lv_at hl 2 rfl) ?_
  refine xkRi (xV (As := [.int (nI ks)]) (rest := []) (wc := [(x0, .inr (9, [.ref o0, x0_snapshot, x0_trial, x0_history, x0_filling, x0_delivery, x0_text, x0_textLength, x0_hasSnapshot])), (o0, .inr (8, [.ref o1, o0_batches, o0_orders, o0_stages, o0_log, o0_settings, o0_rebate, o0_day])), (o1, .inr (3, [.int (nI gz), o1_price, o1_life, .ref o4, .ref o5]))]) hx hb hml hown hts (c_X9_hasGood l dC dI cI cF cC cZ cQ cS x0 o0 x0_snapshot x0_trial x0_history x0_filling x0_delivery x0_text x0_textLength x0_hasSnapshot o1 o0_batches o0_orders o0_stages o0_log o0_settings o0_rebate o0_day gz o1_price o1_life (.ref o4) (.ref o5) (nI ks) (by omega)) 1 gX9_addSubstitute_X9_hasGood rfl rfl rfl hdV_X9_hasGood ⟨Nat.le_of_ble_eq_true rfl, Nat.le_of_ble_eq_true rfl⟩ hN hK hP hD [0, 1, 2] rfl rfl 9 0 rfl rfl rfl hl.1 rfl (Nat.le_of_ble_eq_true rfl) dX9_addSubstitute_10 ⟨Nat.zero_le _, Nat.zero_le _⟩) (fun r_2 hr_2 => ?_)
  have hr_2 : r_2 = (if xhas (nI ks) gz then nI 1 else nI 0) := hr_2
  obtain rfl : r_2 = nI 1 := hr_2.trans (if_pos (xhas_of hks (by omega)))
  refine xr_ifn1 (tgt := 18) hx hb (by decide) dX9_addSubstitute_13 (by decide) ?_
  refine lv_aload_n hx hb dX9_addSubstitute_18 rfl (lv_at hl 0 rfl) ?_
  refine va_get (D := (dC, dI)) (ci := 9) (v := .ref o0) (C := RX9) (T := TX9) (N := 9) hx hb hts i_X9 hown hK hP 0 rfl rfl 0 (by decide) k_12 (fun _ h9 => h9) rfl dX9_addSubstitute_19 ?_
  refine va_get (D := (dC, dI)) (ci := 8) (v := .ref o1) (C := RX8) (T := TX8) (N := 8) hx hb hts i_X8 hown hK hP 1 rfl rfl 0 (by decide) k_51 (fun _ h9 => h9) rfl dX9_addSubstitute_22 ?_
  refine lv_astore (lv' := [(4, .ref o1), (0, .ref x0), (1, .int (nI kg)), (2, .int (nI ks)), (3, .int pq)]) hx hb dX9_addSubstitute_25 hl (by decide) rfl (fun ls hl => ?_)
  refine lv_iload_n hx hb dX9_addSubstitute_27 rfl (lv_at hl 2 rfl) ?_
  refine lv_iload_n hx hb dX9_addSubstitute_28 rfl (lv_at hl 3 rfl) ?_
  refine xr_eq_n (tgt := 47) hx hb (by omega) (by omega) dX9_addSubstitute_29 (by decide) (fun c_3 => ?_) (fun c_3 => ?_)
  · skip
    refine lv_bipush (v := (-2)) hx hb dX9_addSubstitute_47 (by decide) ?_
    exact W.iret (v := (-2)) hx hb hr (fun t ht hW => ⟨_, rfl, (show (-2) = (-2) from rfl), ht⟩) (fun q h => by cases h) dX9_addSubstitute_49
  refine lv_iload_n hx hb dX9_addSubstitute_32 rfl (lv_at hl 4 rfl) ?_
  refine lv_iconst (v := nI 0) hx hb dX9_addSubstitute_33 (by decide) ?_
  refine lv_aload hx hb dX9_addSubstitute_34 (lv_at hl 0 rfl) ?_
  refine va_get (D := (dC, dI)) (ci := 3) (v := .ref o4) (C := RX3) (T := TX3) (N := 5) hx hb hts i_X3 hown hK hP 2 rfl rfl 3 (by decide) k_77 (fun _ h9 => h9) rfl dX9_addSubstitute_36 ?_
  refine lv_iload_n hx hb dX9_addSubstitute_39 rfl (lv_at hl 2 rfl) ?_
  refine xr_iald hx hb hK hP 3 0 rfl rfl (i := kg) (by omega) (by decide) dX9_addSubstitute_40 ?_
  refine xr_top (show listed kg = nI lm from hls) ?_
  refine xkRi (xSs (Ws' := ([] : List Cond)) (As := [.int pq, .int (nI 0), .int (nI lm)]) (rest := []) (wc := []) hx hb hml hown hts (c_X9_within l dC dI cI cF cC cZ cQ cS pq (nI 0) (nI lm)) 3 (fun hR => va_cwS 3 hts gX9_addSubstitute_X9_within rfl rfl rfl hdN_X9_within hR) ⟨Nat.le_of_ble_eq_true rfl, Nat.le_of_ble_eq_true rfl⟩ hN hK hP hD [] rfl rfl rfl hl.1 rfl (Nat.le_of_ble_eq_true rfl) dX9_addSubstitute_41 ⟨Nat.zero_le _, Nat.zero_le _⟩) (fun r_4 hr_4 => ?_)
  have hr_4 : r_4 = (if (nI 0) ≤ pq ∧ pq ≤ (nI lm) then nI 1 else nI 0) := hr_4
  rcases xi_ite inferInstance hr_4 with ⟨c_5, hr_4⟩ | ⟨c_5, hr_4⟩
  · subst hr_4
    refine xr_ifn1 (tgt := 50) hx hb (by decide) dX9_addSubstitute_44 (by decide) ?_
    exact (hbad.elim c_3 (fun q => q c_5)).elim
  subst hr_4
  refine xr_ifn0 (tgt := 50) hx hb (by decide) dX9_addSubstitute_44 (by decide) ?_
  refine lv_bipush (v := (-2)) hx hb dX9_addSubstitute_47 (by decide) ?_
  exact W.iret (v := (-2)) hx hb hr (fun t ht hW => ⟨_, rfl, (show (-2) = (-2) from rfl), ht⟩) (fun q h => by cases h) dX9_addSubstitute_49
set_option maxHeartbeats 4000000 in
set_option maxRecDepth 100000 in
theorem c_X9_addSubstituten (l : Launch) (dC : Nat → ClassId) (dI : Nat → Nat → Nat) (cI cF cC cZ cQ cS : ClassId) (x0 : Nat) (o0 : Nat) (x0_snapshot : Value) (x0_trial : Value) (x0_history : Value) (x0_filling : Value) (x0_delivery : Value) (x0_text : Value) (x0_textLength : Value) (x0_hasSnapshot : Value) (o1 : Nat) (o0_batches : Value) (o0_orders : Value) (o0_stages : Value) (o0_log : Value) (o0_settings : Value) (o0_rebate : Value) (o0_day : Value) (gz : Nat) (o1_price : Value) (o1_life : Value) (o4 : Nat) (o5 : Nat) (listed : Nat → Int32) (list : Nat → Int32) (kg : Nat) (ks : Nat) (lm : Nat) (pl : Nat) (hgz : gz ≤ 12) (hk : kg < gz) (hks : ks < gz) (hls : listed kg = nI lm) (hl4 : lm ≤ 4) (hkk : ¬ kg = ks) (hw : nI 0 ≤ nI pl ∧ nI pl ≤ nI lm) (hex : ∃ j, j < lm ∧ list (kg * 4 + j) = nI ks) : Met l yX9_addSubstitute wsX9_addSubstitute ({ frames := 2, cells := 0, slots := 0, locals := 45 }) (xPre (dC, dI) vwCl [.ref x0, .int (nI kg), .int (nI ks), .int (nI pl)] (xtys cI cF cC cZ cQ cS) [(x0, .inr (9, [.ref o0, x0_snapshot, x0_trial, x0_history, x0_filling, x0_delivery, x0_text, x0_textLength, x0_hasSnapshot])), (o0, .inr (8, [.ref o1, o0_batches, o0_orders, o0_stages, o0_log, o0_settings, o0_rebate, o0_day])), (o1, .inr (3, [.int (nI gz), o1_price, o1_life, .ref o4, .ref o5])), (o4, .inl (cI, 12, .inl listed)), (o5, .inl (cI, 48, .inl list))]) (vp_Si (fun r0 => r0 = (-4))) 0 0 (fun _ => False) := by
  refine Met.ofW (cc := cX9_addSubstitute) (maxL := 5) (ret := (some .int)) (by decide) rfl ?_
  intro p e s m args below meth c s₁ B hml hv
  obtain ⟨rfl, hP, hK, hD0, hN⟩ := hv
  have hx := B.exec
  have hb := B.bytes
  have hr := B.returns
  have hts := atoms_spec (ws := wsX9_addSubstitute) B.pre
  have hown : s.vm.findClass RX9 = some m.cls := findClass_of_methodNamed B.named
  have hlocks := B.notSynchronized
  have k_12 := hts (Cond.fieldLink RX9 12 "ShelfStages" "now" "LShelfStages$State;") (by decide +kernel)
  have k_51 := hts (Cond.fieldLink RX9 51 "ShelfStages$State" "goods" "LShelfStages$Goods;") (by decide +kernel)
  have k_77 := hts (Cond.fieldLink RX9 77 "ShelfStages$Goods" "listed" "[I") (by decide +kernel)
  have i_X3 : ∀ w ∈ wsX30, w ∈ wsX9_addSubstitute := by decide +kernel
  have i_X8 : ∀ w ∈ wsX80, w ∈ wsX9_addSubstitute := by decide +kernel
  have i_X9 : ∀ w ∈ wsX90, w ∈ wsX9_addSubstitute := by decide +kernel
  have hD := hD0
  have hl := lv_entry ([.ref x0, .int (nI kg), .int (nI ks), .int (nI pl)]) (n := 5) (Nat.le_of_ble_eq_true rfl)
  rw [lg_entry_eq]
  generalize (lg_sl ([.ref x0, .int (nI kg), .int (nI ks), .int (nI pl)]) ++ List.replicate (5 - (lg_sl ([.ref x0, .int (nI kg), .int (nI ks), .int (nI pl)])).length) Slot.unset).toArray = ls at hl ⊢
  have hl : lv_has ls 5 [(0, .ref x0), (1, .int (nI kg)), (2, .int (nI ks)), (3, .int (nI pl))] := hl
  refine lv_aload_n hx hb dX9_addSubstitute_0 rfl (lv_at hl 0 rfl) ?_
  refine lv_iload_n hx hb dX9_addSubstitute_1 rfl (lv_at hl 1 rfl) ?_
  refine xkRi (xV (As := [.int (nI kg)]) (rest := []) (wc := [(x0, .inr (9, [.ref o0, x0_snapshot, x0_trial, x0_history, x0_filling, x0_delivery, x0_text, x0_textLength, x0_hasSnapshot])), (o0, .inr (8, [.ref o1, o0_batches, o0_orders, o0_stages, o0_log, o0_settings, o0_rebate, o0_day])), (o1, .inr (3, [.int (nI gz), o1_price, o1_life, .ref o4, .ref o5]))]) hx hb hml hown hts (c_X9_hasGood l dC dI cI cF cC cZ cQ cS x0 o0 x0_snapshot x0_trial x0_history x0_filling x0_delivery x0_text x0_textLength x0_hasSnapshot o1 o0_batches o0_orders o0_stages o0_log o0_settings o0_rebate o0_day gz o1_price o1_life (.ref o4) (.ref o5) (nI kg) (by omega)) 1 gX9_addSubstitute_X9_hasGood rfl rfl rfl hdV_X9_hasGood ⟨Nat.le_of_ble_eq_true rfl, Nat.le_of_ble_eq_true rfl⟩ hN hK hP hD [0, 1, 2] rfl rfl 9 0 rfl rfl rfl hl.1 rfl (Nat.le_of_ble_eq_true rfl) dX9_addSubstitute_2 ⟨Nat.zero_le _, Nat.zero_le _⟩) (fun r_1 hr_1 => ?_)
  have hr_1 : r_1 = (if xhas (nI kg) gz then nI 1 else nI 0) := hr_1
  obtain rfl : r_1 = nI 1 := hr_1.trans (if_pos (xhas_of hk (by omega)))
  refine xr_if1 (tgt := 16) hx hb (by decide) dX9_addSubstitute_5 (by decide) ?_
  refine lv_aload_n hx hb dX9_addSubstitute_8 rfl (lv_at hl 0 rfl) ?_
  refine lv_iload_n hx hb dX9_addSubstitute_9 rfl (lv_at hl 2 rfl) ?_
  refine xkRi (xV (As := [.int (nI ks)]) (rest := []) (wc := [(x0, .inr (9, [.ref o0, x0_snapshot, x0_trial, x0_history, x0_filling, x0_delivery, x0_text, x0_textLength, x0_hasSnapshot])), (o0, .inr (8, [.ref o1, o0_batches, o0_orders, o0_stages, o0_log, o0_settings, o0_rebate, o0_day])), (o1, .inr (3, [.int (nI gz), o1_price, o1_life, .ref o4, .ref o5]))]) hx hb hml hown hts (c_X9_hasGood l dC dI cI cF cC cZ cQ cS x0 o0 x0_snapshot x0_trial x0_history x0_filling x0_delivery x0_text x0_textLength x0_hasSnapshot o1 o0_batches o0_orders o0_stages o0_log o0_settings o0_rebate o0_day gz o1_price o1_life (.ref o4) (.ref o5) (nI ks) (by omega)) 1 gX9_addSubstitute_X9_hasGood rfl rfl rfl hdV_X9_hasGood ⟨Nat.le_of_ble_eq_true rfl, Nat.le_of_ble_eq_true rfl⟩ hN hK hP hD [0, 1, 2] rfl rfl 9 0 rfl rfl rfl hl.1 rfl (Nat.le_of_ble_eq_true rfl) dX9_addSubstitute_10 ⟨Nat.zero_le _, Nat.zero_le _⟩) (fun r_2 hr_2 => ?_)
  have hr_2 : r_2 = (if xhas (nI ks) gz then nI 1 else nI 0) := hr_2
  obtain rfl : r_2 = nI 1 := hr_2.trans (if_pos (xhas_of hks (by omega)))
  refine xr_ifn1 (tgt := 18) hx hb (by decide) dX9_addSubstitute_13 (by decide) ?_
  refine lv_aload_n hx hb dX9_addSubstitute_18 rfl (lv_at hl 0 rfl) ?_
  refine va_get (D := (dC, dI)) (ci := 9) (v := .ref o0) (C := RX9) (T := TX9) (N := 9) hx hb hts i_X9 hown hK hP 0 rfl rfl 0 (by decide) k_12 (fun _ h9 => h9) rfl dX9_addSubstitute_19 ?_
  refine va_get (D := (dC, dI)) (ci := 8) (v := .ref o1) (C := RX8) (T := TX8) (N := 8) hx hb hts i_X8 hown hK hP 1 rfl rfl 0 (by decide) k_51 (fun _ h9 => h9) rfl dX9_addSubstitute_22 ?_
  refine lv_astore (lv' := [(4, .ref o1), (0, .ref x0), (1, .int (nI kg)), (2, .int (nI ks)), (3, .int (nI pl))]) hx hb dX9_addSubstitute_25 hl (by decide) rfl (fun ls hl => ?_)
  refine lv_iload_n hx hb dX9_addSubstitute_27 rfl (lv_at hl 2 rfl) ?_
  refine lv_iload_n hx hb dX9_addSubstitute_28 rfl (lv_at hl 3 rfl) ?_
  refine xr_eq_n (tgt := 47) hx hb (by omega) (by omega) dX9_addSubstitute_29 (by decide) (fun c_3 => False.elim (by omega)) (fun c_3 => ?_)
  refine lv_iload_n hx hb dX9_addSubstitute_32 rfl (lv_at hl 4 rfl) ?_
  refine lv_iconst (v := nI 0) hx hb dX9_addSubstitute_33 (by decide) ?_
  refine lv_aload hx hb dX9_addSubstitute_34 (lv_at hl 0 rfl) ?_
  refine va_get (D := (dC, dI)) (ci := 3) (v := .ref o4) (C := RX3) (T := TX3) (N := 5) hx hb hts i_X3 hown hK hP 2 rfl rfl 3 (by decide) k_77 (fun _ h9 => h9) rfl dX9_addSubstitute_36 ?_
  refine lv_iload_n hx hb dX9_addSubstitute_39 rfl (lv_at hl 2 rfl) ?_
  refine xr_iald hx hb hK hP 3 0 rfl rfl (i := kg) (by omega) (by decide) dX9_addSubstitute_40 ?_
  refine xr_top (show listed kg = nI lm from hls) ?_
  refine xkRi (xSs (Ws' := ([] : List Cond)) (As := [.int (nI pl), .int (nI 0), .int (nI lm)]) (rest := []) (wc := []) hx hb hml hown hts (c_X9_within l dC dI cI cF cC cZ cQ cS (nI pl) (nI 0) (nI lm)) 3 (fun hR => va_cwS 3 hts gX9_addSubstitute_X9_within rfl rfl rfl hdN_X9_within hR) ⟨Nat.le_of_ble_eq_true rfl, Nat.le_of_ble_eq_true rfl⟩ hN hK hP hD [] rfl rfl rfl hl.1 rfl (Nat.le_of_ble_eq_true rfl) dX9_addSubstitute_41 ⟨Nat.zero_le _, Nat.zero_le _⟩) (fun r_4 hr_4 => ?_)
  have hr_4 : r_4 = (if (nI 0) ≤ (nI pl) ∧ (nI pl) ≤ (nI lm) then nI 1 else nI 0) := hr_4
  obtain rfl : r_4 = nI 1 := hr_4.trans (if_pos hw)
  refine xr_ifn1 (tgt := 50) hx hb (by decide) dX9_addSubstitute_44 (by decide) ?_
  refine lv_aload hx hb dX9_addSubstitute_50 (lv_at hl 0 rfl) ?_
  refine lv_iload_n hx hb dX9_addSubstitute_52 rfl (lv_at hl 2 rfl) ?_
  refine lv_iload_n hx hb dX9_addSubstitute_53 rfl (lv_at hl 3 rfl) ?_
  refine xkRi (xV (As := [.int (nI kg), .int (nI ks)]) (rest := []) (wc := [(o1, .inr (3, [.int (nI gz), o1_price, o1_life, .ref o4, .ref o5])), (o4, .inl (cI, 12, .inl listed)), (o5, .inl (cI, 48, .inl list))]) hx hb hml hown hts (c_X3_lists l dC dI cI cF cC cZ cQ cS o1 (.int (nI gz)) o1_price o1_life o4 o5 listed list kg lm (nI ks) (by omega) hls hl4) 2 gX9_addSubstitute_X3_lists rfl rfl rfl hdV_X3_lists ⟨Nat.le_of_ble_eq_true rfl, Nat.le_of_ble_eq_true rfl⟩ hN hK hP hD [2, 3, 4] rfl rfl 3 2 rfl rfl rfl hl.1 rfl (Nat.le_of_ble_eq_true rfl) dX9_addSubstitute_54 ⟨Nat.zero_le _, Nat.zero_le _⟩) (fun r_5 hr_5 => ?_)
  have hr_5 : r_5 = (if ∃ j, j < lm ∧ list (kg * 4 + j) = (nI ks) then nI 1 else nI 0) := hr_5
  obtain rfl : r_5 = nI 1 := hr_5.trans (if_pos hex)
  refine xr_if1 (tgt := 63) hx hb (by decide) dX9_addSubstitute_57 (by decide) ?_
  refine lv_bipush (v := (-4)) hx hb dX9_addSubstitute_60 (by decide) ?_
  exact W.iret (v := (-4)) hx hb hr (fun t ht hW => ⟨_, rfl, (show (-4) = (-4) from rfl), ht⟩) (fun q h => by cases h) dX9_addSubstitute_62
set_option maxHeartbeats 4000000 in
set_option maxRecDepth 100000 in
theorem c_X9_addSubstitutef (l : Launch) (dC : Nat → ClassId) (dI : Nat → Nat → Nat) (cI cF cC cZ cQ cS : ClassId) (x0 : Nat) (o0 : Nat) (x0_snapshot : Value) (x0_trial : Value) (x0_history : Value) (x0_filling : Value) (x0_delivery : Value) (x0_text : Value) (x0_textLength : Value) (x0_hasSnapshot : Value) (o1 : Nat) (o0_batches : Value) (o0_orders : Value) (o0_stages : Value) (o0_log : Value) (o0_settings : Value) (o0_rebate : Value) (o0_day : Value) (gz : Nat) (o1_price : Value) (o1_life : Value) (o4 : Nat) (o5 : Nat) (listed : Nat → Int32) (list : Nat → Int32) (kg : Nat) (ks : Nat) (lm : Nat) (pl : Nat) (hgz : gz ≤ 12) (hk : kg < gz) (hks : ks < gz) (hls : listed kg = nI lm) (hl4 : lm ≤ 4) (hkk : ¬ kg = ks) (hw : nI 0 ≤ nI pl ∧ nI pl ≤ nI lm) (hex : ¬ (∃ j, j < lm ∧ list (kg * 4 + j) = nI ks)) (hf4 : lm = 4) : Met l yX9_addSubstitute wsX9_addSubstitute ({ frames := 2, cells := 0, slots := 0, locals := 45 }) (xPre (dC, dI) vwCl [.ref x0, .int (nI kg), .int (nI ks), .int (nI pl)] (xtys cI cF cC cZ cQ cS) [(x0, .inr (9, [.ref o0, x0_snapshot, x0_trial, x0_history, x0_filling, x0_delivery, x0_text, x0_textLength, x0_hasSnapshot])), (o0, .inr (8, [.ref o1, o0_batches, o0_orders, o0_stages, o0_log, o0_settings, o0_rebate, o0_day])), (o1, .inr (3, [.int (nI gz), o1_price, o1_life, .ref o4, .ref o5])), (o4, .inl (cI, 12, .inl listed)), (o5, .inl (cI, 48, .inl list))]) (vp_Si (fun r0 => r0 = (-3))) 0 0 (fun _ => False) := by
  refine Met.ofW (cc := cX9_addSubstitute) (maxL := 5) (ret := (some .int)) (by decide) rfl ?_
  intro p e s m args below meth c s₁ B hml hv
  obtain ⟨rfl, hP, hK, hD0, hN⟩ := hv
  have hx := B.exec
  have hb := B.bytes
  have hr := B.returns
  have hts := atoms_spec (ws := wsX9_addSubstitute) B.pre
  have hown : s.vm.findClass RX9 = some m.cls := findClass_of_methodNamed B.named
  have hlocks := B.notSynchronized
  have k_12 := hts (Cond.fieldLink RX9 12 "ShelfStages" "now" "LShelfStages$State;") (by decide +kernel)
  have k_51 := hts (Cond.fieldLink RX9 51 "ShelfStages$State" "goods" "LShelfStages$Goods;") (by decide +kernel)
  have k_77 := hts (Cond.fieldLink RX9 77 "ShelfStages$Goods" "listed" "[I") (by decide +kernel)
  have i_X3 : ∀ w ∈ wsX30, w ∈ wsX9_addSubstitute := by decide +kernel
  have i_X8 : ∀ w ∈ wsX80, w ∈ wsX9_addSubstitute := by decide +kernel
  have i_X9 : ∀ w ∈ wsX90, w ∈ wsX9_addSubstitute := by decide +kernel
  have hD := hD0
  have hl := lv_entry ([.ref x0, .int (nI kg), .int (nI ks), .int (nI pl)]) (n := 5) (Nat.le_of_ble_eq_true rfl)
  rw [lg_entry_eq]
  generalize (lg_sl ([.ref x0, .int (nI kg), .int (nI ks), .int (nI pl)]) ++ List.replicate (5 - (lg_sl ([.ref x0, .int (nI kg), .int (nI ks), .int (nI pl)])).length) Slot.unset).toArray = ls at hl ⊢
  have hl : lv_has ls 5 [(0, .ref x0), (1, .int (nI kg)), (2, .int (nI ks)), (3, .int (nI pl))] := hl
  refine lv_aload_n hx hb dX9_addSubstitute_0 rfl (lv_at hl 0 rfl) ?_
  refine lv_iload_n hx hb dX9_addSubstitute_1 rfl (lv_at hl 1 rfl) ?_
  refine xkRi (xV (As := [.int (nI kg)]) (rest := []) (wc := [(x0, .inr (9, [.ref o0, x0_snapshot, x0_trial, x0_history, x0_filling, x0_delivery, x0_text, x0_textLength, x0_hasSnapshot])), (o0, .inr (8, [.ref o1, o0_batches, o0_orders, o0_stages, o0_log, o0_settings, o0_rebate, o0_day])), (o1, .inr (3, [.int (nI gz), o1_price, o1_life, .ref o4, .ref o5]))]) hx hb hml hown hts (c_X9_hasGood l dC dI cI cF cC cZ cQ cS x0 o0 x0_snapshot x0_trial x0_history x0_filling x0_delivery x0_text x0_textLength x0_hasSnapshot o1 o0_batches o0_orders o0_stages o0_log o0_settings o0_rebate o0_day gz o1_price o1_life (.ref o4) (.ref o5) (nI kg) (by omega)) 1 gX9_addSubstitute_X9_hasGood rfl rfl rfl hdV_X9_hasGood ⟨Nat.le_of_ble_eq_true rfl, Nat.le_of_ble_eq_true rfl⟩ hN hK hP hD [0, 1, 2] rfl rfl 9 0 rfl rfl rfl hl.1 rfl (Nat.le_of_ble_eq_true rfl) dX9_addSubstitute_2 ⟨Nat.zero_le _, Nat.zero_le _⟩) (fun r_1 hr_1 => ?_)
  have hr_1 : r_1 = (if xhas (nI kg) gz then nI 1 else nI 0) := hr_1
  obtain rfl : r_1 = nI 1 := hr_1.trans (if_pos (xhas_of hk (by omega)))
  refine xr_if1 (tgt := 16) hx hb (by decide) dX9_addSubstitute_5 (by decide) ?_
  refine lv_aload_n hx hb dX9_addSubstitute_8 rfl (lv_at hl 0 rfl) ?_
  refine lv_iload_n hx hb dX9_addSubstitute_9 rfl (lv_at hl 2 rfl) ?_
  refine xkRi (xV (As := [.int (nI ks)]) (rest := []) (wc := [(x0, .inr (9, [.ref o0, x0_snapshot, x0_trial, x0_history, x0_filling, x0_delivery, x0_text, x0_textLength, x0_hasSnapshot])), (o0, .inr (8, [.ref o1, o0_batches, o0_orders, o0_stages, o0_log, o0_settings, o0_rebate, o0_day])), (o1, .inr (3, [.int (nI gz), o1_price, o1_life, .ref o4, .ref o5]))]) hx hb hml hown hts (c_X9_hasGood l dC dI cI cF cC cZ cQ cS x0 o0 x0_snapshot x0_trial x0_history x0_filling x0_delivery x0_text x0_textLength x0_hasSnapshot o1 o0_batches o0_orders o0_stages o0_log o0_settings o0_rebate o0_day gz o1_price o1_life (.ref o4) (.ref o5) (nI ks) (by omega)) 1 gX9_addSubstitute_X9_hasGood rfl rfl rfl hdV_X9_hasGood ⟨Nat.le_of_ble_eq_true rfl, Nat.le_of_ble_eq_true rfl⟩ hN hK hP hD [0, 1, 2] rfl rfl 9 0 rfl rfl rfl hl.1 rfl (Nat.le_of_ble_eq_true rfl) dX9_addSubstitute_10 ⟨Nat.zero_le _, Nat.zero_le _⟩) (fun r_2 hr_2 => ?_)
  have hr_2 : r_2 = (if xhas (nI ks) gz then nI 1 else nI 0) := hr_2
  obtain rfl : r_2 = nI 1 := hr_2.trans (if_pos (xhas_of hks (by omega)))
  refine xr_ifn1 (tgt := 18) hx hb (by decide) dX9_addSubstitute_13 (by decide) ?_
  refine lv_aload_n hx hb dX9_addSubstitute_18 rfl (lv_at hl 0 rfl) ?_
  refine va_get (D := (dC, dI)) (ci := 9) (v := .ref o0) (C := RX9) (T := TX9) (N := 9) hx hb hts i_X9 hown hK hP 0 rfl rfl 0 (by decide) k_12 (fun _ h9 => h9) rfl dX9_addSubstitute_19 ?_
  refine va_get (D := (dC, dI)) (ci := 8) (v := .ref o1) (C := RX8) (T := TX8) (N := 8) hx hb hts i_X8 hown hK hP 1 rfl rfl 0 (by decide) k_51 (fun _ h9 => h9) rfl dX9_addSubstitute_22 ?_
  refine lv_astore (lv' := [(4, .ref o1), (0, .ref x0), (1, .int (nI kg)), (2, .int (nI ks)), (3, .int (nI pl))]) hx hb dX9_addSubstitute_25 hl (by decide) rfl (fun ls hl => ?_)
  refine lv_iload_n hx hb dX9_addSubstitute_27 rfl (lv_at hl 2 rfl) ?_
  refine lv_iload_n hx hb dX9_addSubstitute_28 rfl (lv_at hl 3 rfl) ?_
  refine xr_eq_n (tgt := 47) hx hb (by omega) (by omega) dX9_addSubstitute_29 (by decide) (fun c_3 => False.elim (by omega)) (fun c_3 => ?_)
  refine lv_iload_n hx hb dX9_addSubstitute_32 rfl (lv_at hl 4 rfl) ?_
  refine lv_iconst (v := nI 0) hx hb dX9_addSubstitute_33 (by decide) ?_
  refine lv_aload hx hb dX9_addSubstitute_34 (lv_at hl 0 rfl) ?_
  refine va_get (D := (dC, dI)) (ci := 3) (v := .ref o4) (C := RX3) (T := TX3) (N := 5) hx hb hts i_X3 hown hK hP 2 rfl rfl 3 (by decide) k_77 (fun _ h9 => h9) rfl dX9_addSubstitute_36 ?_
  refine lv_iload_n hx hb dX9_addSubstitute_39 rfl (lv_at hl 2 rfl) ?_
  refine xr_iald hx hb hK hP 3 0 rfl rfl (i := kg) (by omega) (by decide) dX9_addSubstitute_40 ?_
  refine xr_top (show listed kg = nI lm from hls) ?_
  refine xkRi (xSs (Ws' := ([] : List Cond)) (As := [.int (nI pl), .int (nI 0), .int (nI lm)]) (rest := []) (wc := []) hx hb hml hown hts (c_X9_within l dC dI cI cF cC cZ cQ cS (nI pl) (nI 0) (nI lm)) 3 (fun hR => va_cwS 3 hts gX9_addSubstitute_X9_within rfl rfl rfl hdN_X9_within hR) ⟨Nat.le_of_ble_eq_true rfl, Nat.le_of_ble_eq_true rfl⟩ hN hK hP hD [] rfl rfl rfl hl.1 rfl (Nat.le_of_ble_eq_true rfl) dX9_addSubstitute_41 ⟨Nat.zero_le _, Nat.zero_le _⟩) (fun r_4 hr_4 => ?_)
  have hr_4 : r_4 = (if (nI 0) ≤ (nI pl) ∧ (nI pl) ≤ (nI lm) then nI 1 else nI 0) := hr_4
  obtain rfl : r_4 = nI 1 := hr_4.trans (if_pos hw)
  refine xr_ifn1 (tgt := 50) hx hb (by decide) dX9_addSubstitute_44 (by decide) ?_
  refine lv_aload hx hb dX9_addSubstitute_50 (lv_at hl 0 rfl) ?_
  refine lv_iload_n hx hb dX9_addSubstitute_52 rfl (lv_at hl 2 rfl) ?_
  refine lv_iload_n hx hb dX9_addSubstitute_53 rfl (lv_at hl 3 rfl) ?_
  refine xkRi (xV (As := [.int (nI kg), .int (nI ks)]) (rest := []) (wc := [(o1, .inr (3, [.int (nI gz), o1_price, o1_life, .ref o4, .ref o5])), (o4, .inl (cI, 12, .inl listed)), (o5, .inl (cI, 48, .inl list))]) hx hb hml hown hts (c_X3_lists l dC dI cI cF cC cZ cQ cS o1 (.int (nI gz)) o1_price o1_life o4 o5 listed list kg lm (nI ks) (by omega) hls hl4) 2 gX9_addSubstitute_X3_lists rfl rfl rfl hdV_X3_lists ⟨Nat.le_of_ble_eq_true rfl, Nat.le_of_ble_eq_true rfl⟩ hN hK hP hD [2, 3, 4] rfl rfl 3 2 rfl rfl rfl hl.1 rfl (Nat.le_of_ble_eq_true rfl) dX9_addSubstitute_54 ⟨Nat.zero_le _, Nat.zero_le _⟩) (fun r_5 hr_5 => ?_)
  have hr_5 : r_5 = (if ∃ j, j < lm ∧ list (kg * 4 + j) = (nI ks) then nI 1 else nI 0) := hr_5
  obtain rfl : r_5 = nI 0 := hr_5.trans (if_neg hex)
  refine xr_if0 (tgt := 63) hx hb (by decide) dX9_addSubstitute_57 (by decide) ?_
  refine lv_aload hx hb dX9_addSubstitute_63 (lv_at hl 0 rfl) ?_
  refine va_get (D := (dC, dI)) (ci := 3) (v := .ref o4) (C := RX3) (T := TX3) (N := 5) hx hb hts i_X3 hown hK hP 2 rfl rfl 3 (by decide) k_77 (fun _ h9 => h9) rfl dX9_addSubstitute_65 ?_
  refine lv_iload_n hx hb dX9_addSubstitute_68 rfl (lv_at hl 2 rfl) ?_
  refine xr_iald hx hb hK hP 3 0 rfl rfl (i := kg) (by omega) (by decide) dX9_addSubstitute_69 ?_
  refine xr_top (show listed kg = nI lm from hls) ?_
  refine lv_iconst (v := nI 4) hx hb dX9_addSubstitute_70 (by decide) ?_
  refine xr_lt_n (tgt := 77) hx hb (by omega) (by omega) dX9_addSubstitute_71 (by decide) (fun c_6 => False.elim (by omega)) (fun c_6 => ?_)
  refine lv_bipush (v := (-3)) hx hb dX9_addSubstitute_74 (by decide) ?_
  exact W.iret (v := (-3)) hx hb hr (fun t ht hW => ⟨_, rfl, (show (-3) = (-3) from rfl), ht⟩) (fun q h => by cases h) dX9_addSubstitute_76