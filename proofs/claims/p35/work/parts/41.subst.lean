theorem hdV_X9_substitute : yX9_substitute.cls = RX9 ∧ yX9_substitute.cls ≠ "java/lang/invoke/MethodHandle" ∧ yX9_substitute.cls ≠ "java/lang/invoke/VarHandle" ∧ (parseMethodDescriptor yX9_substitute.desc).map (fun d => d.parameters.length) = some 2 := by decide +kernel
set_option maxHeartbeats 4000000 in
set_option maxRecDepth 100000 in
theorem c_X9_substituteu (l : Launch) (dC : Nat → ClassId) (dI : Nat → Nat → Nat) (cI cF cC cZ cQ cS : ClassId) (x0 : Nat) (o0 : Nat) (x0_snapshot : Value) (x0_trial : Value) (x0_history : Value) (x0_filling : Value) (x0_delivery : Value) (x0_text : Value) (x0_textLength : Value) (x0_hasSnapshot : Value) (o1 : Nat) (o0_batches : Value) (o0_orders : Value) (o0_stages : Value) (o0_log : Value) (o0_settings : Value) (o0_rebate : Value) (o0_day : Value) (gz : Nat) (o1_price : Value) (o1_life : Value) (o4 : Nat) (o1_list : Value) (listed : Nat → Int32) (gq : Int32) (v : Int32) (hgz : gz ≤ 12) (hg : ¬ xhas gq gz) : Met l yX9_substitute wsX9_substitute ({ frames := 3, cells := 0, slots := 0, locals := 65 }) (xPre (dC, dI) vwCl [.ref x0, .int gq, .int v] (xtys cI cF cC cZ cQ cS) [(x0, .inr (9, [.ref o0, x0_snapshot, x0_trial, x0_history, x0_filling, x0_delivery, x0_text, x0_textLength, x0_hasSnapshot])), (o0, .inr (8, [.ref o1, o0_batches, o0_orders, o0_stages, o0_log, o0_settings, o0_rebate, o0_day])), (o1, .inr (3, [.int (nI gz), o1_price, o1_life, .ref o4, o1_list])), (o4, .inl (cI, 12, .inl listed))]) (vp_Si (fun r0 => r0 = (-1))) 0 0 (fun _ => False) := by
  refine Met.ofW (cc := cX9_substitute) (maxL := 4) (ret := (some .int)) (by decide) rfl ?_
  intro p e s m args below meth c s₁ B hml hv
  obtain ⟨rfl, hP, hK, hD0, hN⟩ := hv
  have hx := B.exec
  have hb := B.bytes
  have hr := B.returns
  have hts := atoms_spec (ws := wsX9_substitute) B.pre
  have hown : s.vm.findClass RX9 = some m.cls := findClass_of_methodNamed B.named
  have hlocks := B.notSynchronized
  have hD := hD0
  have hl := lv_entry ([.ref x0, .int gq, .int v]) (n := 4) (Nat.le_of_ble_eq_true rfl)
  rw [lg_entry_eq]
  generalize (lg_sl ([.ref x0, .int gq, .int v]) ++ List.replicate (4 - (lg_sl ([.ref x0, .int gq, .int v])).length) Slot.unset).toArray = ls at hl ⊢
  have hl : lv_has ls 4 [(0, .ref x0), (1, .int gq), (2, .int v)] := hl
  refine lv_aload_n hx hb dX9_substitute_0 rfl (lv_at hl 0 rfl) ?_
  refine lv_iload_n hx hb dX9_substitute_1 rfl (lv_at hl 1 rfl) ?_
  refine lv_iload_n hx hb dX9_substitute_2 rfl (lv_at hl 2 rfl) ?_
  refine xkRi (xV (As := [.int gq, .int v]) (rest := []) (wc := [(x0, .inr (9, [.ref o0, x0_snapshot, x0_trial, x0_history, x0_filling, x0_delivery, x0_text, x0_textLength, x0_hasSnapshot])), (o0, .inr (8, [.ref o1, o0_batches, o0_orders, o0_stages, o0_log, o0_settings, o0_rebate, o0_day])), (o1, .inr (3, [.int (nI gz), o1_price, o1_life, .ref o4, o1_list])), (o4, .inl (cI, 12, .inl listed))]) hx hb hml hown hts (c_X9_placeError l dC dI cI cF cC cZ cQ cS x0 o0 x0_snapshot x0_trial x0_history x0_filling x0_delivery x0_text x0_textLength x0_hasSnapshot o1 o0_batches o0_orders o0_stages o0_log o0_settings o0_rebate o0_day gz o1_price o1_life o4 o1_list listed gq v (by omega)) 2 gX9_substitute_X9_placeError rfl rfl rfl hdV_X9_placeError ⟨Nat.le_of_ble_eq_true rfl, Nat.le_of_ble_eq_true rfl⟩ hN hK hP hD [0, 1, 2, 3] rfl rfl 9 0 rfl rfl rfl hl.1 rfl (Nat.le_of_ble_eq_true rfl) dX9_substitute_3 ⟨Nat.zero_le _, Nat.zero_le _⟩) (fun r_1 hr_1 => ?_)
  obtain rfl : r_1 = xplerr gq v gz listed := hr_1
  refine xr_top (show xplerr gq v gz listed = (-1) from (xpl_unknown hg)) ?_
  refine lv_istore_n (lv' := [(3, .int (-1)), (0, .ref x0), (1, .int gq), (2, .int v)]) hx hb dX9_substitute_6 rfl hl (by decide) rfl (fun ls hl => ?_)
  refine lv_iload_n hx hb dX9_substitute_7 rfl (lv_at hl 0 rfl) ?_
  refine lv_if_eq (tgt := 13) hx hb dX9_substitute_8 (by decide) (fun c_2 => False.elim (by exact absurd c_2 (by decide))) (fun c_2 => ?_)
  refine lv_iload_n hx hb dX9_substitute_11 rfl (lv_at hl 0 rfl) ?_
  exact W.iret (v := (-1)) hx hb hr (fun t ht hW => ⟨_, rfl, (show (-1) = (-1) from rfl), ht⟩) (fun q h => by cases h) dX9_substitute_12
set_option maxHeartbeats 4000000 in
set_option maxRecDepth 100000 in
theorem c_X9_substitutee (l : Launch) (dC : Nat → ClassId) (dI : Nat → Nat → Nat) (cI cF cC cZ cQ cS : ClassId) (x0 : Nat) (o0 : Nat) (x0_snapshot : Value) (x0_trial : Value) (x0_history : Value) (x0_filling : Value) (x0_delivery : Value) (x0_text : Value) (x0_textLength : Value) (x0_hasSnapshot : Value) (o1 : Nat) (o0_batches : Value) (o0_orders : Value) (o0_stages : Value) (o0_log : Value) (o0_settings : Value) (o0_rebate : Value) (o0_day : Value) (gz : Nat) (o1_price : Value) (o1_life : Value) (o4 : Nat) (o1_list : Value) (listed : Nat → Int32) (kg : Nat) (v : Int32) (hgz : gz ≤ 12) (hk : kg < gz) (he : ¬ ePl v (listed kg) = 0) : Met l yX9_substitute wsX9_substitute ({ frames := 3, cells := 0, slots := 0, locals := 65 }) (xPre (dC, dI) vwCl [.ref x0, .int (nI kg), .int v] (xtys cI cF cC cZ cQ cS) [(x0, .inr (9, [.ref o0, x0_snapshot, x0_trial, x0_history, x0_filling, x0_delivery, x0_text, x0_textLength, x0_hasSnapshot])), (o0, .inr (8, [.ref o1, o0_batches, o0_orders, o0_stages, o0_log, o0_settings, o0_rebate, o0_day])), (o1, .inr (3, [.int (nI gz), o1_price, o1_life, .ref o4, o1_list])), (o4, .inl (cI, 12, .inl listed))]) (vp_Si (fun r0 => r0 = ePl v (listed kg))) 0 0 (fun _ => False) := by
  refine Met.ofW (cc := cX9_substitute) (maxL := 4) (ret := (some .int)) (by decide) rfl ?_
  intro p e s m args below meth c s₁ B hml hv
  obtain ⟨rfl, hP, hK, hD0, hN⟩ := hv
  have hx := B.exec
  have hb := B.bytes
  have hr := B.returns
  have hts := atoms_spec (ws := wsX9_substitute) B.pre
  have hown : s.vm.findClass RX9 = some m.cls := findClass_of_methodNamed B.named
  have hlocks := B.notSynchronized
  have hD := hD0
  have hl := lv_entry ([.ref x0, .int (nI kg), .int v]) (n := 4) (Nat.le_of_ble_eq_true rfl)
  rw [lg_entry_eq]
  generalize (lg_sl ([.ref x0, .int (nI kg), .int v]) ++ List.replicate (4 - (lg_sl ([.ref x0, .int (nI kg), .int v])).length) Slot.unset).toArray = ls at hl ⊢
  have hl : lv_has ls 4 [(0, .ref x0), (1, .int (nI kg)), (2, .int v)] := hl
  refine lv_aload_n hx hb dX9_substitute_0 rfl (lv_at hl 0 rfl) ?_
  refine lv_iload_n hx hb dX9_substitute_1 rfl (lv_at hl 1 rfl) ?_
  refine lv_iload_n hx hb dX9_substitute_2 rfl (lv_at hl 2 rfl) ?_
  refine xkRi (xV (As := [.int (nI kg), .int v]) (rest := []) (wc := [(x0, .inr (9, [.ref o0, x0_snapshot, x0_trial, x0_history, x0_filling, x0_delivery, x0_text, x0_textLength, x0_hasSnapshot])), (o0, .inr (8, [.ref o1, o0_batches, o0_orders, o0_stages, o0_log, o0_settings, o0_rebate, o0_day])), (o1, .inr (3, [.int (nI gz), o1_price, o1_life, .ref o4, o1_list])), (o4, .inl (cI, 12, .inl listed))]) hx hb hml hown hts (c_X9_placeError l dC dI cI cF cC cZ cQ cS x0 o0 x0_snapshot x0_trial x0_history x0_filling x0_delivery x0_text x0_textLength x0_hasSnapshot o1 o0_batches o0_orders o0_stages o0_log o0_settings o0_rebate o0_day gz o1_price o1_life o4 o1_list listed (nI kg) v (by omega)) 2 gX9_substitute_X9_placeError rfl rfl rfl hdV_X9_placeError ⟨Nat.le_of_ble_eq_true rfl, Nat.le_of_ble_eq_true rfl⟩ hN hK hP hD [0, 1, 2, 3] rfl rfl 9 0 rfl rfl rfl hl.1 rfl (Nat.le_of_ble_eq_true rfl) dX9_substitute_3 ⟨Nat.zero_le _, Nat.zero_le _⟩) (fun r_1 hr_1 => ?_)
  obtain rfl : r_1 = xplerr (nI kg) v gz listed := hr_1
  refine xr_top (show xplerr (nI kg) v gz listed = ePl v (listed kg) from (xpl_known hk hgz)) ?_
  refine lv_istore_n (lv' := [(3, .int (ePl v (listed kg))), (0, .ref x0), (1, .int (nI kg)), (2, .int v)]) hx hb dX9_substitute_6 rfl hl (by decide) rfl (fun ls hl => ?_)
  refine lv_iload_n hx hb dX9_substitute_7 rfl (lv_at hl 0 rfl) ?_
  refine lv_if_eq (tgt := 13) hx hb dX9_substitute_8 (by decide) (fun c_2 => False.elim (by exact he c_2)) (fun c_2 => ?_)
  refine lv_iload_n hx hb dX9_substitute_11 rfl (lv_at hl 0 rfl) ?_
  exact W.iret (v := ePl v (listed kg)) hx hb hr (fun t ht hW => ⟨_, rfl, (show ePl v (listed kg) = ePl v (listed kg) from rfl), ht⟩) (fun q h => by cases h) dX9_substitute_12
set_option maxHeartbeats 4000000 in
set_option maxRecDepth 100000 in
theorem c_X9_substitutes (l : Launch) (dC : Nat → ClassId) (dI : Nat → Nat → Nat) (cI cF cC cZ cQ cS : ClassId) (x0 : Nat) (o0 : Nat) (x0_snapshot : Value) (x0_trial : Value) (x0_history : Value) (x0_filling : Value) (x0_delivery : Value) (x0_text : Value) (x0_textLength : Value) (x0_hasSnapshot : Value) (o1 : Nat) (o0_batches : Value) (o0_orders : Value) (o0_stages : Value) (o0_log : Value) (o0_settings : Value) (o0_rebate : Value) (o0_day : Value) (gz : Nat) (o1_price : Value) (o1_life : Value) (o4 : Nat) (o5 : Nat) (listed : Nat → Int32) (list : Nat → Int32) (kg : Nat) (lm : Nat) (pl : Nat) (hgz : gz ≤ 12) (hk : kg < gz) (hls : listed kg = nI lm) (hl4 : lm ≤ 4) (hpl : pl < lm) : Met l yX9_substitute wsX9_substitute ({ frames := 3, cells := 0, slots := 0, locals := 65 }) (xPre (dC, dI) vwCl [.ref x0, .int (nI kg), .int (nI pl)] (xtys cI cF cC cZ cQ cS) [(x0, .inr (9, [.ref o0, x0_snapshot, x0_trial, x0_history, x0_filling, x0_delivery, x0_text, x0_textLength, x0_hasSnapshot])), (o0, .inr (8, [.ref o1, o0_batches, o0_orders, o0_stages, o0_log, o0_settings, o0_rebate, o0_day])), (o1, .inr (3, [.int (nI gz), o1_price, o1_life, .ref o4, .ref o5])), (o4, .inl (cI, 12, .inl listed)), (o5, .inl (cI, 48, .inl list))]) (vp_Si (fun r0 => r0 = list (kg * 4 + pl))) 0 0 (fun _ => False) := by
  refine Met.ofW (cc := cX9_substitute) (maxL := 4) (ret := (some .int)) (by decide) rfl ?_
  intro p e s m args below meth c s₁ B hml hv
  obtain ⟨rfl, hP, hK, hD0, hN⟩ := hv
  have hx := B.exec
  have hb := B.bytes
  have hr := B.returns
  have hts := atoms_spec (ws := wsX9_substitute) B.pre
  have hown : s.vm.findClass RX9 = some m.cls := findClass_of_methodNamed B.named
  have hlocks := B.notSynchronized
  have k_12 := hts (Cond.fieldLink RX9 12 "ShelfStages" "now" "LShelfStages$State;") (by decide +kernel)
  have k_51 := hts (Cond.fieldLink RX9 51 "ShelfStages$State" "goods" "LShelfStages$Goods;") (by decide +kernel)
  have i_X8 : ∀ w ∈ wsX80, w ∈ wsX9_substitute := by decide +kernel
  have i_X9 : ∀ w ∈ wsX90, w ∈ wsX9_substitute := by decide +kernel
  have hD := hD0
  have hl := lv_entry ([.ref x0, .int (nI kg), .int (nI pl)]) (n := 4) (Nat.le_of_ble_eq_true rfl)
  rw [lg_entry_eq]
  generalize (lg_sl ([.ref x0, .int (nI kg), .int (nI pl)]) ++ List.replicate (4 - (lg_sl ([.ref x0, .int (nI kg), .int (nI pl)])).length) Slot.unset).toArray = ls at hl ⊢
  have hl : lv_has ls 4 [(0, .ref x0), (1, .int (nI kg)), (2, .int (nI pl))] := hl
  refine lv_aload_n hx hb dX9_substitute_0 rfl (lv_at hl 0 rfl) ?_
  refine lv_iload_n hx hb dX9_substitute_1 rfl (lv_at hl 1 rfl) ?_
  refine lv_iload_n hx hb dX9_substitute_2 rfl (lv_at hl 2 rfl) ?_
  refine xkRi (xV (As := [.int (nI kg), .int (nI pl)]) (rest := []) (wc := [(x0, .inr (9, [.ref o0, x0_snapshot, x0_trial, x0_history, x0_filling, x0_delivery, x0_text, x0_textLength, x0_hasSnapshot])), (o0, .inr (8, [.ref o1, o0_batches, o0_orders, o0_stages, o0_log, o0_settings, o0_rebate, o0_day])), (o1, .inr (3, [.int (nI gz), o1_price, o1_life, .ref o4, .ref o5])), (o4, .inl (cI, 12, .inl listed))]) hx hb hml hown hts (c_X9_placeError l dC dI cI cF cC cZ cQ cS x0 o0 x0_snapshot x0_trial x0_history x0_filling x0_delivery x0_text x0_textLength x0_hasSnapshot o1 o0_batches o0_orders o0_stages o0_log o0_settings o0_rebate o0_day gz o1_price o1_life o4 (.ref o5) listed (nI kg) (nI pl) (by omega)) 2 gX9_substitute_X9_placeError rfl rfl rfl hdV_X9_placeError ⟨Nat.le_of_ble_eq_true rfl, Nat.le_of_ble_eq_true rfl⟩ hN hK hP hD [0, 1, 2, 3] rfl rfl 9 0 rfl rfl rfl hl.1 rfl (Nat.le_of_ble_eq_true rfl) dX9_substitute_3 ⟨Nat.zero_le _, Nat.zero_le _⟩) (fun r_1 hr_1 => ?_)
  obtain rfl : r_1 = xplerr (nI kg) (nI pl) gz listed := hr_1
  refine xr_top (show xplerr (nI kg) (nI pl) gz listed = nI 0 from ((xpl_known hk hgz).trans (by rw [hls]; exact ePl_ok hpl hl4))) ?_
  refine lv_istore_n (lv' := [(3, .int (nI 0)), (0, .ref x0), (1, .int (nI kg)), (2, .int (nI pl))]) hx hb dX9_substitute_6 rfl hl (by decide) rfl (fun ls hl => ?_)
  refine lv_iload_n hx hb dX9_substitute_7 rfl (lv_at hl 0 rfl) ?_
  refine xr_if0 (tgt := 13) hx hb (by decide) dX9_substitute_8 (by decide) ?_
  refine lv_aload_n hx hb dX9_substitute_13 rfl (lv_at hl 1 rfl) ?_
  refine va_get (D := (dC, dI)) (ci := 9) (v := .ref o0) (C := RX9) (T := TX9) (N := 9) hx hb hts i_X9 hown hK hP 0 rfl rfl 0 (by decide) k_12 (fun _ h9 => h9) rfl dX9_substitute_14 ?_
  refine va_get (D := (dC, dI)) (ci := 8) (v := .ref o1) (C := RX8) (T := TX8) (N := 8) hx hb hts i_X8 hown hK hP 1 rfl rfl 0 (by decide) k_51 (fun _ h9 => h9) rfl dX9_substitute_17 ?_
  refine lv_iload_n hx hb dX9_substitute_20 rfl (lv_at hl 2 rfl) ?_
  refine lv_iload_n hx hb dX9_substitute_21 rfl (lv_at hl 3 rfl) ?_
  refine xkRi (xV (As := [.int (nI kg), .int (nI pl)]) (rest := []) (wc := [(o1, .inr (3, [.int (nI gz), o1_price, o1_life, .ref o4, .ref o5])), (o5, .inl (cI, 48, .inl list))]) hx hb hml hown hts (c_X3_listedAt l dC dI cI cF cC cZ cQ cS o1 (.int (nI gz)) o1_price o1_life (.ref o4) o5 list kg pl (by omega)) 2 gX9_substitute_X3_listedAt rfl rfl rfl hdV_X3_listedAt ⟨Nat.le_of_ble_eq_true rfl, Nat.le_of_ble_eq_true rfl⟩ hN hK hP hD [2, 4] rfl rfl 3 2 rfl rfl rfl hl.1 rfl (Nat.le_of_ble_eq_true rfl) dX9_substitute_22 ⟨Nat.zero_le _, Nat.zero_le _⟩) (fun r_2 hr_2 => ?_)
  obtain rfl : r_2 = list (kg * 4 + pl) := hr_2
  exact W.iret (v := list (kg * 4 + pl)) hx hb hr (fun t ht hW => ⟨_, rfl, (show list (kg * 4 + pl) = list (kg * 4 + pl) from rfl), ht⟩) (fun q h => by cases h) dX9_substitute_25