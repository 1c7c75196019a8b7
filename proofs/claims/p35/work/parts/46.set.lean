theorem hdV_X9_set : yX9_set.cls = RX9 ∧ yX9_set.cls ≠ "java/lang/invoke/MethodHandle" ∧ yX9_set.cls ≠ "java/lang/invoke/VarHandle" ∧ (parseMethodDescriptor yX9_set.desc).map (fun d => d.parameters.length) = some 2 := by decide +kernel
set_option maxHeartbeats 4000000 in
set_option maxRecDepth 100000 in
theorem c_X9_setb (l : Launch) (dC : Nat → ClassId) (dI : Nat → Nat → Nat) (cI cF cC cZ cQ cS : ClassId) (x0 : Nat) (x0_now : Value) (x0_snapshot : Value) (x0_trial : Value) (x0_history : Value) (x0_filling : Value) (x0_delivery : Value) (x0_text : Value) (x0_textLength : Value) (x0_hasSnapshot : Value) (wh : Int32) (v : Int32) (hbd : xisset wh v = 0) : Met l yX9_set wsX9_set ({ frames := 2, cells := 0, slots := 0, locals := 43 }) (xPre (dC, dI) vwCl [.ref x0, .int wh, .int v] (xtys cI cF cC cZ cQ cS) [(x0, .inr (9, [x0_now, x0_snapshot, x0_trial, x0_history, x0_filling, x0_delivery, x0_text, x0_textLength, x0_hasSnapshot]))]) (vp_Si (fun r0 => r0 = (-2))) 0 0 (fun _ => False) := by
  refine Met.ofW (cc := cX9_set) (maxL := 4) (ret := (some .int)) (by decide) rfl ?_
  intro p e s m args below meth c s₁ B hml hv
  obtain ⟨rfl, hP, hK, hD0, hN⟩ := hv
  have hx := B.exec
  have hb := B.bytes
  have hr := B.returns
  have hts := atoms_spec (ws := wsX9_set) B.pre
  have hown : s.vm.findClass RX9 = some m.cls := findClass_of_methodNamed B.named
  have hlocks := B.notSynchronized
  have hD := hD0
  have hl := lv_entry ([.ref x0, .int wh, .int v]) (n := 4) (Nat.le_of_ble_eq_true rfl)
  rw [lg_entry_eq]
  generalize (lg_sl ([.ref x0, .int wh, .int v]) ++ List.replicate (4 - (lg_sl ([.ref x0, .int wh, .int v])).length) Slot.unset).toArray = ls at hl ⊢
  have hl : lv_has ls 4 [(0, .ref x0), (1, .int wh), (2, .int v)] := hl
  refine lv_iload_n hx hb dX9_set_0 rfl (lv_at hl 1 rfl) ?_
  refine lv_iload_n hx hb dX9_set_1 rfl (lv_at hl 2 rfl) ?_
  refine xkRi (xSs (Ws' := ([] : List Cond)) (As := [.int wh, .int v]) (rest := []) (wc := []) hx hb hml hown hts (c_X9_isSetting l dC dI cI cF cC cZ cQ cS wh v) 2 (fun hR => va_cwS 2 hts gX9_set_X9_isSetting rfl rfl rfl hdN_X9_isSetting hR) ⟨Nat.le_of_ble_eq_true rfl, Nat.le_of_ble_eq_true rfl⟩ hN hK hP hD [] rfl rfl rfl hl.1 rfl (Nat.le_of_ble_eq_true rfl) dX9_set_2 ⟨Nat.zero_le _, Nat.zero_le _⟩) (fun r_1 hr_1 => ?_)
  obtain rfl : r_1 = xisset wh v := hr_1
  refine lv_if_ne (tgt := 11) hx hb dX9_set_5 (by decide) (fun c_2 => False.elim (by exact c_2 hbd)) (fun c_2 => ?_)
  refine lv_bipush (v := (-2)) hx hb dX9_set_8 (by decide) ?_
  exact W.iret (v := (-2)) hx hb hr (fun t ht hW => ⟨_, rfl, (show (-2) = (-2) from rfl), ht⟩) (fun q h => by cases h) dX9_set_10
set_option maxHeartbeats 4000000 in
set_option maxRecDepth 100000 in
theorem c_X9_sete (l : Launch) (dC : Nat → ClassId) (dI : Nat → Nat → Nat) (cI cF cC cZ cQ cS : ClassId) (x0 : Nat) (o0 : Nat) (x0_snapshot : Value) (x0_trial : Value) (x0_history : Value) (x0_filling : Value) (x0_delivery : Value) (x0_text : Value) (x0_textLength : Value) (x0_hasSnapshot : Value) (o0_goods : Value) (o0_batches : Value) (o0_orders : Value) (o0_stages : Value) (o0_log : Value) (o39 : Nat) (o0_rebate : Value) (o0_day : Value) (sets : Nat → Int32) (wn : Nat) (v : Int32) (hwn : wn < 3) (hs : ¬ xisset (nI wn) v = 0) (hv : sets wn = v) : Met l yX9_set wsX9_set ({ frames := 2, cells := 0, slots := 0, locals := 43 }) (xPre (dC, dI) vwCl [.ref x0, .int (nI wn), .int v] (xtys cI cF cC cZ cQ cS) [(x0, .inr (9, [.ref o0, x0_snapshot, x0_trial, x0_history, x0_filling, x0_delivery, x0_text, x0_textLength, x0_hasSnapshot])), (o0, .inr (8, [o0_goods, o0_batches, o0_orders, o0_stages, o0_log, .ref o39, o0_rebate, o0_day])), (o39, .inl (cI, 3, .inl sets))]) (vp_Si (fun r0 => r0 = (-5))) 0 0 (fun _ => False) := by
  refine Met.ofW (cc := cX9_set) (maxL := 4) (ret := (some .int)) (by decide) rfl ?_
  intro p e s m args below meth c s₁ B hml hv
  obtain ⟨rfl, hP, hK, hD0, hN⟩ := hv
  have hx := B.exec
  have hb := B.bytes
  have hr := B.returns
  have hts := atoms_spec (ws := wsX9_set) B.pre
  have hown : s.vm.findClass RX9 = some m.cls := findClass_of_methodNamed B.named
  have hlocks := B.notSynchronized
  have k_118 := hts (Cond.fieldLink RX9 118 "ShelfStages$State" "settings" "[I") (by decide +kernel)
  have k_12 := hts (Cond.fieldLink RX9 12 "ShelfStages" "now" "LShelfStages$State;") (by decide +kernel)
  have i_X8 : ∀ w ∈ wsX80, w ∈ wsX9_set := by decide +kernel
  have i_X9 : ∀ w ∈ wsX90, w ∈ wsX9_set := by decide +kernel
  have hD := hD0
  have hl := lv_entry ([.ref x0, .int (nI wn), .int v]) (n := 4) (Nat.le_of_ble_eq_true rfl)
  rw [lg_entry_eq]
  generalize (lg_sl ([.ref x0, .int (nI wn), .int v]) ++ List.replicate (4 - (lg_sl ([.ref x0, .int (nI wn), .int v])).length) Slot.unset).toArray = ls at hl ⊢
  have hl : lv_has ls 4 [(0, .ref x0), (1, .int (nI wn)), (2, .int v)] := hl
  refine lv_iload_n hx hb dX9_set_0 rfl (lv_at hl 1 rfl) ?_
  refine lv_iload_n hx hb dX9_set_1 rfl (lv_at hl 2 rfl) ?_
  refine xkRi (xSs (Ws' := ([] : List Cond)) (As := [.int (nI wn), .int v]) (rest := []) (wc := []) hx hb hml hown hts (c_X9_isSetting l dC dI cI cF cC cZ cQ cS (nI wn) v) 2 (fun hR => va_cwS 2 hts gX9_set_X9_isSetting rfl rfl rfl hdN_X9_isSetting hR) ⟨Nat.le_of_ble_eq_true rfl, Nat.le_of_ble_eq_true rfl⟩ hN hK hP hD [] rfl rfl rfl hl.1 rfl (Nat.le_of_ble_eq_true rfl) dX9_set_2 ⟨Nat.zero_le _, Nat.zero_le _⟩) (fun r_1 hr_1 => ?_)
  obtain rfl : r_1 = xisset (nI wn) v := hr_1
  refine lv_if_ne (tgt := 11) hx hb dX9_set_5 (by decide) (fun c_2 => ?_) (fun c_2 => False.elim (by exact hs c_2))
  refine lv_aload_n hx hb dX9_set_11 rfl (lv_at hl 0 rfl) ?_
  refine va_get (D := (dC, dI)) (ci := 9) (v := .ref o0) (C := RX9) (T := TX9) (N := 9) hx hb hts i_X9 hown hK hP 0 rfl rfl 0 (by decide) k_12 (fun _ h9 => h9) rfl dX9_set_12 ?_
  refine va_get (D := (dC, dI)) (ci := 8) (v := .ref o39) (C := RX8) (T := TX8) (N := 8) hx hb hts i_X8 hown hK hP 1 rfl rfl 5 (by decide) k_118 (fun _ h9 => h9) rfl dX9_set_15 ?_
  refine lv_iload_n hx hb dX9_set_18 rfl (lv_at hl 1 rfl) ?_
  refine xr_iald hx hb hK hP 2 0 rfl rfl (i := wn) (by omega) (by decide) dX9_set_19 ?_
  refine lv_istore_n (lv' := [(3, .int (sets wn)), (0, .ref x0), (1, .int (nI wn)), (2, .int v)]) hx hb dX9_set_20 rfl hl (by decide) rfl (fun ls hl => ?_)
  refine lv_iload_n hx hb dX9_set_21 rfl (lv_at hl 0 rfl) ?_
  refine lv_iload_n hx hb dX9_set_22 rfl (lv_at hl 3 rfl) ?_
  refine lv_icmp_ne (tgt := 29) hx hb dX9_set_23 (by decide) (fun c_3 => False.elim (by exact c_3 hv)) (fun c_3 => ?_)
  refine lv_bipush (v := (-5)) hx hb dX9_set_26 (by decide) ?_
  exact W.iret (v := (-5)) hx hb hr (fun t ht hW => ⟨_, rfl, (show (-5) = (-5) from rfl), ht⟩) (fun q h => by cases h) dX9_set_28
