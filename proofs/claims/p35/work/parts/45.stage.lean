theorem hdV_X9_addSubstitute : yX9_addSubstitute.cls = RX9 ∧ yX9_addSubstitute.cls ≠ "java/lang/invoke/MethodHandle" ∧ yX9_addSubstitute.cls ≠ "java/lang/invoke/VarHandle" ∧ (parseMethodDescriptor yX9_addSubstitute.desc).map (fun d => d.parameters.length) = some 3 := by decide +kernel
set_option maxHeartbeats 4000000 in
set_option maxRecDepth 100000 in
theorem c_X9_addSubstituteu (l : Launch) (dC : Nat → ClassId) (dI : Nat → Nat → Nat) (cI cF cC cZ cQ cS : ClassId) (x0 : Nat) (o0 : Nat) (x0_snapshot : Value) (x0_trial : Value) (x0_history : Value) (x0_filling : Value) (x0_delivery : Value) (x0_text : Value) (x0_textLength : Value) (x0_hasSnapshot : Value) (o1 : Nat) (o0_batches : Value) (o0_orders : Value) (o0_stages : Value) (o0_log : Value) (o0_settings : Value) (o0_rebate : Value) (o0_day : Value) (gz : Nat) (o1_price : Value) (o1_life : Value) (o1_listed : Value) (o1_list : Value) (gq : Int32) (sq : Int32) (pl : Int32) (hgz : gz ≤ 12) (he : ¬ eAsU gq sq gz = nI 0) : Met l yX9_addSubstitute wsX9_addSubstitute ({ frames := 2, cells := 0, slots := 0, locals := 43 }) (xPre (dC, dI) vwCl [.ref x0, .int gq, .int sq, .int pl] (xtys cI cF cC cZ cQ cS) [(x0, .inr (9, [.ref o0, x0_snapshot, x0_trial, x0_history, x0_filling, x0_delivery, x0_text, x0_textLength, x0_hasSnapshot])), (o0, .inr (8, [.ref o1, o0_batches, o0_orders, o0_stages, o0_log, o0_settings, o0_rebate, o0_day])), (o1, .inr (3, [.int (nI gz), o1_price, o1_life, o1_listed, o1_list]))]) (vp_Si (fun r0 => r0 = eAsU gq sq gz)) 0 0 (fun _ => False) := by
  refine Met.ofW (cc := cX9_addSubstitute) (maxL := 5) (ret := (some .int)) (by decide) rfl ?_
  intro p e s m args below meth c s₁ B hml hv
  obtain ⟨rfl, hP, hK, hD0, hN⟩ := hv
  have hx := B.exec
  have hb := B.bytes
  have hr := B.returns
  have hts := atoms_spec (ws := wsX9_addSubstitute) B.pre
  have hown : s.vm.findClass RX9 = some m.cls := findClass_of_methodNamed B.named
  have hlocks := B.notSynchronized
  have hD := hD0
  have hl := lv_entry ([.ref x0, .int gq, .int sq, .int pl]) (n := 5) (Nat.le_of_ble_eq_true rfl)
  rw [lg_entry_eq]
  generalize (lg_sl ([.ref x0, .int gq, .int sq, .int pl]) ++ List.replicate (5 - (lg_sl ([.ref x0, .int gq, .int sq, .int pl])).length) Slot.unset).toArray = ls at hl ⊢
  have hl : lv_has ls 5 [(0, .ref x0), (1, .int gq), (2, .int sq), (3, .int pl)] := hl
  refine lv_aload_n hx hb dX9_addSubstitute_0 rfl (lv_at hl 0 rfl) ?_
  refine lv_iload_n hx hb dX9_addSubstitute_1 rfl (lv_at hl 1 rfl) ?_
  refine xkRi (xV (As := [.int gq]) (rest := []) (wc := [(x0, .inr (9, [.ref o0, x0_snapshot, x0_trial, x0_history, x0_filling, x0_delivery, x0_text, x0_textLength, x0_hasSnapshot])), (o0, .inr (8, [.ref o1, o0_batches, o0_orders, o0_stages, o0_log, o0_settings, o0_rebate, o0_day])), (o1, .inr (3, [.int (nI gz), o1_price, o1_life, o1_listed, o1_list]))]) hx hb hml hown hts (c_X9_hasGood l dC dI cI cF cC cZ cQ cS x0 o0 x0_snapshot x0_trial x0_history x0_filling x0_delivery x0_text x0_textLength x0_hasSnapshot o1 o0_batches o0_orders o0_stages o0_log o0_settings o0_rebate o0_day gz o1_price o1_life o1_listed o1_list gq (by omega)) 1 gX9_addSubstitute_X9_hasGood rfl rfl rfl hdV_X9_hasGood ⟨Nat.le_of_ble_eq_true rfl, Nat.le_of_ble_eq_true rfl⟩ hN hK hP hD [0, 1, 2] rfl rfl 9 0 rfl rfl rfl hl.1 rfl (Nat.le_of_ble_eq_true rfl) dX9_addSubstitute_2 ⟨Nat.zero_le _, Nat.zero_le _⟩) (fun r_1 hr_1 => ?_)
  have hr_1 : r_1 = (if xhas gq gz then nI 1 else nI 0) := hr_1
  rcases xi_ite inferInstance hr_1 with ⟨c_2, hr_1⟩ | ⟨c_2, hr_1⟩
  · subst hr_1
    refine xr_if1 (tgt := 16) hx hb (by decide) dX9_addSubstitute_5 (by decide) ?_
    refine lv_aload_n hx hb dX9_addSubstitute_8 rfl (lv_at hl 0 rfl) ?_
    refine lv_iload_n hx hb dX9_addSubstitute_9 rfl (lv_at hl 2 rfl) ?_
    refine xkRi (xV (As := [.int sq]) (rest := []) (wc := [(x0, .inr (9, [.ref o0, x0_snapshot, x0_trial, x0_history, x0_filling, x0_delivery, x0_text, x0_textLength, x0_hasSnapshot])), (o0, .inr (8, [.ref o1, o0_batches, o0_orders, o0_stages, o0_log, o0_settings, o0_rebate, o0_day])), (o1, .inr (3, [.int (nI gz), o1_price, o1_life, o1_listed, o1_list]))]) hx hb hml hown hts (c_X9_hasGood l dC dI cI cF cC cZ cQ cS x0 o0 x0_snapshot x0_trial x0_history x0_filling x0_delivery x0_text x0_textLength x0_hasSnapshot o1 o0_batches o0_orders o0_stages o0_log o0_settings o0_rebate o0_day gz o1_price o1_life o1_listed o1_list sq (by omega)) 1 gX9_addSubstitute_X9_hasGood rfl rfl rfl hdV_X9_hasGood ⟨Nat.le_of_ble_eq_true rfl, Nat.le_of_ble_eq_true rfl⟩ hN hK hP hD [0, 1, 2] rfl rfl 9 0 rfl rfl rfl hl.1 rfl (Nat.le_of_ble_eq_true rfl) dX9_addSubstitute_10 ⟨Nat.zero_le _, Nat.zero_le _⟩) (fun r_3 hr_3 => ?_)
    have hr_3 : r_3 = (if xhas sq gz then nI 1 else nI 0) := hr_3
    rcases xi_ite inferInstance hr_3 with ⟨c_4, hr_3⟩ | ⟨c_4, hr_3⟩
    · subst hr_3
      refine xr_ifn1 (tgt := 18) hx hb (by decide) dX9_addSubstitute_13 (by decide) ?_
      exact (he (by unfold eAsU; rw [if_neg (fun z9 => z9.elim (fun z9 => z9 c_2) (fun z9 => z9 c_4))])).elim
    subst hr_3
    refine xr_ifn0 (tgt := 18) hx hb (by decide) dX9_addSubstitute_13 (by decide) ?_
    refine lv_iconst (v := (-1)) hx hb dX9_addSubstitute_16 (by decide) ?_
    exact W.iret (v := (-1)) hx hb hr (fun t ht hW => ⟨_, rfl, (show (-1) = eAsU gq sq gz from (by unfold eAsU; rw [if_pos (Or.inr c_4)])), ht⟩) (fun q h => by cases h) dX9_addSubstitute_17
  subst hr_1
  refine xr_if0 (tgt := 16) hx hb (by decide) dX9_addSubstitute_5 (by decide) ?_
  refine lv_iconst (v := (-1)) hx hb dX9_addSubstitute_16 (by decide) ?_
  exact W.iret (v := (-1)) hx hb hr (fun t ht hW => ⟨_, rfl, (show (-1) = eAsU gq sq gz from (by unfold eAsU; rw [if_pos (Or.inl c_2)])), ht⟩) (fun q h => by cases h) dX9_addSubstitute_17
theorem hdV_X9_stage : yX9_stage.cls = RX9 ∧ yX9_stage.cls ≠ "java/lang/invoke/MethodHandle" ∧ yX9_stage.cls ≠ "java/lang/invoke/VarHandle" ∧ (parseMethodDescriptor yX9_stage.desc).map (fun d => d.parameters.length) = some 2 := by decide +kernel
set_option maxHeartbeats 4000000 in
set_option maxRecDepth 100000 in
theorem c_X9_stageu (l : Launch) (dC : Nat → ClassId) (dI : Nat → Nat → Nat) (cI cF cC cZ cQ cS : ClassId) (x0 : Nat) (x0_now : Value) (x0_snapshot : Value) (x0_trial : Value) (x0_history : Value) (x0_filling : Value) (x0_delivery : Value) (x0_text : Value) (x0_textLength : Value) (x0_hasSnapshot : Value) (sq : Int32) (wh : Int32) (hg : ¬ xhas sq 4) : Met l yX9_stage wsX9_stage ({ frames := 2, cells := 0, slots := 0, locals := 42 }) (xPre (dC, dI) vwCl [.ref x0, .int sq, .int wh] (xtys cI cF cC cZ cQ cS) [(x0, .inr (9, [x0_now, x0_snapshot, x0_trial, x0_history, x0_filling, x0_delivery, x0_text, x0_textLength, x0_hasSnapshot]))]) (vp_Si (fun r0 => r0 = (-1))) 0 0 (fun _ => False) := by
  refine Met.ofW (cc := cX9_stage) (maxL := 3) (ret := (some .int)) (by decide) rfl ?_
  intro p e s m args below meth c s₁ B hml hv
  obtain ⟨rfl, hP, hK, hD0, hN⟩ := hv
  have hx := B.exec
  have hb := B.bytes
  have hr := B.returns
  have hts := atoms_spec (ws := wsX9_stage) B.pre
  have hown : s.vm.findClass RX9 = some m.cls := findClass_of_methodNamed B.named
  have hlocks := B.notSynchronized
  have hD := hD0
  have hl := lv_entry ([.ref x0, .int sq, .int wh]) (n := 3) (Nat.le_of_ble_eq_true rfl)
  rw [lg_entry_eq]
  generalize (lg_sl ([.ref x0, .int sq, .int wh]) ++ List.replicate (3 - (lg_sl ([.ref x0, .int sq, .int wh])).length) Slot.unset).toArray = ls at hl ⊢
  have hl : lv_has ls 3 [(0, .ref x0), (1, .int sq), (2, .int wh)] := hl
  refine lv_iload_n hx hb dX9_stage_0 rfl (lv_at hl 1 rfl) ?_
  refine xkRi (xSs (Ws' := ([] : List Cond)) (As := [.int sq]) (rest := []) (wc := []) hx hb hml hown hts (c_X9_isStage l dC dI cI cF cC cZ cQ cS sq) 1 (fun hR => va_cwS 1 hts gX9_stage_X9_isStage rfl rfl rfl hdN_X9_isStage hR) ⟨Nat.le_of_ble_eq_true rfl, Nat.le_of_ble_eq_true rfl⟩ hN hK hP hD [] rfl rfl rfl hl.1 rfl (Nat.le_of_ble_eq_true rfl) dX9_stage_1 ⟨Nat.zero_le _, Nat.zero_le _⟩) (fun r_1 hr_1 => ?_)
  have hr_1 : r_1 = (if xhas sq 4 then nI 1 else nI 0) := hr_1
  obtain rfl : r_1 = nI 0 := hr_1.trans (if_neg hg)
  refine xr_ifn0 (tgt := 9) hx hb (by decide) dX9_stage_4 (by decide) ?_
  refine lv_iconst (v := (-1)) hx hb dX9_stage_7 (by decide) ?_
  exact W.iret (v := (-1)) hx hb hr (fun t ht hW => ⟨_, rfl, (show (-1) = (-1) from rfl), ht⟩) (fun q h => by cases h) dX9_stage_8
set_option maxHeartbeats 4000000 in
set_option maxRecDepth 100000 in
theorem c_X9_stages (l : Launch) (dC : Nat → ClassId) (dI : Nat → Nat → Nat) (cI cF cC cZ cQ cS : ClassId) (x0 : Nat) (o0 : Nat) (x0_snapshot : Value) (x0_trial : Value) (x0_history : Value) (x0_filling : Value) (x0_delivery : Value) (x0_text : Value) (x0_textLength : Value) (x0_hasSnapshot : Value) (o1 : Nat) (o6 : Nat) (o0_orders : Value) (o31 : Nat) (o0_log : Value) (o0_settings : Value) (o0_rebate : Value) (o0_day : Value) (o1_size : Value) (o1_price : Value) (o3 : Nat) (o1_listed : Value) (o1_list : Value) (life : Nat → Int32) (bz : Nat) (o7 : Nat) (o6_came : Value) (o9 : Nat) (o10 : Nat) (o6_sold : Value) (o6_given : Value) (o6_cents : Value) (o6_wasted : Value) (good : Nat → Int32) (left : Nat → Int32) (shelf : Nat → Int32) (o32 : Nat) (o31_markdown : Value) (share : Nat → Int32) (sn : Nat) (wh : Int32) (hbz : bz ≤ 40) (hga : xidx good 12 bz) (hsn : sn < 4) : Met l yX9_stage wsX9_stage ({ frames := 4, cells := 0, slots := 0, locals := 89 }) (xPre (dC, dI) vwCl [.ref x0, .int (nI sn), .int wh] (xtys cI cF cC cZ cQ cS) [(x0, .inr (9, [.ref o0, x0_snapshot, x0_trial, x0_history, x0_filling, x0_delivery, x0_text, x0_textLength, x0_hasSnapshot])), (o0, .inr (8, [.ref o1, .ref o6, o0_orders, .ref o31, o0_log, o0_settings, o0_rebate, o0_day])), (o1, .inr (3, [o1_size, o1_price, .ref o3, o1_listed, o1_list])), (o3, .inl (cI, 12, .inl life)), (o6, .inr (0, [.int (nI bz), .ref o7, o6_came, .ref o9, .ref o10, o6_sold, o6_given, o6_cents, o6_wasted])), (o7, .inl (cI, 40, .inl good)), (o9, .inl (cI, 40, .inl left)), (o10, .inl (cI, 40, .inl shelf)), (o31, .inr (7, [.ref o32, o31_markdown])), (o32, .inl (cI, 4, .inl share))]) (vp_Si (fun r0 => r0 = tStage wh (share sn) (xcntP (fun b => decide (¬ shelf b ≤ 0 ∧ xstg share left life good b = sn)) bz) (xsumP (fun b => decide (¬ shelf b ≤ 0 ∧ xstg share left life good b = sn)) shelf bz))) 0 0 (fun _ => False) := by
  refine Met.ofW (cc := cX9_stage) (maxL := 3) (ret := (some .int)) (by decide) rfl ?_
  intro p e s m args below meth c s₁ B hml hv
  obtain ⟨rfl, hP, hK, hD0, hN⟩ := hv
  have hx := B.exec
  have hb := B.bytes
  have hr := B.returns
  have hts := atoms_spec (ws := wsX9_stage) B.pre
  have hown : s.vm.findClass RX9 = some m.cls := findClass_of_methodNamed B.named
  have hlocks := B.notSynchronized
  have k_104 := hts (Cond.fieldLink RX9 104 "ShelfStages$Stages" "share" "[I") (by decide +kernel)
  have k_12 := hts (Cond.fieldLink RX9 12 "ShelfStages" "now" "LShelfStages$State;") (by decide +kernel)
  have k_94 := hts (Cond.fieldLink RX9 94 "ShelfStages$State" "stages" "LShelfStages$Stages;") (by decide +kernel)
  have i_X7 : ∀ w ∈ wsX70, w ∈ wsX9_stage := by decide +kernel
  have i_X8 : ∀ w ∈ wsX80, w ∈ wsX9_stage := by decide +kernel
  have i_X9 : ∀ w ∈ wsX90, w ∈ wsX9_stage := by decide +kernel
  have hD := hD0
  have hl := lv_entry ([.ref x0, .int (nI sn), .int wh]) (n := 3) (Nat.le_of_ble_eq_true rfl)
  rw [lg_entry_eq]
  generalize (lg_sl ([.ref x0, .int (nI sn), .int wh]) ++ List.replicate (3 - (lg_sl ([.ref x0, .int (nI sn), .int wh])).length) Slot.unset).toArray = ls at hl ⊢
  have hl : lv_has ls 3 [(0, .ref x0), (1, .int (nI sn)), (2, .int wh)] := hl
  refine lv_iload_n hx hb dX9_stage_0 rfl (lv_at hl 1 rfl) ?_
  refine xkRi (xSs (Ws' := ([] : List Cond)) (As := [.int (nI sn)]) (rest := []) (wc := []) hx hb hml hown hts (c_X9_isStage l dC dI cI cF cC cZ cQ cS (nI sn)) 1 (fun hR => va_cwS 1 hts gX9_stage_X9_isStage rfl rfl rfl hdN_X9_isStage hR) ⟨Nat.le_of_ble_eq_true rfl, Nat.le_of_ble_eq_true rfl⟩ hN hK hP hD [] rfl rfl rfl hl.1 rfl (Nat.le_of_ble_eq_true rfl) dX9_stage_1 ⟨Nat.zero_le _, Nat.zero_le _⟩) (fun r_1 hr_1 => ?_)
  have hr_1 : r_1 = (if xhas (nI sn) 4 then nI 1 else nI 0) := hr_1
  obtain rfl : r_1 = nI 1 := hr_1.trans (if_pos (xhas_of hsn (by decide)))
  refine xr_ifn1 (tgt := 9) hx hb (by decide) dX9_stage_4 (by decide) ?_
  refine lv_iload_n hx hb dX9_stage_9 rfl (lv_at hl 2 rfl) ?_
  by_cases cs_2 : wh = nI 0
  · skip
    refine lv_tableIn (tgt := 36) hx hb dX9_stage_10 (by rw [cs_2]; decide) (by rw [cs_2]; decide) (by rw [cs_2]; rfl) (by decide) ?_
    refine lv_aload_n hx hb dX9_stage_36 rfl (lv_at hl 0 rfl) ?_
    refine va_get (D := (dC, dI)) (ci := 9) (v := .ref o0) (C := RX9) (T := TX9) (N := 9) hx hb hts i_X9 hown hK hP 0 rfl rfl 0 (by decide) k_12 (fun _ h9 => h9) rfl dX9_stage_37 ?_
    refine va_get (D := (dC, dI)) (ci := 8) (v := .ref o31) (C := RX8) (T := TX8) (N := 8) hx hb hts i_X8 hown hK hP 1 rfl rfl 3 (by decide) k_94 (fun _ h9 => h9) rfl dX9_stage_40 ?_
    refine va_get (D := (dC, dI)) (ci := 7) (v := .ref o32) (C := RX7) (T := TX7) (N := 2) hx hb hts i_X7 hown hK hP 8 rfl rfl 0 (by decide) k_104 (fun _ h9 => h9) rfl dX9_stage_43 ?_
    refine lv_iload_n hx hb dX9_stage_46 rfl (lv_at hl 1 rfl) ?_
    refine xr_iald hx hb hK hP 9 0 rfl rfl (i := sn) (by omega) (by decide) dX9_stage_47 ?_
    exact W.iret (v := share sn) hx hb hr (fun t ht hW => ⟨_, rfl, (show share sn = tStage wh (share sn) (xcntP (fun b => decide (¬ shelf b ≤ 0 ∧ xstg share left life good b = sn)) bz) (xsumP (fun b => decide (¬ shelf b ≤ 0 ∧ xstg share left life good b = sn)) shelf bz) from (by unfold tStage; rw [if_pos cs_2])), ht⟩) (fun q h => by cases h) dX9_stage_48
  by_cases cs_3 : wh = nI 1
  · skip
    refine lv_tableIn (tgt := 49) hx hb dX9_stage_10 (by rw [cs_3]; decide) (by rw [cs_3]; decide) (by rw [cs_3]; rfl) (by decide) ?_
    refine lv_aload_n hx hb dX9_stage_49 rfl (lv_at hl 0 rfl) ?_
    refine va_get (D := (dC, dI)) (ci := 9) (v := .ref o0) (C := RX9) (T := TX9) (N := 9) hx hb hts i_X9 hown hK hP 0 rfl rfl 0 (by decide) k_12 (fun _ h9 => h9) rfl dX9_stage_50 ?_
    refine lv_iload_n hx hb dX9_stage_53 rfl (lv_at hl 1 rfl) ?_
    refine xkRi (xV (As := [.int (nI sn)]) (rest := []) (wc := [(o0, .inr (8, [.ref o1, .ref o6, o0_orders, .ref o31, o0_log, o0_settings, o0_rebate, o0_day])), (o6, .inr (0, [.int (nI bz), .ref o7, o6_came, .ref o9, .ref o10, o6_sold, o6_given, o6_cents, o6_wasted])), (o9, .inl (cI, 40, .inl left)), (o7, .inl (cI, 40, .inl good)), (o10, .inl (cI, 40, .inl shelf)), (o1, .inr (3, [o1_size, o1_price, .ref o3, o1_listed, o1_list])), (o3, .inl (cI, 12, .inl life)), (o31, .inr (7, [.ref o32, o31_markdown])), (o32, .inl (cI, 4, .inl share))]) hx hb hml hown hts (c_X8_batchesInStage l dC dI cI cF cC cZ cQ cS o0 o1 o6 o0_orders o31 o0_log o0_settings o0_rebate o0_day o7 o6_came o9 o10 o6_sold o6_given o6_cents o6_wasted left good shelf o1_size o1_price o3 o1_listed o1_list life o32 o31_markdown share bz sn (by omega) hga hsn) 1 gX9_stage_X8_batchesInStage rfl rfl rfl hdV_X8_batchesInStage ⟨Nat.le_of_ble_eq_true rfl, Nat.le_of_ble_eq_true rfl⟩ hN hK hP hD [1, 4, 6, 5, 7, 2, 3, 8, 9] rfl rfl 8 1 rfl rfl rfl hl.1 rfl (Nat.le_of_ble_eq_true rfl) dX9_stage_54 ⟨Nat.zero_le _, Nat.zero_le _⟩) (fun r_4 hr_4 => ?_)
    obtain rfl : r_4 = xcntP (fun b => decide (¬ shelf b ≤ 0 ∧ xstg share left life good b = sn)) bz := hr_4
    exact W.iret (v := xcntP (fun b => decide (¬ shelf b ≤ 0 ∧ xstg share left life good b = sn)) bz) hx hb hr (fun t ht hW => ⟨_, rfl, (show xcntP (fun b => decide (¬ shelf b ≤ 0 ∧ xstg share left life good b = sn)) bz = tStage wh (share sn) (xcntP (fun b => decide (¬ shelf b ≤ 0 ∧ xstg share left life good b = sn)) bz) (xsumP (fun b => decide (¬ shelf b ≤ 0 ∧ xstg share left life good b = sn)) shelf bz) from (by unfold tStage; rw [if_neg cs_2, if_pos cs_3])), ht⟩) (fun q h => by cases h) dX9_stage_57
  by_cases cs_5 : wh = nI 2
  · skip
    refine lv_tableIn (tgt := 58) hx hb dX9_stage_10 (by rw [cs_5]; decide) (by rw [cs_5]; decide) (by rw [cs_5]; rfl) (by decide) ?_
    refine lv_aload_n hx hb dX9_stage_58 rfl (lv_at hl 0 rfl) ?_
    refine va_get (D := (dC, dI)) (ci := 9) (v := .ref o0) (C := RX9) (T := TX9) (N := 9) hx hb hts i_X9 hown hK hP 0 rfl rfl 0 (by decide) k_12 (fun _ h9 => h9) rfl dX9_stage_59 ?_
    refine lv_iload_n hx hb dX9_stage_62 rfl (lv_at hl 1 rfl) ?_
    refine xkRi (xV (As := [.int (nI sn)]) (rest := []) (wc := [(o0, .inr (8, [.ref o1, .ref o6, o0_orders, .ref o31, o0_log, o0_settings, o0_rebate, o0_day])), (o6, .inr (0, [.int (nI bz), .ref o7, o6_came, .ref o9, .ref o10, o6_sold, o6_given, o6_cents, o6_wasted])), (o9, .inl (cI, 40, .inl left)), (o7, .inl (cI, 40, .inl good)), (o10, .inl (cI, 40, .inl shelf)), (o1, .inr (3, [o1_size, o1_price, .ref o3, o1_listed, o1_list])), (o3, .inl (cI, 12, .inl life)), (o31, .inr (7, [.ref o32, o31_markdown])), (o32, .inl (cI, 4, .inl share))]) hx hb hml hown hts (c_X8_unitsInStage l dC dI cI cF cC cZ cQ cS o0 o1 o6 o0_orders o31 o0_log o0_settings o0_rebate o0_day o7 o6_came o9 o10 o6_sold o6_given o6_cents o6_wasted left good shelf o1_size o1_price o3 o1_listed o1_list life o32 o31_markdown share bz sn (by omega) hga hsn) 1 gX9_stage_X8_unitsInStage rfl rfl rfl hdV_X8_unitsInStage ⟨Nat.le_of_ble_eq_true rfl, Nat.le_of_ble_eq_true rfl⟩ hN hK hP hD [1, 4, 6, 5, 7, 2, 3, 8, 9] rfl rfl 8 1 rfl rfl rfl hl.1 rfl (Nat.le_of_ble_eq_true rfl) dX9_stage_63 ⟨Nat.zero_le _, Nat.zero_le _⟩) (fun r_6 hr_6 => ?_)
    obtain rfl : r_6 = xsumP (fun b => decide (¬ shelf b ≤ 0 ∧ xstg share left life good b = sn)) shelf bz := hr_6
    exact W.iret (v := xsumP (fun b => decide (¬ shelf b ≤ 0 ∧ xstg share left life good b = sn)) shelf bz) hx hb hr (fun t ht hW => ⟨_, rfl, (show xsumP (fun b => decide (¬ shelf b ≤ 0 ∧ xstg share left life good b = sn)) shelf bz = tStage wh (share sn) (xcntP (fun b => decide (¬ shelf b ≤ 0 ∧ xstg share left life good b = sn)) bz) (xsumP (fun b => decide (¬ shelf b ≤ 0 ∧ xstg share left life good b = sn)) shelf bz) from (by unfold tStage; rw [if_neg cs_2, if_neg cs_3, if_pos cs_5])), ht⟩) (fun q h => by cases h) dX9_stage_66
  refine lv_tableOut (tgt := 67) hx hb dX9_stage_10 (xsw_out 3 (by decide) (fun j hj => by
      rcases (show j = 0 ∨ j = 1 ∨ j = 2 by omega) with rfl | rfl | rfl
      · exact cs_2
      · exact cs_3
      · exact cs_5)) (by decide) ?_
  refine lv_bipush (v := (-2)) hx hb dX9_stage_67 (by decide) ?_
  exact W.iret (v := (-2)) hx hb hr (fun t ht hW => ⟨_, rfl, (show (-2) = tStage wh (share sn) (xcntP (fun b => decide (¬ shelf b ≤ 0 ∧ xstg share left life good b = sn)) bz) (xsumP (fun b => decide (¬ shelf b ≤ 0 ∧ xstg share left life good b = sn)) shelf bz) from (by unfold tStage; rw [if_neg cs_2, if_neg cs_3, if_neg cs_5])), ht⟩) (fun q h => by cases h) dX9_stage_69
