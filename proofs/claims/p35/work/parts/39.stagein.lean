theorem hdV_X9_stageIn : yX9_stageIn.cls = RX9 ∧ yX9_stageIn.cls ≠ "java/lang/invoke/MethodHandle" ∧ yX9_stageIn.cls ≠ "java/lang/invoke/VarHandle" ∧ (parseMethodDescriptor yX9_stageIn.desc).map (fun d => d.parameters.length) = some 2 := by decide +kernel
set_option maxHeartbeats 4000000 in
set_option maxRecDepth 100000 in
theorem c_X9_stageInu (l : Launch) (dC : Nat → ClassId) (dI : Nat → Nat → Nat) (cI cF cC cZ cQ cS : ClassId) (x0 : Nat) (o0 : Nat) (x0_snapshot : Value) (x0_trial : Value) (x0_history : Value) (x0_filling : Value) (x0_delivery : Value) (x0_text : Value) (x0_textLength : Value) (x0_hasSnapshot : Value) (o0_goods : Value) (o6 : Nat) (o0_orders : Value) (o0_stages : Value) (o0_log : Value) (o0_settings : Value) (o0_rebate : Value) (o0_day : Value) (bz : Nat) (o6_good : Value) (o6_came : Value) (o6_left : Value) (o6_shelf : Value) (o6_sold : Value) (o6_given : Value) (o6_cents : Value) (o6_wasted : Value) (bq : Int32) (st : Int32) (hbz : bz ≤ 40) (he : ¬ eSin bq st bz = nI 0) : Met l yX9_stageIn wsX9_stageIn ({ frames := 2, cells := 0, slots := 0, locals := 43 }) (xPre (dC, dI) vwCl [.ref x0, .int bq, .int st] (xtys cI cF cC cZ cQ cS) [(x0, .inr (9, [.ref o0, x0_snapshot, x0_trial, x0_history, x0_filling, x0_delivery, x0_text, x0_textLength, x0_hasSnapshot])), (o0, .inr (8, [o0_goods, .ref o6, o0_orders, o0_stages, o0_log, o0_settings, o0_rebate, o0_day])), (o6, .inr (0, [.int (nI bz), o6_good, o6_came, o6_left, o6_shelf, o6_sold, o6_given, o6_cents, o6_wasted]))]) (vp_Si (fun r0 => r0 = eSin bq st bz)) 0 0 (fun _ => False) := by
  refine Met.ofW (cc := cX9_stageIn) (maxL := 6) (ret := (some .int)) (by decide) rfl ?_
  intro p e s m args below meth c s₁ B hml hv
  obtain ⟨rfl, hP, hK, hD0, hN⟩ := hv
  have hx := B.exec
  have hb := B.bytes
  have hr := B.returns
  have hts := atoms_spec (ws := wsX9_stageIn) B.pre
  have hown : s.vm.findClass RX9 = some m.cls := findClass_of_methodNamed B.named
  have hlocks := B.notSynchronized
  have hD := hD0
  have hl := lv_entry ([.ref x0, .int bq, .int st]) (n := 6) (Nat.le_of_ble_eq_true rfl)
  rw [lg_entry_eq]
  generalize (lg_sl ([.ref x0, .int bq, .int st]) ++ List.replicate (6 - (lg_sl ([.ref x0, .int bq, .int st])).length) Slot.unset).toArray = ls at hl ⊢
  have hl : lv_has ls 6 [(0, .ref x0), (1, .int bq), (2, .int st)] := hl
  refine lv_aload_n hx hb dX9_stageIn_0 rfl (lv_at hl 0 rfl) ?_
  refine lv_iload_n hx hb dX9_stageIn_1 rfl (lv_at hl 1 rfl) ?_
  refine xkRi (xV (As := [.int bq]) (rest := []) (wc := [(x0, .inr (9, [.ref o0, x0_snapshot, x0_trial, x0_history, x0_filling, x0_delivery, x0_text, x0_textLength, x0_hasSnapshot])), (o0, .inr (8, [o0_goods, .ref o6, o0_orders, o0_stages, o0_log, o0_settings, o0_rebate, o0_day])), (o6, .inr (0, [.int (nI bz), o6_good, o6_came, o6_left, o6_shelf, o6_sold, o6_given, o6_cents, o6_wasted]))]) hx hb hml hown hts (c_X9_hasBatch l dC dI cI cF cC cZ cQ cS x0 o0 x0_snapshot x0_trial x0_history x0_filling x0_delivery x0_text x0_textLength x0_hasSnapshot o0_goods o6 o0_orders o0_stages o0_log o0_settings o0_rebate o0_day bz o6_good o6_came o6_left o6_shelf o6_sold o6_given o6_cents o6_wasted bq (by omega)) 1 gX9_stageIn_X9_hasBatch rfl rfl rfl hdV_X9_hasBatch ⟨Nat.le_of_ble_eq_true rfl, Nat.le_of_ble_eq_true rfl⟩ hN hK hP hD [0, 1, 2] rfl rfl 9 0 rfl rfl rfl hl.1 rfl (Nat.le_of_ble_eq_true rfl) dX9_stageIn_2 ⟨Nat.zero_le _, Nat.zero_le _⟩) (fun r_1 hr_1 => ?_)
  have hr_1 : r_1 = (if xhas bq bz then nI 1 else nI 0) := hr_1
  rcases xi_ite inferInstance hr_1 with ⟨c_2, hr_1⟩ | ⟨c_2, hr_1⟩
  · subst hr_1
    refine xr_if1 (tgt := 17) hx hb (by decide) dX9_stageIn_5 (by decide) ?_
    refine lv_iload_n hx hb dX9_stageIn_8 rfl (lv_at hl 2 rfl) ?_
    refine lv_iconst (v := nI 1) hx hb dX9_stageIn_9 (by decide) ?_
    refine lv_iconst (v := nI 3) hx hb dX9_stageIn_10 (by decide) ?_
    refine xkRi (xSs (Ws' := ([] : List Cond)) (As := [.int st, .int (nI 1), .int (nI 3)]) (rest := []) (wc := []) hx hb hml hown hts (c_X9_within l dC dI cI cF cC cZ cQ cS st (nI 1) (nI 3)) 3 (fun hR => va_cwS 3 hts gX9_stageIn_X9_within rfl rfl rfl hdN_X9_within hR) ⟨Nat.le_of_ble_eq_true rfl, Nat.le_of_ble_eq_true rfl⟩ hN hK hP hD [] rfl rfl rfl hl.1 rfl (Nat.le_of_ble_eq_true rfl) dX9_stageIn_11 ⟨Nat.zero_le _, Nat.zero_le _⟩) (fun r_3 hr_3 => ?_)
    have hr_3 : r_3 = (if (nI 1) ≤ st ∧ st ≤ (nI 3) then nI 1 else nI 0) := hr_3
    rcases xi_ite inferInstance hr_3 with ⟨c_4, hr_3⟩ | ⟨c_4, hr_3⟩
    · subst hr_3
      refine xr_ifn1 (tgt := 19) hx hb (by decide) dX9_stageIn_14 (by decide) ?_
      exact (he (by unfold eSin; rw [if_neg (fun z9 => z9.elim (fun z9 => z9 c_2) (fun z9 => z9 c_4))])).elim
    subst hr_3
    refine xr_ifn0 (tgt := 19) hx hb (by decide) dX9_stageIn_14 (by decide) ?_
    refine lv_iconst (v := (-1)) hx hb dX9_stageIn_17 (by decide) ?_
    exact W.iret (v := (-1)) hx hb hr (fun t ht hW => ⟨_, rfl, (show (-1) = eSin bq st bz from (by unfold eSin; rw [if_pos (Or.inr c_4)])), ht⟩) (fun q h => by cases h) dX9_stageIn_18
  subst hr_1
  refine xr_if0 (tgt := 17) hx hb (by decide) dX9_stageIn_5 (by decide) ?_
  refine lv_iconst (v := (-1)) hx hb dX9_stageIn_17 (by decide) ?_
  exact W.iret (v := (-1)) hx hb hr (fun t ht hW => ⟨_, rfl, (show (-1) = eSin bq st bz from (by unfold eSin; rw [if_pos (Or.inl c_2)])), ht⟩) (fun q h => by cases h) dX9_stageIn_18
set_option maxHeartbeats 4000000 in
set_option maxRecDepth 100000 in
theorem c_X9_stageInn (l : Launch) (dC : Nat → ClassId) (dI : Nat → Nat → Nat) (cI cF cC cZ cQ cS : ClassId) (x0 : Nat) (o0 : Nat) (x0_snapshot : Value) (x0_trial : Value) (x0_history : Value) (x0_filling : Value) (x0_delivery : Value) (x0_text : Value) (x0_textLength : Value) (x0_hasSnapshot : Value) (o1 : Nat) (o6 : Nat) (o0_orders : Value) (o31 : Nat) (o0_log : Value) (o0_settings : Value) (o0_rebate : Value) (o0_day : Value) (o1_size : Value) (o1_price : Value) (o3 : Nat) (o1_listed : Value) (o1_list : Value) (life : Nat → Int32) (bz : Nat) (o7 : Nat) (o6_came : Value) (o9 : Nat) (o10 : Nat) (o6_sold : Value) (o6_given : Value) (o6_cents : Value) (o6_wasted : Value) (good : Nat → Int32) (left : Nat → Int32) (shelf : Nat → Int32) (o32 : Nat) (o31_markdown : Value) (share : Nat → Int32) (kb : Nat) (gk : Nat) (dl : Nat) (sn : Nat) (hbz : bz ≤ 40) (hk : kb < bz) (hgk : good kb = nI gk) (hg12 : gk < 12) (hdl : left kb = nI dl) (hd60 : dl ≤ 60) (hw : nI 1 ≤ nI sn ∧ nI sn ≤ nI 3) (hsn : 1 ≤ sn ∧ sn ≤ 3) (hsh : shelf kb = 0) : Met l yX9_stageIn wsX9_stageIn ({ frames := 2, cells := 0, slots := 0, locals := 43 }) (xPre (dC, dI) vwCl [.ref x0, .int (nI kb), .int (nI sn)] (xtys cI cF cC cZ cQ cS) [(x0, .inr (9, [.ref o0, x0_snapshot, x0_trial, x0_history, x0_filling, x0_delivery, x0_text, x0_textLength, x0_hasSnapshot])), (o0, .inr (8, [.ref o1, .ref o6, o0_orders, .ref o31, o0_log, o0_settings, o0_rebate, o0_day])), (o1, .inr (3, [o1_size, o1_price, .ref o3, o1_listed, o1_list])), (o3, .inl (cI, 12, .inl life)), (o6, .inr (0, [.int (nI bz), .ref o7, o6_came, .ref o9, .ref o10, o6_sold, o6_given, o6_cents, o6_wasted])), (o7, .inl (cI, 40, .inl good)), (o9, .inl (cI, 40, .inl left)), (o10, .inl (cI, 40, .inl shelf)), (o31, .inr (7, [.ref o32, o31_markdown])), (o32, .inl (cI, 4, .inl share))]) (vp_Si (fun r0 => r0 = (-5))) 0 0 (fun _ => False) := by
  refine Met.ofW (cc := cX9_stageIn) (maxL := 6) (ret := (some .int)) (by decide) rfl ?_
  intro p e s m args below meth c s₁ B hml hv
  obtain ⟨rfl, hP, hK, hD0, hN⟩ := hv
  have hx := B.exec
  have hb := B.bytes
  have hr := B.returns
  have hts := atoms_spec (ws := wsX9_stageIn) B.pre
  have hown : s.vm.findClass RX9 = some m.cls := findClass_of_methodNamed B.named
  have hlocks := B.notSynchronized
  have k_12 := hts (Cond.fieldLink RX9 12 "ShelfStages" "now" "LShelfStages$State;") (by decide +kernel)
  have k_129 := hts (Cond.fieldLink RX9 129 "ShelfStages$State" "batches" "LShelfStages$Batches;") (by decide +kernel)
  have k_192 := hts (Cond.fieldLink RX9 192 "ShelfStages$Batches" "shelf" "[I") (by decide +kernel)
  have i_X0 : ∀ w ∈ wsX00, w ∈ wsX9_stageIn := by decide +kernel
  have i_X8 : ∀ w ∈ wsX80, w ∈ wsX9_stageIn := by decide +kernel
  have i_X9 : ∀ w ∈ wsX90, w ∈ wsX9_stageIn := by decide +kernel
  have hD := hD0
  have hl := lv_entry ([.ref x0, .int (nI kb), .int (nI sn)]) (n := 6) (Nat.le_of_ble_eq_true rfl)
  rw [lg_entry_eq]
  generalize (lg_sl ([.ref x0, .int (nI kb), .int (nI sn)]) ++ List.replicate (6 - (lg_sl ([.ref x0, .int (nI kb), .int (nI sn)])).length) Slot.unset).toArray = ls at hl ⊢
  have hl : lv_has ls 6 [(0, .ref x0), (1, .int (nI kb)), (2, .int (nI sn))] := hl
  refine lv_aload_n hx hb dX9_stageIn_0 rfl (lv_at hl 0 rfl) ?_
  refine lv_iload_n hx hb dX9_stageIn_1 rfl (lv_at hl 1 rfl) ?_
  refine xkRi (xV (As := [.int (nI kb)]) (rest := []) (wc := [(x0, .inr (9, [.ref o0, x0_snapshot, x0_trial, x0_history, x0_filling, x0_delivery, x0_text, x0_textLength, x0_hasSnapshot])), (o0, .inr (8, [.ref o1, .ref o6, o0_orders, .ref o31, o0_log, o0_settings, o0_rebate, o0_day])), (o6, .inr (0, [.int (nI bz), .ref o7, o6_came, .ref o9, .ref o10, o6_sold, o6_given, o6_cents, o6_wasted]))]) hx hb hml hown hts (c_X9_hasBatch l dC dI cI cF cC cZ cQ cS x0 o0 x0_snapshot x0_trial x0_history x0_filling x0_delivery x0_text x0_textLength x0_hasSnapshot (.ref o1) o6 o0_orders (.ref o31) o0_log o0_settings o0_rebate o0_day bz (.ref o7) o6_came (.ref o9) (.ref o10) o6_sold o6_given o6_cents o6_wasted (nI kb) (by omega)) 1 gX9_stageIn_X9_hasBatch rfl rfl rfl hdV_X9_hasBatch ⟨Nat.le_of_ble_eq_true rfl, Nat.le_of_ble_eq_true rfl⟩ hN hK hP hD [0, 1, 4] rfl rfl 9 0 rfl rfl rfl hl.1 rfl (Nat.le_of_ble_eq_true rfl) dX9_stageIn_2 ⟨Nat.zero_le _, Nat.zero_le _⟩) (fun r_1 hr_1 => ?_)
  have hr_1 : r_1 = (if xhas (nI kb) bz then nI 1 else nI 0) := hr_1
  obtain rfl : r_1 = nI 1 := hr_1.trans (if_pos (xhas_of hk (by omega)))
  refine xr_if1 (tgt := 17) hx hb (by decide) dX9_stageIn_5 (by decide) ?_
  refine lv_iload_n hx hb dX9_stageIn_8 rfl (lv_at hl 2 rfl) ?_
  refine lv_iconst (v := nI 1) hx hb dX9_stageIn_9 (by decide) ?_
  refine lv_iconst (v := nI 3) hx hb dX9_stageIn_10 (by decide) ?_
  refine xkRi (xSs (Ws' := ([] : List Cond)) (As := [.int (nI sn), .int (nI 1), .int (nI 3)]) (rest := []) (wc := []) hx hb hml hown hts (c_X9_within l dC dI cI cF cC cZ cQ cS (nI sn) (nI 1) (nI 3)) 3 (fun hR => va_cwS 3 hts gX9_stageIn_X9_within rfl rfl rfl hdN_X9_within hR) ⟨Nat.le_of_ble_eq_true rfl, Nat.le_of_ble_eq_true rfl⟩ hN hK hP hD [] rfl rfl rfl hl.1 rfl (Nat.le_of_ble_eq_true rfl) dX9_stageIn_11 ⟨Nat.zero_le _, Nat.zero_le _⟩) (fun r_2 hr_2 => ?_)
  have hr_2 : r_2 = (if (nI 1) ≤ (nI sn) ∧ (nI sn) ≤ (nI 3) then nI 1 else nI 0) := hr_2
  obtain rfl : r_2 = nI 1 := hr_2.trans (if_pos hw)
  refine xr_ifn1 (tgt := 19) hx hb (by decide) dX9_stageIn_14 (by decide) ?_
  refine lv_aload_n hx hb dX9_stageIn_19 rfl (lv_at hl 0 rfl) ?_
  refine va_get (D := (dC, dI)) (ci := 9) (v := .ref o0) (C := RX9) (T := TX9) (N := 9) hx hb hts i_X9 hown hK hP 0 rfl rfl 0 (by decide) k_12 (fun _ h9 => h9) rfl dX9_stageIn_20 ?_
  refine va_get (D := (dC, dI)) (ci := 8) (v := .ref o6) (C := RX8) (T := TX8) (N := 8) hx hb hts i_X8 hown hK hP 1 rfl rfl 1 (by decide) k_129 (fun _ h9 => h9) rfl dX9_stageIn_23 ?_
  refine va_get (D := (dC, dI)) (ci := 0) (v := .ref o10) (C := RX0) (T := TX0) (N := 9) hx hb hts i_X0 hown hK hP 4 rfl rfl 4 (by decide) k_192 (fun _ h9 => h9) rfl dX9_stageIn_26 ?_
  refine lv_iload_n hx hb dX9_stageIn_29 rfl (lv_at hl 1 rfl) ?_
  refine xr_iald hx hb hK hP 7 0 rfl rfl (i := kb) (by omega) (by decide) dX9_stageIn_30 ?_
  refine lv_if_ne (tgt := 37) hx hb dX9_stageIn_31 (by decide) (fun c_3 => False.elim (by exact c_3 hsh)) (fun c_3 => ?_)
  refine lv_bipush (v := (-5)) hx hb dX9_stageIn_34 (by decide) ?_
  exact W.iret (v := (-5)) hx hb hr (fun t ht hW => ⟨_, rfl, (show (-5) = (-5) from rfl), ht⟩) (fun q h => by cases h) dX9_stageIn_36
set_option maxHeartbeats 4000000 in
set_option maxRecDepth 100000 in
theorem c_X9_stageIns (l : Launch) (dC : Nat → ClassId) (dI : Nat → Nat → Nat) (cI cF cC cZ cQ cS : ClassId) (x0 : Nat) (o0 : Nat) (x0_snapshot : Value) (x0_trial : Value) (x0_history : Value) (x0_filling : Value) (x0_delivery : Value) (x0_text : Value) (x0_textLength : Value) (x0_hasSnapshot : Value) (o1 : Nat) (o6 : Nat) (o0_orders : Value) (o31 : Nat) (o0_log : Value) (o0_settings : Value) (o0_rebate : Value) (o0_day : Value) (o1_size : Value) (o1_price : Value) (o3 : Nat) (o1_listed : Value) (o1_list : Value) (life : Nat → Int32) (bz : Nat) (o7 : Nat) (o6_came : Value) (o9 : Nat) (o10 : Nat) (o6_sold : Value) (o6_given : Value) (o6_cents : Value) (o6_wasted : Value) (good : Nat → Int32) (left : Nat → Int32) (shelf : Nat → Int32) (o32 : Nat) (o31_markdown : Value) (share : Nat → Int32) (kb : Nat) (gk : Nat) (dl : Nat) (sn : Nat) (hbz : bz ≤ 40) (hk : kb < bz) (hgk : good kb = nI gk) (hg12 : gk < 12) (hdl : left kb = nI dl) (hd60 : dl ≤ 60) (hw : nI 1 ≤ nI sn ∧ nI sn ≤ nI 3) (hsn : 1 ≤ sn ∧ sn ≤ 3) (hsh : ¬ shelf kb = 0) : Met l yX9_stageIn wsX9_stageIn ({ frames := 2, cells := 0, slots := 0, locals := 43 }) (xPre (dC, dI) vwCl [.ref x0, .int (nI kb), .int (nI sn)] (xtys cI cF cC cZ cQ cS) [(x0, .inr (9, [.ref o0, x0_snapshot, x0_trial, x0_history, x0_filling, x0_delivery, x0_text, x0_textLength, x0_hasSnapshot])), (o0, .inr (8, [.ref o1, .ref o6, o0_orders, .ref o31, o0_log, o0_settings, o0_rebate, o0_day])), (o1, .inr (3, [o1_size, o1_price, .ref o3, o1_listed, o1_list])), (o3, .inl (cI, 12, .inl life)), (o6, .inr (0, [.int (nI bz), .ref o7, o6_came, .ref o9, .ref o10, o6_sold, o6_given, o6_cents, o6_wasted])), (o7, .inl (cI, 40, .inl good)), (o9, .inl (cI, 40, .inl left)), (o10, .inl (cI, 40, .inl shelf)), (o31, .inr (7, [.ref o32, o31_markdown])), (o32, .inl (cI, 4, .inl share))]) (vp_Si (fun r0 => r0 = xfst (fun j => xreach (share 1) (share 2) (share 3) (nI (dl - j)) (life gk)) sn 0 dl)) 0 0 (fun _ => False) := by
  refine Met.ofW (cc := cX9_stageIn) (maxL := 6) (ret := (some .int)) (by decide) rfl ?_
  intro p e s m args below meth c s₁ B hml hv
  obtain ⟨rfl, hP, hK, hD0, hN⟩ := hv
  have hx := B.exec
  have hb := B.bytes
  have hr := B.returns
  have hts := atoms_spec (ws := wsX9_stageIn) B.pre
  have hown : s.vm.findClass RX9 = some m.cls := findClass_of_methodNamed B.named
  have hlocks := B.notSynchronized
  have k_12 := hts (Cond.fieldLink RX9 12 "ShelfStages" "now" "LShelfStages$State;") (by decide +kernel)
  have k_129 := hts (Cond.fieldLink RX9 129 "ShelfStages$State" "batches" "LShelfStages$Batches;") (by decide +kernel)
  have k_192 := hts (Cond.fieldLink RX9 192 "ShelfStages$Batches" "shelf" "[I") (by decide +kernel)
  have k_220 := hts (Cond.fieldLink RX9 220 "ShelfStages$Goods" "life" "[I") (by decide +kernel)
  have k_235 := hts (Cond.fieldLink RX9 235 "ShelfStages$Batches" "good" "[I") (by decide +kernel)
  have k_241 := hts (Cond.fieldLink RX9 241 "ShelfStages$Batches" "left" "[I") (by decide +kernel)
  have k_51 := hts (Cond.fieldLink RX9 51 "ShelfStages$State" "goods" "LShelfStages$Goods;") (by decide +kernel)
  have k_94 := hts (Cond.fieldLink RX9 94 "ShelfStages$State" "stages" "LShelfStages$Stages;") (by decide +kernel)
  have i_X0 : ∀ w ∈ wsX00, w ∈ wsX9_stageIn := by decide +kernel
  have i_X3 : ∀ w ∈ wsX30, w ∈ wsX9_stageIn := by decide +kernel
  have i_X8 : ∀ w ∈ wsX80, w ∈ wsX9_stageIn := by decide +kernel
  have i_X9 : ∀ w ∈ wsX90, w ∈ wsX9_stageIn := by decide +kernel
  have hD := hD0
  have hl := lv_entry ([.ref x0, .int (nI kb), .int (nI sn)]) (n := 6) (Nat.le_of_ble_eq_true rfl)
  rw [lg_entry_eq]
  generalize (lg_sl ([.ref x0, .int (nI kb), .int (nI sn)]) ++ List.replicate (6 - (lg_sl ([.ref x0, .int (nI kb), .int (nI sn)])).length) Slot.unset).toArray = ls at hl ⊢
  have hl : lv_has ls 6 [(0, .ref x0), (1, .int (nI kb)), (2, .int (nI sn))] := hl
  refine lv_aload_n hx hb dX9_stageIn_0 rfl (lv_at hl 0 rfl) ?_
  refine lv_iload_n hx hb dX9_stageIn_1 rfl (lv_at hl 1 rfl) ?_
  refine xkRi (xV (As := [.int (nI kb)]) (rest := []) (wc := [(x0, .inr (9, [.ref o0, x0_snapshot, x0_trial, x0_history, x0_filling, x0_delivery, x0_text, x0_textLength, x0_hasSnapshot])), (o0, .inr (8, [.ref o1, .ref o6, o0_orders, .ref o31, o0_log, o0_settings, o0_rebate, o0_day])), (o6, .inr (0, [.int (nI bz), .ref o7, o6_came, .ref o9, .ref o10, o6_sold, o6_given, o6_cents, o6_wasted]))]) hx hb hml hown hts (c_X9_hasBatch l dC dI cI cF cC cZ cQ cS x0 o0 x0_snapshot x0_trial x0_history x0_filling x0_delivery x0_text x0_textLength x0_hasSnapshot (.ref o1) o6 o0_orders (.ref o31) o0_log o0_settings o0_rebate o0_day bz (.ref o7) o6_came (.ref o9) (.ref o10) o6_sold o6_given o6_cents o6_wasted (nI kb) (by omega)) 1 gX9_stageIn_X9_hasBatch rfl rfl rfl hdV_X9_hasBatch ⟨Nat.le_of_ble_eq_true rfl, Nat.le_of_ble_eq_true rfl⟩ hN hK hP hD [0, 1, 4] rfl rfl 9 0 rfl rfl rfl hl.1 rfl (Nat.le_of_ble_eq_true rfl) dX9_stageIn_2 ⟨Nat.zero_le _, Nat.zero_le _⟩) (fun r_1 hr_1 => ?_)
  have hr_1 : r_1 = (if xhas (nI kb) bz then nI 1 else nI 0) := hr_1
  obtain rfl : r_1 = nI 1 := hr_1.trans (if_pos (xhas_of hk (by omega)))
  refine xr_if1 (tgt := 17) hx hb (by decide) dX9_stageIn_5 (by decide) ?_
  refine lv_iload_n hx hb dX9_stageIn_8 rfl (lv_at hl 2 rfl) ?_
  refine lv_iconst (v := nI 1) hx hb dX9_stageIn_9 (by decide) ?_
  refine lv_iconst (v := nI 3) hx hb dX9_stageIn_10 (by decide) ?_
  refine xkRi (xSs (Ws' := ([] : List Cond)) (As := [.int (nI sn), .int (nI 1), .int (nI 3)]) (rest := []) (wc := []) hx hb hml hown hts (c_X9_within l dC dI cI cF cC cZ cQ cS (nI sn) (nI 1) (nI 3)) 3 (fun hR => va_cwS 3 hts gX9_stageIn_X9_within rfl rfl rfl hdN_X9_within hR) ⟨Nat.le_of_ble_eq_true rfl, Nat.le_of_ble_eq_true rfl⟩ hN hK hP hD [] rfl rfl rfl hl.1 rfl (Nat.le_of_ble_eq_true rfl) dX9_stageIn_11 ⟨Nat.zero_le _, Nat.zero_le _⟩) (fun r_2 hr_2 => ?_)
  have hr_2 : r_2 = (if (nI 1) ≤ (nI sn) ∧ (nI sn) ≤ (nI 3) then nI 1 else nI 0) := hr_2
  obtain rfl : r_2 = nI 1 := hr_2.trans (if_pos hw)
  refine xr_ifn1 (tgt := 19) hx hb (by decide) dX9_stageIn_14 (by decide) ?_
  refine lv_aload_n hx hb dX9_stageIn_19 rfl (lv_at hl 0 rfl) ?_
  refine va_get (D := (dC, dI)) (ci := 9) (v := .ref o0) (C := RX9) (T := TX9) (N := 9) hx hb hts i_X9 hown hK hP 0 rfl rfl 0 (by decide) k_12 (fun _ h9 => h9) rfl dX9_stageIn_20 ?_
  refine va_get (D := (dC, dI)) (ci := 8) (v := .ref o6) (C := RX8) (T := TX8) (N := 8) hx hb hts i_X8 hown hK hP 1 rfl rfl 1 (by decide) k_129 (fun _ h9 => h9) rfl dX9_stageIn_23 ?_
  refine va_get (D := (dC, dI)) (ci := 0) (v := .ref o10) (C := RX0) (T := TX0) (N := 9) hx hb hts i_X0 hown hK hP 4 rfl rfl 4 (by decide) k_192 (fun _ h9 => h9) rfl dX9_stageIn_26 ?_
  refine lv_iload_n hx hb dX9_stageIn_29 rfl (lv_at hl 1 rfl) ?_
  refine xr_iald hx hb hK hP 7 0 rfl rfl (i := kb) (by omega) (by decide) dX9_stageIn_30 ?_
  refine lv_if_ne (tgt := 37) hx hb dX9_stageIn_31 (by decide) (fun c_3 => ?_) (fun c_3 => False.elim (by exact hsh c_3))
  refine lv_aload_n hx hb dX9_stageIn_37 rfl (lv_at hl 0 rfl) ?_
  refine va_get (D := (dC, dI)) (ci := 9) (v := .ref o0) (C := RX9) (T := TX9) (N := 9) hx hb hts i_X9 hown hK hP 0 rfl rfl 0 (by decide) k_12 (fun _ h9 => h9) rfl dX9_stageIn_38 ?_
  refine va_get (D := (dC, dI)) (ci := 8) (v := .ref o6) (C := RX8) (T := TX8) (N := 8) hx hb hts i_X8 hown hK hP 1 rfl rfl 1 (by decide) k_129 (fun _ h9 => h9) rfl dX9_stageIn_41 ?_
  refine va_get (D := (dC, dI)) (ci := 0) (v := .ref o9) (C := RX0) (T := TX0) (N := 9) hx hb hts i_X0 hown hK hP 4 rfl rfl 3 (by decide) k_241 (fun _ h9 => h9) rfl dX9_stageIn_44 ?_
  refine lv_iload_n hx hb dX9_stageIn_47 rfl (lv_at hl 1 rfl) ?_
  refine xr_iald hx hb hK hP 6 0 rfl rfl (i := kb) (by omega) (by decide) dX9_stageIn_48 ?_
  refine xr_top (show left kb = nI dl from hdl) ?_
  refine lv_istore_n (lv' := [(3, .int (nI dl)), (0, .ref x0), (1, .int (nI kb)), (2, .int (nI sn))]) hx hb dX9_stageIn_49 rfl hl (by decide) rfl (fun ls hl => ?_)
  refine lv_aload_n hx hb dX9_stageIn_50 rfl (lv_at hl 1 rfl) ?_
  refine va_get (D := (dC, dI)) (ci := 9) (v := .ref o0) (C := RX9) (T := TX9) (N := 9) hx hb hts i_X9 hown hK hP 0 rfl rfl 0 (by decide) k_12 (fun _ h9 => h9) rfl dX9_stageIn_51 ?_
  refine va_get (D := (dC, dI)) (ci := 8) (v := .ref o1) (C := RX8) (T := TX8) (N := 8) hx hb hts i_X8 hown hK hP 1 rfl rfl 0 (by decide) k_51 (fun _ h9 => h9) rfl dX9_stageIn_54 ?_
  refine va_get (D := (dC, dI)) (ci := 3) (v := .ref o3) (C := RX3) (T := TX3) (N := 5) hx hb hts i_X3 hown hK hP 2 rfl rfl 2 (by decide) k_220 (fun _ h9 => h9) rfl dX9_stageIn_57 ?_
  refine lv_aload_n hx hb dX9_stageIn_60 rfl (lv_at hl 1 rfl) ?_
  refine va_get (D := (dC, dI)) (ci := 9) (v := .ref o0) (C := RX9) (T := TX9) (N := 9) hx hb hts i_X9 hown hK hP 0 rfl rfl 0 (by decide) k_12 (fun _ h9 => h9) rfl dX9_stageIn_61 ?_
  refine va_get (D := (dC, dI)) (ci := 8) (v := .ref o6) (C := RX8) (T := TX8) (N := 8) hx hb hts i_X8 hown hK hP 1 rfl rfl 1 (by decide) k_129 (fun _ h9 => h9) rfl dX9_stageIn_64 ?_
  refine va_get (D := (dC, dI)) (ci := 0) (v := .ref o7) (C := RX0) (T := TX0) (N := 9) hx hb hts i_X0 hown hK hP 4 rfl rfl 1 (by decide) k_235 (fun _ h9 => h9) rfl dX9_stageIn_67 ?_
  refine lv_iload_n hx hb dX9_stageIn_70 rfl (lv_at hl 2 rfl) ?_
  refine xr_iald hx hb hK hP 5 0 rfl rfl (i := kb) (by omega) (by decide) dX9_stageIn_71 ?_
  refine xr_top (show good kb = nI gk from hgk) ?_
  refine xr_iald hx hb hK hP 3 0 rfl rfl (i := gk) (by omega) (by decide) dX9_stageIn_72 ?_
  refine lv_istore (lv' := [(4, .int (life gk)), (3, .int (nI dl)), (0, .ref x0), (1, .int (nI kb)), (2, .int (nI sn))]) hx hb dX9_stageIn_73 hl (by decide) rfl (fun ls hl => ?_)
  refine lv_iconst (v := nI 0) hx hb dX9_stageIn_75 (by decide) ?_
  refine lv_istore (lv' := [(5, .int (nI 0)), (4, .int (life gk)), (3, .int (nI dl)), (0, .ref x0), (1, .int (nI kb)), (2, .int (nI sn))]) hx hb dX9_stageIn_76 hl (by decide) rfl (fun ls hl => ?_)
  refine xr_loop (J := Nat) (fun n0 H locs g => ∃ (k : Nat) (ls : Array Slot), H = s.heap ∧ locs = [] ∧ n0 = (dl + 1) - k ∧ g = F0 m 78 ls [] ∧ lv_has ls 6 [(5, .int (nI k)), (4, .int (life gk)), (3, .int (nI dl)), (0, .ref x0), (1, .int (nI kb)), (2, .int (nI sn))] ∧ (k ≤ dl) ∧ (xfst (fun j => xreach (share 1) (share 2) (share 3) (nI (dl - j)) (life gk)) sn 0 dl = xfst (fun j => xreach (share 1) (share 2) (share 3) (nI (dl - j)) (life gk)) sn k (dl - k))) (fun n => n) ?_ ((dl + 1) - 0) (g := F0 m 78 ls []) ⟨0, ls, rfl, rfl, rfl, rfl, lv_sub hl [0, 1, 2, 3, 4, 5] rfl, (Nat.zero_le _), rfl⟩
  intro n0 ih_78 H locs g hp
  obtain ⟨k, ls, rfl, rfl, rfl, rfl, hl, hk, hfs⟩ := hp
  refine lv_iload hx hb dX9_stageIn_78 (lv_at hl 0 rfl) ?_
  refine lv_iload_n hx hb dX9_stageIn_80 rfl (lv_at hl 2 rfl) ?_
  refine xr_ge_n (tgt := 113) hx hb (by omega) (by omega) dX9_stageIn_81 (by decide) (fun c_4 => ?_) (fun c_4 => ?_)
  · skip
    refine lv_bipush (v := (-5)) hx hb dX9_stageIn_113 (by decide) ?_
    exact W.iret (v := (-5)) hx hb hr (fun t ht hW => ⟨_, rfl, (show (-5) = xfst (fun j => xreach (share 1) (share 2) (share 3) (nI (dl - j)) (life gk)) sn 0 dl from (hfs.trans (xfst_end (f := (fun j => xreach (share 1) (share 2) (share 3) (nI (dl - j)) (life gk))) (by omega))).symm), ht⟩) (fun q h => by cases h) dX9_stageIn_115
  refine lv_aload_n hx hb dX9_stageIn_84 rfl (lv_at hl 3 rfl) ?_
  refine va_get (D := (dC, dI)) (ci := 9) (v := .ref o0) (C := RX9) (T := TX9) (N := 9) hx hb hts i_X9 hown hK hP 0 rfl rfl 0 (by decide) k_12 (fun _ h9 => h9) rfl dX9_stageIn_85 ?_
  refine va_get (D := (dC, dI)) (ci := 8) (v := .ref o31) (C := RX8) (T := TX8) (N := 8) hx hb hts i_X8 hown hK hP 1 rfl rfl 3 (by decide) k_94 (fun _ h9 => h9) rfl dX9_stageIn_88 ?_
  refine lv_iload_n hx hb dX9_stageIn_91 rfl (lv_at hl 2 rfl) ?_
  refine lv_iload hx hb dX9_stageIn_92 (lv_at hl 0 rfl) ?_
  refine xr_isub_n hx hb (by omega) dX9_stageIn_94 ?_
  refine lv_iload hx hb dX9_stageIn_95 (lv_at hl 1 rfl) ?_
  refine xkRi (xV (As := [.int (nI (dl - k)), .int (life gk)]) (rest := []) (wc := [(o31, .inr (7, [.ref o32, o31_markdown])), (o32, .inl (cI, 4, .inl share))]) hx hb hml hown hts (c_X7_reached l dC dI cI cF cC cZ cQ cS o31 o32 o31_markdown share (nI (dl - k)) (life gk)) 2 gX9_stageIn_X7_reached rfl rfl rfl hdV_X7_reached ⟨Nat.le_of_ble_eq_true rfl, Nat.le_of_ble_eq_true rfl⟩ hN hK hP hD [8, 9] rfl rfl 7 8 rfl rfl rfl hl.1 rfl (Nat.le_of_ble_eq_true rfl) dX9_stageIn_97 ⟨Nat.zero_le _, Nat.zero_le _⟩) (fun r_5 hr_5 => ?_)
  obtain rfl : r_5 = nI (xreach (share 1) (share 2) (share 3) (nI (dl - k)) (life gk)) := hr_5
  have hr4 := xreach_lt (share 1) (share 2) (share 3) (nI (dl - k)) (life gk)
  refine lv_iload_n hx hb dX9_stageIn_100 rfl (lv_at hl 5 rfl) ?_
  refine xr_lt_n (tgt := 107) hx hb (by omega) (by omega) dX9_stageIn_101 (by decide) (fun c_6 => ?_) (fun c_6 => ?_)
  · skip
    refine lv_iinc (v := nI (k + 1)) (lv' := [(5, .int (nI (k + 1))), (4, .int (life gk)), (3, .int (nI dl)), (0, .ref x0), (1, .int (nI kb)), (2, .int (nI sn))]) hx hb dX9_stageIn_107 hl (k := 0) rfl (nI_inc1 k) (by decide) rfl (fun ls hl => ?_)
    refine lv_goto (tgt := 78) hx hb dX9_stageIn_110 (by decide) ?_
    exact ih_78 ((dl + 1) - (k + 1)) _ _ _ (show (dl + 1) - (k + 1) < (dl + 1) - k from by omega) ⟨(k + 1), ls, rfl, rfl, rfl, rfl, lv_sub hl [0, 1, 2, 3, 4, 5] rfl, (by omega), (hfs.trans (xfst_no (f := (fun j => xreach (share 1) (share 2) (share 3) (nI (dl - j)) (life gk))) (by omega) c_6))⟩
  refine lv_iload hx hb dX9_stageIn_104 (lv_at hl 0 rfl) ?_
  exact W.iret (v := nI k) hx hb hr (fun t ht hW => ⟨_, rfl, (show nI k = xfst (fun j => xreach (share 1) (share 2) (share 3) (nI (dl - j)) (life gk)) sn 0 dl from (hfs.trans (xfst_yes (f := (fun j => xreach (share 1) (share 2) (share 3) (nI (dl - j)) (life gk))) (by omega) c_6)).symm), ht⟩) (fun q h => by cases h) dX9_stageIn_106