theorem hdV_X8_stageOf : yX8_stageOf.cls = RX8 ∧ yX8_stageOf.cls ≠ "java/lang/invoke/MethodHandle" ∧ yX8_stageOf.cls ≠ "java/lang/invoke/VarHandle" ∧ (parseMethodDescriptor yX8_stageOf.desc).map (fun d => d.parameters.length) = some 1 := by decide +kernel
set_option maxHeartbeats 4000000 in
set_option maxRecDepth 100000 in
theorem c_X8_stageOf (l : Launch) (dC : Nat → ClassId) (dI : Nat → Nat → Nat) (cI cF cC cZ cQ cS : ClassId) (h0 : Nat) (go : Nat) (ba : Nat) (h0_orders : Value) (sg : Nat) (h0_log : Value) (h0_settings : Value) (h0_rebate : Value) (h0_day : Value) (ba_size : Value) (gq : Nat) (ba_came : Value) (lq : Nat) (ba_shelf : Value) (ba_sold : Value) (ba_given : Value) (ba_cents : Value) (ba_wasted : Value) (left : Nat → Int32) (good : Nat → Int32) (go_size : Value) (go_price : Value) (fq : Nat) (go_listed : Value) (go_list : Value) (life : Nat → Int32) (shq : Nat) (sg_markdown : Value) (share : Nat → Int32) (bt : Nat) (hbt : bt < 40) (hgb : (good bt).toNatClampNeg < 12 ∧ good bt = nI (good bt).toNatClampNeg) : Met l yX8_stageOf wsX8_stageOf ({ frames := 1, cells := 0, slots := 0, locals := 23 }) (xPre (dC, dI) vwCl [.ref h0, .int (nI bt)] (xtys cI cF cC cZ cQ cS) [(h0, .inr (8, [.ref go, .ref ba, h0_orders, .ref sg, h0_log, h0_settings, h0_rebate, h0_day])), (ba, .inr (0, [ba_size, .ref gq, ba_came, .ref lq, ba_shelf, ba_sold, ba_given, ba_cents, ba_wasted])), (lq, .inl (cI, 40, .inl left)), (gq, .inl (cI, 40, .inl good)), (go, .inr (3, [go_size, go_price, .ref fq, go_listed, go_list])), (fq, .inl (cI, 12, .inl life)), (sg, .inr (7, [.ref shq, sg_markdown])), (shq, .inl (cI, 4, .inl share))]) (vp_Si (fun r0 => r0 = nI (xstg share left life good bt))) 0 0 (fun _ => False) := by
  refine Met.ofW (cc := cX8_stageOf) (maxL := 2) (ret := (some .int)) (by decide) rfl ?_
  intro p e s m args below meth c s₁ B hml hv
  obtain ⟨rfl, hP, hK, hD0, hN⟩ := hv
  have hx := B.exec
  have hb := B.bytes
  have hr := B.returns
  have hts := atoms_spec (ws := wsX8_stageOf) B.pre
  have hown : s.vm.findClass RX8 = some m.cls := findClass_of_methodNamed B.named
  have hlocks := B.notSynchronized
  have k_12 := hts (Cond.fieldLink RX8 12 "ShelfStages$State" "goods" "LShelfStages$Goods;") (by decide +kernel)
  have k_21 := hts (Cond.fieldLink RX8 21 "ShelfStages$State" "batches" "LShelfStages$Batches;") (by decide +kernel)
  have k_35 := hts (Cond.fieldLink RX8 35 "ShelfStages$State" "stages" "LShelfStages$Stages;") (by decide +kernel)
  have k_78 := hts (Cond.fieldLink RX8 78 "ShelfStages$Batches" "left" "[I") (by decide +kernel)
  have k_81 := hts (Cond.fieldLink RX8 81 "ShelfStages$Goods" "life" "[I") (by decide +kernel)
  have k_84 := hts (Cond.fieldLink RX8 84 "ShelfStages$Batches" "good" "[I") (by decide +kernel)
  have i_X0 : ∀ w ∈ wsX00, w ∈ wsX8_stageOf := by decide +kernel
  have i_X3 : ∀ w ∈ wsX30, w ∈ wsX8_stageOf := by decide +kernel
  have i_X8 : ∀ w ∈ wsX80, w ∈ wsX8_stageOf := by decide +kernel
  have hD := hD0
  have hl := lv_entry ([.ref h0, .int (nI bt)]) (n := 2) (Nat.le_of_ble_eq_true rfl)
  rw [lg_entry_eq]
  generalize (lg_sl ([.ref h0, .int (nI bt)]) ++ List.replicate (2 - (lg_sl ([.ref h0, .int (nI bt)])).length) Slot.unset).toArray = ls at hl ⊢
  have hl : lv_has ls 2 [(0, .ref h0), (1, .int (nI bt))] := hl
  refine lv_aload_n hx hb dX8_stageOf_0 rfl (lv_at hl 0 rfl) ?_
  refine va_get (D := (dC, dI)) (ci := 8) (v := .ref sg) (C := RX8) (T := TX8) (N := 8) hx hb hts i_X8 hown hK hP 0 rfl rfl 3 (by decide) k_35 (fun _ h9 => h9) rfl dX8_stageOf_1 ?_
  refine lv_aload_n hx hb dX8_stageOf_4 rfl (lv_at hl 0 rfl) ?_
  refine va_get (D := (dC, dI)) (ci := 8) (v := .ref ba) (C := RX8) (T := TX8) (N := 8) hx hb hts i_X8 hown hK hP 0 rfl rfl 1 (by decide) k_21 (fun _ h9 => h9) rfl dX8_stageOf_5 ?_
  refine va_get (D := (dC, dI)) (ci := 0) (v := .ref lq) (C := RX0) (T := TX0) (N := 9) hx hb hts i_X0 hown hK hP 1 rfl rfl 3 (by decide) k_78 (fun _ h9 => h9) rfl dX8_stageOf_8 ?_
  refine lv_iload_n hx hb dX8_stageOf_11 rfl (lv_at hl 1 rfl) ?_
  refine xr_iald hx hb hK hP 2 0 rfl rfl (i := bt) (by omega) (by decide) dX8_stageOf_12 ?_
  refine lv_aload_n hx hb dX8_stageOf_13 rfl (lv_at hl 0 rfl) ?_
  refine va_get (D := (dC, dI)) (ci := 8) (v := .ref go) (C := RX8) (T := TX8) (N := 8) hx hb hts i_X8 hown hK hP 0 rfl rfl 0 (by decide) k_12 (fun _ h9 => h9) rfl dX8_stageOf_14 ?_
  refine va_get (D := (dC, dI)) (ci := 3) (v := .ref fq) (C := RX3) (T := TX3) (N := 5) hx hb hts i_X3 hown hK hP 4 rfl rfl 2 (by decide) k_81 (fun _ h9 => h9) rfl dX8_stageOf_17 ?_
  refine lv_aload_n hx hb dX8_stageOf_20 rfl (lv_at hl 0 rfl) ?_
  refine va_get (D := (dC, dI)) (ci := 8) (v := .ref ba) (C := RX8) (T := TX8) (N := 8) hx hb hts i_X8 hown hK hP 0 rfl rfl 1 (by decide) k_21 (fun _ h9 => h9) rfl dX8_stageOf_21 ?_
  refine va_get (D := (dC, dI)) (ci := 0) (v := .ref gq) (C := RX0) (T := TX0) (N := 9) hx hb hts i_X0 hown hK hP 1 rfl rfl 1 (by decide) k_84 (fun _ h9 => h9) rfl dX8_stageOf_24 ?_
  refine lv_iload_n hx hb dX8_stageOf_27 rfl (lv_at hl 1 rfl) ?_
  refine xr_iald hx hb hK hP 3 0 rfl rfl (i := bt) (by omega) (by decide) dX8_stageOf_28 ?_
  refine xr_top (show good bt = nI ((good bt).toNatClampNeg) from hgb.2) ?_
  refine xr_iald hx hb hK hP 5 0 rfl rfl (i := (good bt).toNatClampNeg) (by omega) (by decide) dX8_stageOf_29 ?_
  refine xkRi (xV (As := [.int (left bt), .int (life ((good bt).toNatClampNeg))]) (rest := []) (wc := [(sg, .inr (7, [.ref shq, sg_markdown])), (shq, .inl (cI, 4, .inl share))]) hx hb hml hown hts (c_X7_reached l dC dI cI cF cC cZ cQ cS sg shq sg_markdown share (left bt) (life ((good bt).toNatClampNeg))) 2 gX8_stageOf_X7_reached rfl rfl rfl hdV_X7_reached ⟨Nat.le_of_ble_eq_true rfl, Nat.le_of_ble_eq_true rfl⟩ hN hK hP hD [6, 7] rfl rfl 7 6 rfl rfl rfl hl.1 rfl (Nat.le_of_ble_eq_true rfl) dX8_stageOf_30 ⟨Nat.zero_le _, Nat.zero_le _⟩) (fun r_1 hr_1 => ?_)
  obtain rfl : r_1 = nI (xreach (share 1) (share 2) (share 3) (left bt) (life ((good bt).toNatClampNeg))) := hr_1
  exact W.iret (v := nI (xreach (share 1) (share 2) (share 3) (left bt) (life ((good bt).toNatClampNeg)))) hx hb hr (fun t ht hW => ⟨_, rfl, (show nI (xreach (share 1) (share 2) (share 3) (left bt) (life ((good bt).toNatClampNeg))) = nI (xstg share left life good bt) from rfl), ht⟩) (fun q h => by cases h) dX8_stageOf_33
theorem hdV_X8_priceOfUnit : yX8_priceOfUnit.cls = RX8 ∧ yX8_priceOfUnit.cls ≠ "java/lang/invoke/MethodHandle" ∧ yX8_priceOfUnit.cls ≠ "java/lang/invoke/VarHandle" ∧ (parseMethodDescriptor yX8_priceOfUnit.desc).map (fun d => d.parameters.length) = some 1 := by decide +kernel
set_option maxHeartbeats 4000000 in
set_option maxRecDepth 100000 in
theorem c_X8_priceOfUnit (l : Launch) (dC : Nat → ClassId) (dI : Nat → Nat → Nat) (cI cF cC cZ cQ cS : ClassId) (h0 : Nat) (go : Nat) (ba : Nat) (h0_orders : Value) (sg : Nat) (h0_log : Value) (h0_settings : Value) (h0_rebate : Value) (h0_day : Value) (ba_size : Value) (gq : Nat) (ba_came : Value) (lq : Nat) (ba_shelf : Value) (ba_sold : Value) (ba_given : Value) (ba_cents : Value) (ba_wasted : Value) (left : Nat → Int32) (good : Nat → Int32) (go_size : Value) (pq : Nat) (fq : Nat) (go_listed : Value) (go_list : Value) (life : Nat → Int32) (price : Nat → Int32) (shq : Nat) (mq : Nat) (share : Nat → Int32) (markdown : Nat → UInt32) (bt : Nat) (hbt : bt < 40) (hgb : (good bt).toNatClampNeg < 12 ∧ good bt = nI (good bt).toNatClampNeg) (hmd : ∀ j, j < 4 → xmd (markdown j)) : Met l yX8_priceOfUnit wsX8_priceOfUnit ({ frames := 2, cells := 0, slots := 0, locals := 44 }) (xPre (dC, dI) vwCl [.ref h0, .int (nI bt)] (xtys cI cF cC cZ cQ cS) [(h0, .inr (8, [.ref go, .ref ba, h0_orders, .ref sg, h0_log, h0_settings, h0_rebate, h0_day])), (ba, .inr (0, [ba_size, .ref gq, ba_came, .ref lq, ba_shelf, ba_sold, ba_given, ba_cents, ba_wasted])), (lq, .inl (cI, 40, .inl left)), (gq, .inl (cI, 40, .inl good)), (go, .inr (3, [go_size, .ref pq, .ref fq, go_listed, go_list])), (fq, .inl (cI, 12, .inl life)), (pq, .inl (cI, 12, .inl price)), (sg, .inr (7, [.ref shq, .ref mq])), (shq, .inl (cI, 4, .inl share)), (mq, .inl (cF, 4, .inr (.inr (.inl markdown))))]) (vp_Sf (fun r0 => r0 = xprice (price (good bt).toNatClampNeg) (markdown (xstg share left life good bt)))) 0 0 (fun _ => False) := by
  refine Met.ofW (cc := cX8_priceOfUnit) (maxL := 3) (ret := (some .float)) (by decide) rfl ?_
  intro p e s m args below meth c s₁ B hml hv
  obtain ⟨rfl, hP, hK, hD0, hN⟩ := hv
  have hx := B.exec
  have hb := B.bytes
  have hr := B.returns
  have hts := atoms_spec (ws := wsX8_priceOfUnit) B.pre
  have hown : s.vm.findClass RX8 = some m.cls := findClass_of_methodNamed B.named
  have hlocks := B.notSynchronized
  have k_12 := hts (Cond.fieldLink RX8 12 "ShelfStages$State" "goods" "LShelfStages$Goods;") (by decide +kernel)
  have k_21 := hts (Cond.fieldLink RX8 21 "ShelfStages$State" "batches" "LShelfStages$Batches;") (by decide +kernel)
  have k_35 := hts (Cond.fieldLink RX8 35 "ShelfStages$State" "stages" "LShelfStages$Stages;") (by decide +kernel)
  have k_84 := hts (Cond.fieldLink RX8 84 "ShelfStages$Batches" "good" "[I") (by decide +kernel)
  have k_91 := hts (Cond.fieldLink RX8 91 "ShelfStages$Goods" "price" "[I") (by decide +kernel)
  have k_94 := hts (Cond.fieldLink RX8 94 "ShelfStages$Stages" "markdown" "[F") (by decide +kernel)
  have kf_102 := hts (Cond.constantFloat RX8 102 (1120403456)) (by decide +kernel)
  have i_X0 : ∀ w ∈ wsX00, w ∈ wsX8_priceOfUnit := by decide +kernel
  have i_X3 : ∀ w ∈ wsX30, w ∈ wsX8_priceOfUnit := by decide +kernel
  have i_X7 : ∀ w ∈ wsX70, w ∈ wsX8_priceOfUnit := by decide +kernel
  have i_X8 : ∀ w ∈ wsX80, w ∈ wsX8_priceOfUnit := by decide +kernel
  have hD := hD0
  have hl := lv_entry ([.ref h0, .int (nI bt)]) (n := 3) (Nat.le_of_ble_eq_true rfl)
  rw [lg_entry_eq]
  generalize (lg_sl ([.ref h0, .int (nI bt)]) ++ List.replicate (3 - (lg_sl ([.ref h0, .int (nI bt)])).length) Slot.unset).toArray = ls at hl ⊢
  have hl : lv_has ls 3 [(0, .ref h0), (1, .int (nI bt))] := hl
  refine lv_aload_n hx hb dX8_priceOfUnit_0 rfl (lv_at hl 0 rfl) ?_
  refine va_get (D := (dC, dI)) (ci := 8) (v := .ref go) (C := RX8) (T := TX8) (N := 8) hx hb hts i_X8 hown hK hP 0 rfl rfl 0 (by decide) k_12 (fun _ h9 => h9) rfl dX8_priceOfUnit_1 ?_
  refine va_get (D := (dC, dI)) (ci := 3) (v := .ref pq) (C := RX3) (T := TX3) (N := 5) hx hb hts i_X3 hown hK hP 4 rfl rfl 1 (by decide) k_91 (fun _ h9 => h9) rfl dX8_priceOfUnit_4 ?_
  refine lv_aload_n hx hb dX8_priceOfUnit_7 rfl (lv_at hl 0 rfl) ?_
  refine va_get (D := (dC, dI)) (ci := 8) (v := .ref ba) (C := RX8) (T := TX8) (N := 8) hx hb hts i_X8 hown hK hP 0 rfl rfl 1 (by decide) k_21 (fun _ h9 => h9) rfl dX8_priceOfUnit_8 ?_
  refine va_get (D := (dC, dI)) (ci := 0) (v := .ref gq) (C := RX0) (T := TX0) (N := 9) hx hb hts i_X0 hown hK hP 1 rfl rfl 1 (by decide) k_84 (fun _ h9 => h9) rfl dX8_priceOfUnit_11 ?_
  refine lv_iload_n hx hb dX8_priceOfUnit_14 rfl (lv_at hl 1 rfl) ?_
  refine xr_iald hx hb hK hP 3 0 rfl rfl (i := bt) (by omega) (by decide) dX8_priceOfUnit_15 ?_
  refine xr_top (show good bt = nI ((good bt).toNatClampNeg) from hgb.2) ?_
  refine xr_iald hx hb hK hP 6 0 rfl rfl (i := (good bt).toNatClampNeg) (by omega) (by decide) dX8_priceOfUnit_16 ?_
  refine lv_i2f hx hb dX8_priceOfUnit_17 ?_
  refine lv_fstore_n (lv' := [(2, .float (FP.i2f (price ((good bt).toNatClampNeg)))), (0, .ref h0), (1, .int (nI bt))]) hx hb dX8_priceOfUnit_18 rfl hl (by decide) rfl (fun ls hl => ?_)
  refine lv_fload_n hx hb dX8_priceOfUnit_19 rfl (lv_at hl 0 rfl) ?_
  refine lv_fconst1 hx hb dX8_priceOfUnit_20 ?_
  refine lv_aload_n hx hb dX8_priceOfUnit_21 rfl (lv_at hl 1 rfl) ?_
  refine va_get (D := (dC, dI)) (ci := 8) (v := .ref sg) (C := RX8) (T := TX8) (N := 8) hx hb hts i_X8 hown hK hP 0 rfl rfl 3 (by decide) k_35 (fun _ h9 => h9) rfl dX8_priceOfUnit_22 ?_
  refine va_get (D := (dC, dI)) (ci := 7) (v := .ref mq) (C := RX7) (T := TX7) (N := 2) hx hb hts i_X7 hown hK hP 7 rfl rfl 1 (by decide) k_94 (fun _ h9 => h9) rfl dX8_priceOfUnit_25 ?_
  refine lv_aload_n hx hb dX8_priceOfUnit_28 rfl (lv_at hl 1 rfl) ?_
  refine lv_iload_n hx hb dX8_priceOfUnit_29 rfl (lv_at hl 2 rfl) ?_
  refine xkRi (xV (As := [.int (nI bt)]) (rest := [.ref mq, .float FP.fconst1, .float (FP.i2f (price ((good bt).toNatClampNeg)))]) (wc := [(h0, .inr (8, [.ref go, .ref ba, h0_orders, .ref sg, h0_log, h0_settings, h0_rebate, h0_day])), (ba, .inr (0, [ba_size, .ref gq, ba_came, .ref lq, ba_shelf, ba_sold, ba_given, ba_cents, ba_wasted])), (lq, .inl (cI, 40, .inl left)), (gq, .inl (cI, 40, .inl good)), (go, .inr (3, [go_size, .ref pq, .ref fq, go_listed, go_list])), (fq, .inl (cI, 12, .inl life)), (sg, .inr (7, [.ref shq, .ref mq])), (shq, .inl (cI, 4, .inl share))]) hx hb hml hown hts (c_X8_stageOf l dC dI cI cF cC cZ cQ cS h0 go ba h0_orders sg h0_log h0_settings h0_rebate h0_day ba_size gq ba_came lq ba_shelf ba_sold ba_given ba_cents ba_wasted left good go_size (.ref pq) fq go_listed go_list life shq (.ref mq) share bt (by omega) (by omega)) 1 gX8_priceOfUnit_X8_stageOf rfl rfl rfl hdV_X8_stageOf ⟨Nat.le_of_ble_eq_true rfl, Nat.le_of_ble_eq_true rfl⟩ hN hK hP hD [0, 1, 2, 3, 4, 5, 7, 8] rfl rfl 8 0 rfl rfl rfl hl.1 rfl (Nat.le_of_ble_eq_true rfl) dX8_priceOfUnit_30 ⟨Nat.zero_le _, Nat.zero_le _⟩) (fun r_1 hr_1 => ?_)
  obtain rfl : r_1 = nI (xstg share left life good bt) := hr_1
  have hst4 := xstg_lt share left life good bt
  refine xr_fald hx hb hK hP 9 1 rfl rfl (i := xstg share left life good bt) (by omega) (by decide) dX8_priceOfUnit_33 ?_
  refine lv_ldcf hx hb hown kf_102 dX8_priceOfUnit_34 ?_
  refine lv_fdiv hx hb dX8_priceOfUnit_36 (hmd _ hst4).1 ?_
  refine lv_fsub hx hb dX8_priceOfUnit_37 (hmd _ hst4).2.1 ?_
  refine lv_fmul hx hb dX8_priceOfUnit_38 ((hmd _ hst4).2.2 _) ?_
  exact W.fret (v := FP.fmul (FP.i2f (price ((good bt).toNatClampNeg))) (FP.fsub FP.fconst1 (FP.fdiv (markdown (xstg share left life good bt)) 1120403456))) hx hb hr (fun t ht hW => ⟨_, rfl, (show FP.fmul (FP.i2f (price ((good bt).toNatClampNeg))) (FP.fsub FP.fconst1 (FP.fdiv (markdown (xstg share left life good bt)) 1120403456)) = xprice (price (good bt).toNatClampNeg) (markdown (xstg share left life good bt)) from rfl), ht⟩) (fun q h => by cases h) dX8_priceOfUnit_39
theorem hdV_X8_isOnShelfIn : yX8_isOnShelfIn.cls = RX8 ∧ yX8_isOnShelfIn.cls ≠ "java/lang/invoke/MethodHandle" ∧ yX8_isOnShelfIn.cls ≠ "java/lang/invoke/VarHandle" ∧ (parseMethodDescriptor yX8_isOnShelfIn.desc).map (fun d => d.parameters.length) = some 2 := by decide +kernel
set_option maxHeartbeats 4000000 in
set_option maxRecDepth 100000 in
theorem c_X8_isOnShelfIn (l : Launch) (dC : Nat → ClassId) (dI : Nat → Nat → Nat) (cI cF cC cZ cQ cS : ClassId) (h0 : Nat) (go : Nat) (ba : Nat) (h0_orders : Value) (sg : Nat) (h0_log : Value) (h0_settings : Value) (h0_rebate : Value) (h0_day : Value) (ba_size : Value) (gq : Nat) (ba_came : Value) (lq : Nat) (sq : Nat) (ba_sold : Value) (ba_given : Value) (ba_cents : Value) (ba_wasted : Value) (left : Nat → Int32) (good : Nat → Int32) (shelf : Nat → Int32) (go_size : Value) (go_price : Value) (fq : Nat) (go_listed : Value) (go_list : Value) (life : Nat → Int32) (shq : Nat) (sg_markdown : Value) (share : Nat → Int32) (bt : Nat) (sn : Nat) (hbt : bt < 40) (hgb : (good bt).toNatClampNeg < 12 ∧ good bt = nI (good bt).toNatClampNeg) (hsn : sn < 4) : Met l yX8_isOnShelfIn wsX8_isOnShelfIn ({ frames := 2, cells := 0, slots := 0, locals := 44 }) (xPre (dC, dI) vwCl [.ref h0, .int (nI bt), .int (nI sn)] (xtys cI cF cC cZ cQ cS) [(h0, .inr (8, [.ref go, .ref ba, h0_orders, .ref sg, h0_log, h0_settings, h0_rebate, h0_day])), (ba, .inr (0, [ba_size, .ref gq, ba_came, .ref lq, .ref sq, ba_sold, ba_given, ba_cents, ba_wasted])), (lq, .inl (cI, 40, .inl left)), (gq, .inl (cI, 40, .inl good)), (sq, .inl (cI, 40, .inl shelf)), (go, .inr (3, [go_size, go_price, .ref fq, go_listed, go_list])), (fq, .inl (cI, 12, .inl life)), (sg, .inr (7, [.ref shq, sg_markdown])), (shq, .inl (cI, 4, .inl share))]) (vp_Si (fun r0 => r0 = (if ¬ shelf bt ≤ 0 ∧ xstg share left life good bt = sn then nI 1 else nI 0))) 0 0 (fun _ => False) := by
  refine Met.ofW (cc := cX8_isOnShelfIn) (maxL := 3) (ret := (some .boolean)) (by decide) rfl ?_
  intro p e s m args below meth c s₁ B hml hv
  obtain ⟨rfl, hP, hK, hD0, hN⟩ := hv
  have hx := B.exec
  have hb := B.bytes
  have hr := B.returns
  have hts := atoms_spec (ws := wsX8_isOnShelfIn) B.pre
  have hown : s.vm.findClass RX8 = some m.cls := findClass_of_methodNamed B.named
  have hlocks := B.notSynchronized
  have k_103 := hts (Cond.fieldLink RX8 103 "ShelfStages$Batches" "shelf" "[I") (by decide +kernel)
  have k_21 := hts (Cond.fieldLink RX8 21 "ShelfStages$State" "batches" "LShelfStages$Batches;") (by decide +kernel)
  have i_X0 : ∀ w ∈ wsX00, w ∈ wsX8_isOnShelfIn := by decide +kernel
  have i_X8 : ∀ w ∈ wsX80, w ∈ wsX8_isOnShelfIn := by decide +kernel
  have hD := hD0
  have hl := lv_entry ([.ref h0, .int (nI bt), .int (nI sn)]) (n := 3) (Nat.le_of_ble_eq_true rfl)
  rw [lg_entry_eq]
  generalize (lg_sl ([.ref h0, .int (nI bt), .int (nI sn)]) ++ List.replicate (3 - (lg_sl ([.ref h0, .int (nI bt), .int (nI sn)])).length) Slot.unset).toArray = ls at hl ⊢
  have hl : lv_has ls 3 [(0, .ref h0), (1, .int (nI bt)), (2, .int (nI sn))] := hl
  refine lv_aload_n hx hb dX8_isOnShelfIn_0 rfl (lv_at hl 0 rfl) ?_
  refine va_get (D := (dC, dI)) (ci := 8) (v := .ref ba) (C := RX8) (T := TX8) (N := 8) hx hb hts i_X8 hown hK hP 0 rfl rfl 1 (by decide) k_21 (fun _ h9 => h9) rfl dX8_isOnShelfIn_1 ?_
  refine va_get (D := (dC, dI)) (ci := 0) (v := .ref sq) (C := RX0) (T := TX0) (N := 9) hx hb hts i_X0 hown hK hP 1 rfl rfl 4 (by decide) k_103 (fun _ h9 => h9) rfl dX8_isOnShelfIn_4 ?_
  refine lv_iload_n hx hb dX8_isOnShelfIn_7 rfl (lv_at hl 1 rfl) ?_
  refine xr_iald hx hb hK hP 4 0 rfl rfl (i := bt) (by omega) (by decide) dX8_isOnShelfIn_8 ?_
  refine lv_if_le (tgt := 25) hx hb dX8_isOnShelfIn_9 (by decide) (fun c_1 => ?_) (fun c_1 => ?_)
  · skip
    refine lv_iconst (v := nI 0) hx hb dX8_isOnShelfIn_25 (by decide) ?_
    exact W.zret (v := nI 0) hx hb hr rfl (fun t ht hW => ⟨_, rfl, (show nI 0 = (if ¬ shelf bt ≤ 0 ∧ xstg share left life good bt = sn then nI 1 else nI 0) from (if_neg (fun q => q.1 c_1)).symm), ht⟩) (fun q h => by cases h) dX8_isOnShelfIn_26
  refine lv_aload_n hx hb dX8_isOnShelfIn_12 rfl (lv_at hl 0 rfl) ?_
  refine lv_iload_n hx hb dX8_isOnShelfIn_13 rfl (lv_at hl 1 rfl) ?_
  refine xkRi (xV (As := [.int (nI bt)]) (rest := []) (wc := [(h0, .inr (8, [.ref go, .ref ba, h0_orders, .ref sg, h0_log, h0_settings, h0_rebate, h0_day])), (ba, .inr (0, [ba_size, .ref gq, ba_came, .ref lq, .ref sq, ba_sold, ba_given, ba_cents, ba_wasted])), (lq, .inl (cI, 40, .inl left)), (gq, .inl (cI, 40, .inl good)), (go, .inr (3, [go_size, go_price, .ref fq, go_listed, go_list])), (fq, .inl (cI, 12, .inl life)), (sg, .inr (7, [.ref shq, sg_markdown])), (shq, .inl (cI, 4, .inl share))]) hx hb hml hown hts (c_X8_stageOf l dC dI cI cF cC cZ cQ cS h0 go ba h0_orders sg h0_log h0_settings h0_rebate h0_day ba_size gq ba_came lq (.ref sq) ba_sold ba_given ba_cents ba_wasted left good go_size go_price fq go_listed go_list life shq sg_markdown share bt (by omega) (by omega)) 1 gX8_isOnShelfIn_X8_stageOf rfl rfl rfl hdV_X8_stageOf ⟨Nat.le_of_ble_eq_true rfl, Nat.le_of_ble_eq_true rfl⟩ hN hK hP hD [0, 1, 2, 3, 5, 6, 7, 8] rfl rfl 8 0 rfl rfl rfl hl.1 rfl (Nat.le_of_ble_eq_true rfl) dX8_isOnShelfIn_14 ⟨Nat.zero_le _, Nat.zero_le _⟩) (fun r_2 hr_2 => ?_)
  obtain rfl : r_2 = nI (xstg share left life good bt) := hr_2
  have hst4 := xstg_lt share left life good bt
  refine lv_iload_n hx hb dX8_isOnShelfIn_17 rfl (lv_at hl 2 rfl) ?_
  refine xr_ne_n (tgt := 25) hx hb (by omega) (by omega) dX8_isOnShelfIn_18 (by decide) (fun c_3 => ?_) (fun c_3 => ?_)
  · skip
    refine lv_iconst (v := nI 0) hx hb dX8_isOnShelfIn_25 (by decide) ?_
    exact W.zret (v := nI 0) hx hb hr rfl (fun t ht hW => ⟨_, rfl, (show nI 0 = (if ¬ shelf bt ≤ 0 ∧ xstg share left life good bt = sn then nI 1 else nI 0) from (if_neg (fun q => c_3 q.2)).symm), ht⟩) (fun q h => by cases h) dX8_isOnShelfIn_26
  refine lv_iconst (v := nI 1) hx hb dX8_isOnShelfIn_21 (by decide) ?_
  refine lv_goto (tgt := 26) hx hb dX8_isOnShelfIn_22 (by decide) ?_
  exact W.zret (v := nI 1) hx hb hr rfl (fun t ht hW => ⟨_, rfl, (show nI 1 = (if ¬ shelf bt ≤ 0 ∧ xstg share left life good bt = sn then nI 1 else nI 0) from (if_pos ⟨c_1, c_3⟩).symm), ht⟩) (fun q h => by cases h) dX8_isOnShelfIn_26
theorem hdV_X8_batchesInStage : yX8_batchesInStage.cls = RX8 ∧ yX8_batchesInStage.cls ≠ "java/lang/invoke/MethodHandle" ∧ yX8_batchesInStage.cls ≠ "java/lang/invoke/VarHandle" ∧ (parseMethodDescriptor yX8_batchesInStage.desc).map (fun d => d.parameters.length) = some 1 := by decide +kernel
set_option maxHeartbeats 4000000 in
set_option maxRecDepth 100000 in
theorem c_X8_batchesInStage (l : Launch) (dC : Nat → ClassId) (dI : Nat → Nat → Nat) (cI cF cC cZ cQ cS : ClassId) (h0 : Nat) (go : Nat) (ba : Nat) (h0_orders : Value) (sg : Nat) (h0_log : Value) (h0_settings : Value) (h0_rebate : Value) (h0_day : Value) (gq : Nat) (ba_came : Value) (lq : Nat) (sq : Nat) (ba_sold : Value) (ba_given : Value) (ba_cents : Value) (ba_wasted : Value) (left : Nat → Int32) (good : Nat → Int32) (shelf : Nat → Int32) (go_size : Value) (go_price : Value) (fq : Nat) (go_listed : Value) (go_list : Value) (life : Nat → Int32) (shq : Nat) (sg_markdown : Value) (share : Nat → Int32) (n : Nat) (sn : Nat) (hn : n ≤ 40) (hga : xidx good 12 n) (hsn : sn < 4) : Met l yX8_batchesInStage wsX8_batchesInStage ({ frames := 3, cells := 0, slots := 0, locals := 66 }) (xPre (dC, dI) vwCl [.ref h0, .int (nI sn)] (xtys cI cF cC cZ cQ cS) [(h0, .inr (8, [.ref go, .ref ba, h0_orders, .ref sg, h0_log, h0_settings, h0_rebate, h0_day])), (ba, .inr (0, [.int (nI n), .ref gq, ba_came, .ref lq, .ref sq, ba_sold, ba_given, ba_cents, ba_wasted])), (lq, .inl (cI, 40, .inl left)), (gq, .inl (cI, 40, .inl good)), (sq, .inl (cI, 40, .inl shelf)), (go, .inr (3, [go_size, go_price, .ref fq, go_listed, go_list])), (fq, .inl (cI, 12, .inl life)), (sg, .inr (7, [.ref shq, sg_markdown])), (shq, .inl (cI, 4, .inl share))]) (vp_Si (fun r0 => r0 = xcntP (fun b => decide (¬ shelf b ≤ 0 ∧ xstg share left life good b = sn)) n)) 0 0 (fun _ => False) := by
  refine Met.ofW (cc := cX8_batchesInStage) (maxL := 4) (ret := (some .int)) (by decide) rfl ?_
  intro p e s m args below meth c s₁ B hml hv
  obtain ⟨rfl, hP, hK, hD0, hN⟩ := hv
  have hx := B.exec
  have hb := B.bytes
  have hr := B.returns
  have hts := atoms_spec (ws := wsX8_batchesInStage) B.pre
  have hown : s.vm.findClass RX8 = some m.cls := findClass_of_methodNamed B.named
  have hlocks := B.notSynchronized
  have k_106 := hts (Cond.fieldLink RX8 106 "ShelfStages$Batches" "size" "I") (by decide +kernel)
  have k_21 := hts (Cond.fieldLink RX8 21 "ShelfStages$State" "batches" "LShelfStages$Batches;") (by decide +kernel)
  have i_X0 : ∀ w ∈ wsX00, w ∈ wsX8_batchesInStage := by decide +kernel
  have i_X8 : ∀ w ∈ wsX80, w ∈ wsX8_batchesInStage := by decide +kernel
  have hD := hD0
  have hl := lv_entry ([.ref h0, .int (nI sn)]) (n := 4) (Nat.le_of_ble_eq_true rfl)
  rw [lg_entry_eq]
  generalize (lg_sl ([.ref h0, .int (nI sn)]) ++ List.replicate (4 - (lg_sl ([.ref h0, .int (nI sn)])).length) Slot.unset).toArray = ls at hl ⊢
  have hl : lv_has ls 4 [(0, .ref h0), (1, .int (nI sn))] := hl
  refine lv_iconst (v := nI 0) hx hb dX8_batchesInStage_0 (by decide) ?_
  refine lv_istore_n (lv' := [(2, .int (nI 0)), (0, .ref h0), (1, .int (nI sn))]) hx hb dX8_batchesInStage_1 rfl hl (by decide) rfl (fun ls hl => ?_)
  refine lv_iconst (v := nI 0) hx hb dX8_batchesInStage_2 (by decide) ?_
  refine lv_istore_n (lv' := [(3, .int (nI 0)), (2, .int (nI 0)), (0, .ref h0), (1, .int (nI sn))]) hx hb dX8_batchesInStage_3 rfl hl (by decide) rfl (fun ls hl => ?_)
  refine xr_loop (J := Nat) (fun n0 H locs g => ∃ (k : Nat) (acc : Int32) (ls : Array Slot), H = s.heap ∧ locs = [] ∧ n0 = n - k ∧ g = F0 m 4 ls [] ∧ lv_has ls 4 [(3, .int (nI k)), (2, .int acc), (0, .ref h0), (1, .int (nI sn))] ∧ (k ≤ n) ∧ (acc = xcntP (fun b => decide (¬ shelf b ≤ 0 ∧ xstg share left life good b = sn)) k)) (fun n => n) ?_ (n - 0) (g := F0 m 4 ls []) ⟨0, (nI 0), ls, rfl, rfl, rfl, rfl, lv_sub hl [0, 1, 2, 3] rfl, (Nat.zero_le _), rfl⟩
  intro n0 ih_4 H locs g hp
  obtain ⟨k, acc, ls, rfl, rfl, rfl, rfl, hl, hk, hac⟩ := hp
  refine lv_iload_n hx hb dX8_batchesInStage_4 rfl (lv_at hl 0 rfl) ?_
  refine lv_aload_n hx hb dX8_batchesInStage_5 rfl (lv_at hl 2 rfl) ?_
  refine va_get (D := (dC, dI)) (ci := 8) (v := .ref ba) (C := RX8) (T := TX8) (N := 8) hx hb hts i_X8 hown hK hP 0 rfl rfl 1 (by decide) k_21 (fun _ h9 => h9) rfl dX8_batchesInStage_6 ?_
  refine va_get (D := (dC, dI)) (ci := 0) (v := .int (nI n)) (C := RX0) (T := TX0) (N := 9) hx hb hts i_X0 hown hK hP 1 rfl rfl 0 (by decide) k_106 (fun _ h9 => h9) rfl dX8_batchesInStage_9 ?_
  refine xr_ge_n (tgt := 33) hx hb (by omega) (by omega) dX8_batchesInStage_12 (by decide) (fun c_1 => ?_) (fun c_1 => ?_)
  · skip
    refine lv_iload_n hx hb dX8_batchesInStage_33 rfl (lv_at hl 1 rfl) ?_
    exact W.iret (v := acc) hx hb hr (fun t ht hW => ⟨_, rfl, (show acc = xcntP (fun b => decide (¬ shelf b ≤ 0 ∧ xstg share left life good b = sn)) n from (by rw [hac, show k = n from by omega])), ht⟩) (fun q h => by cases h) dX8_batchesInStage_34
  refine lv_aload_n hx hb dX8_batchesInStage_15 rfl (lv_at hl 2 rfl) ?_
  refine lv_iload_n hx hb dX8_batchesInStage_16 rfl (lv_at hl 0 rfl) ?_
  refine lv_iload_n hx hb dX8_batchesInStage_17 rfl (lv_at hl 3 rfl) ?_
  refine xkRi (xV (As := [.int (nI k), .int (nI sn)]) (rest := []) (wc := [(h0, .inr (8, [.ref go, .ref ba, h0_orders, .ref sg, h0_log, h0_settings, h0_rebate, h0_day])), (ba, .inr (0, [.int (nI n), .ref gq, ba_came, .ref lq, .ref sq, ba_sold, ba_given, ba_cents, ba_wasted])), (lq, .inl (cI, 40, .inl left)), (gq, .inl (cI, 40, .inl good)), (sq, .inl (cI, 40, .inl shelf)), (go, .inr (3, [go_size, go_price, .ref fq, go_listed, go_list])), (fq, .inl (cI, 12, .inl life)), (sg, .inr (7, [.ref shq, sg_markdown])), (shq, .inl (cI, 4, .inl share))]) hx hb hml hown hts (c_X8_isOnShelfIn l dC dI cI cF cC cZ cQ cS h0 go ba h0_orders sg h0_log h0_settings h0_rebate h0_day (.int (nI n)) gq ba_came lq sq ba_sold ba_given ba_cents ba_wasted left good shelf go_size go_price fq go_listed go_list life shq sg_markdown share k sn (by omega) (hga k (by omega)) (by omega)) 2 gX8_batchesInStage_X8_isOnShelfIn rfl rfl rfl hdV_X8_isOnShelfIn ⟨Nat.le_of_ble_eq_true rfl, Nat.le_of_ble_eq_true rfl⟩ hN hK hP hD [0, 1, 2, 3, 4, 5, 6, 7, 8] rfl rfl 8 0 rfl rfl rfl hl.1 rfl (Nat.le_of_ble_eq_true rfl) dX8_batchesInStage_18 ⟨Nat.zero_le _, Nat.zero_le _⟩) (fun r_2 hr_2 => ?_)
  have hr_2 : r_2 = (if ¬ shelf k ≤ 0 ∧ xstg share left life good k = sn then nI 1 else nI 0) := hr_2
  rcases xi_ite inferInstance hr_2 with ⟨c_3, hr_2⟩ | ⟨c_3, hr_2⟩
  · subst hr_2
    refine xr_if1 (tgt := 27) hx hb (by decide) dX8_batchesInStage_21 (by decide) ?_
    refine lv_iinc (v := acc + nI 1) (lv' := [(2, .int (acc + nI 1)), (3, .int (nI k)), (0, .ref h0), (1, .int (nI sn))]) hx hb dX8_batchesInStage_24 hl (k := 1) rfl (xi_inc acc) (by decide) rfl (fun ls hl => ?_)
    refine lv_iinc (v := nI (k + 1)) (lv' := [(3, .int (nI (k + 1))), (2, .int (acc + nI 1)), (0, .ref h0), (1, .int (nI sn))]) hx hb dX8_batchesInStage_27 hl (k := 1) rfl (nI_inc1 k) (by decide) rfl (fun ls hl => ?_)
    refine lv_goto (tgt := 4) hx hb dX8_batchesInStage_30 (by decide) ?_
    exact ih_4 (n - (k + 1)) _ _ _ (show n - (k + 1) < n - k from by omega) ⟨(k + 1), (acc + nI 1), ls, rfl, rfl, rfl, rfl, lv_sub hl [0, 1, 2, 3] rfl, (by omega), (by rw [hac]; exact (if_pos (decide_eq_true c_3)).symm)⟩
  subst hr_2
  refine xr_if0 (tgt := 27) hx hb (by decide) dX8_batchesInStage_21 (by decide) ?_
  refine lv_iinc (v := nI (k + 1)) (lv' := [(3, .int (nI (k + 1))), (2, .int acc), (0, .ref h0), (1, .int (nI sn))]) hx hb dX8_batchesInStage_27 hl (k := 0) rfl (nI_inc1 k) (by decide) rfl (fun ls hl => ?_)
  refine lv_goto (tgt := 4) hx hb dX8_batchesInStage_30 (by decide) ?_
  exact ih_4 (n - (k + 1)) _ _ _ (show n - (k + 1) < n - k from by omega) ⟨(k + 1), acc, ls, rfl, rfl, rfl, rfl, lv_sub hl [0, 1, 2, 3] rfl, (by omega), (by rw [hac]; exact (if_neg (fun q => c_3 (of_decide_eq_true q))).symm)⟩
theorem hdV_X8_unitsInStage : yX8_unitsInStage.cls = RX8 ∧ yX8_unitsInStage.cls ≠ "java/lang/invoke/MethodHandle" ∧ yX8_unitsInStage.cls ≠ "java/lang/invoke/VarHandle" ∧ (parseMethodDescriptor yX8_unitsInStage.desc).map (fun d => d.parameters.length) = some 1 := by decide +kernel
set_option maxHeartbeats 4000000 in
set_option maxRecDepth 100000 in
theorem c_X8_unitsInStage (l : Launch) (dC : Nat → ClassId) (dI : Nat → Nat → Nat) (cI cF cC cZ cQ cS : ClassId) (h0 : Nat) (go : Nat) (ba : Nat) (h0_orders : Value) (sg : Nat) (h0_log : Value) (h0_settings : Value) (h0_rebate : Value) (h0_day : Value) (gq : Nat) (ba_came : Value) (lq : Nat) (sq : Nat) (ba_sold : Value) (ba_given : Value) (ba_cents : Value) (ba_wasted : Value) (left : Nat → Int32) (good : Nat → Int32) (shelf : Nat → Int32) (go_size : Value) (go_price : Value) (fq : Nat) (go_listed : Value) (go_list : Value) (life : Nat → Int32) (shq : Nat) (sg_markdown : Value) (share : Nat → Int32) (n : Nat) (sn : Nat) (hn : n ≤ 40) (hga : xidx good 12 n) (hsn : sn < 4) : Met l yX8_unitsInStage wsX8_unitsInStage ({ frames := 3, cells := 0, slots := 0, locals := 66 }) (xPre (dC, dI) vwCl [.ref h0, .int (nI sn)] (xtys cI cF cC cZ cQ cS) [(h0, .inr (8, [.ref go, .ref ba, h0_orders, .ref sg, h0_log, h0_settings, h0_rebate, h0_day])), (ba, .inr (0, [.int (nI n), .ref gq, ba_came, .ref lq, .ref sq, ba_sold, ba_given, ba_cents, ba_wasted])), (lq, .inl (cI, 40, .inl left)), (gq, .inl (cI, 40, .inl good)), (sq, .inl (cI, 40, .inl shelf)), (go, .inr (3, [go_size, go_price, .ref fq, go_listed, go_list])), (fq, .inl (cI, 12, .inl life)), (sg, .inr (7, [.ref shq, sg_markdown])), (shq, .inl (cI, 4, .inl share))]) (vp_Si (fun r0 => r0 = xsumP (fun b => decide (¬ shelf b ≤ 0 ∧ xstg share left life good b = sn)) shelf n)) 0 0 (fun _ => False) := by
  refine Met.ofW (cc := cX8_unitsInStage) (maxL := 4) (ret := (some .int)) (by decide) rfl ?_
  intro p e s m args below meth c s₁ B hml hv
  obtain ⟨rfl, hP, hK, hD0, hN⟩ := hv
  have hx := B.exec
  have hb := B.bytes
  have hr := B.returns
  have hts := atoms_spec (ws := wsX8_unitsInStage) B.pre
  have hown : s.vm.findClass RX8 = some m.cls := findClass_of_methodNamed B.named
  have hlocks := B.notSynchronized
  have k_103 := hts (Cond.fieldLink RX8 103 "ShelfStages$Batches" "shelf" "[I") (by decide +kernel)
  have k_106 := hts (Cond.fieldLink RX8 106 "ShelfStages$Batches" "size" "I") (by decide +kernel)
  have k_21 := hts (Cond.fieldLink RX8 21 "ShelfStages$State" "batches" "LShelfStages$Batches;") (by decide +kernel)
  have i_X0 : ∀ w ∈ wsX00, w ∈ wsX8_unitsInStage := by decide +kernel
  have i_X8 : ∀ w ∈ wsX80, w ∈ wsX8_unitsInStage := by decide +kernel
  have hD := hD0
  have hl := lv_entry ([.ref h0, .int (nI sn)]) (n := 4) (Nat.le_of_ble_eq_true rfl)
  rw [lg_entry_eq]
  generalize (lg_sl ([.ref h0, .int (nI sn)]) ++ List.replicate (4 - (lg_sl ([.ref h0, .int (nI sn)])).length) Slot.unset).toArray = ls at hl ⊢
  have hl : lv_has ls 4 [(0, .ref h0), (1, .int (nI sn))] := hl
  refine lv_iconst (v := nI 0) hx hb dX8_unitsInStage_0 (by decide) ?_
  refine lv_istore_n (lv' := [(2, .int (nI 0)), (0, .ref h0), (1, .int (nI sn))]) hx hb dX8_unitsInStage_1 rfl hl (by decide) rfl (fun ls hl => ?_)
  refine lv_iconst (v := nI 0) hx hb dX8_unitsInStage_2 (by decide) ?_
  refine lv_istore_n (lv' := [(3, .int (nI 0)), (2, .int (nI 0)), (0, .ref h0), (1, .int (nI sn))]) hx hb dX8_unitsInStage_3 rfl hl (by decide) rfl (fun ls hl => ?_)
  refine xr_loop (J := Nat) (fun n0 H locs g => ∃ (k : Nat) (acc : Int32) (ls : Array Slot), H = s.heap ∧ locs = [] ∧ n0 = n - k ∧ g = F0 m 4 ls [] ∧ lv_has ls 4 [(3, .int (nI k)), (2, .int acc), (0, .ref h0), (1, .int (nI sn))] ∧ (k ≤ n) ∧ (acc = xsumP (fun b => decide (¬ shelf b ≤ 0 ∧ xstg share left life good b = sn)) shelf k)) (fun n => n) ?_ (n - 0) (g := F0 m 4 ls []) ⟨0, (nI 0), ls, rfl, rfl, rfl, rfl, lv_sub hl [0, 1, 2, 3] rfl, (Nat.zero_le _), rfl⟩
  intro n0 ih_4 H locs g hp
  obtain ⟨k, acc, ls, rfl, rfl, rfl, rfl, hl, hk, hac⟩ := hp
  refine lv_iload_n hx hb dX8_unitsInStage_4 rfl (lv_at hl 0 rfl) ?_
  refine lv_aload_n hx hb dX8_unitsInStage_5 rfl (lv_at hl 2 rfl) ?_
  refine va_get (D := (dC, dI)) (ci := 8) (v := .ref ba) (C := RX8) (T := TX8) (N := 8) hx hb hts i_X8 hown hK hP 0 rfl rfl 1 (by decide) k_21 (fun _ h9 => h9) rfl dX8_unitsInStage_6 ?_
  refine va_get (D := (dC, dI)) (ci := 0) (v := .int (nI n)) (C := RX0) (T := TX0) (N := 9) hx hb hts i_X0 hown hK hP 1 rfl rfl 0 (by decide) k_106 (fun _ h9 => h9) rfl dX8_unitsInStage_9 ?_
  refine xr_ge_n (tgt := 42) hx hb (by omega) (by omega) dX8_unitsInStage_12 (by decide) (fun c_1 => ?_) (fun c_1 => ?_)
  · skip
    refine lv_iload_n hx hb dX8_unitsInStage_42 rfl (lv_at hl 1 rfl) ?_
    exact W.iret (v := acc) hx hb hr (fun t ht hW => ⟨_, rfl, (show acc = xsumP (fun b => decide (¬ shelf b ≤ 0 ∧ xstg share left life good b = sn)) shelf n from (by rw [hac, show k = n from by omega])), ht⟩) (fun q h => by cases h) dX8_unitsInStage_43
  refine lv_aload_n hx hb dX8_unitsInStage_15 rfl (lv_at hl 2 rfl) ?_
  refine lv_iload_n hx hb dX8_unitsInStage_16 rfl (lv_at hl 0 rfl) ?_
  refine lv_iload_n hx hb dX8_unitsInStage_17 rfl (lv_at hl 3 rfl) ?_
  refine xkRi (xV (As := [.int (nI k), .int (nI sn)]) (rest := []) (wc := [(h0, .inr (8, [.ref go, .ref ba, h0_orders, .ref sg, h0_log, h0_settings, h0_rebate, h0_day])), (ba, .inr (0, [.int (nI n), .ref gq, ba_came, .ref lq, .ref sq, ba_sold, ba_given, ba_cents, ba_wasted])), (lq, .inl (cI, 40, .inl left)), (gq, .inl (cI, 40, .inl good)), (sq, .inl (cI, 40, .inl shelf)), (go, .inr (3, [go_size, go_price, .ref fq, go_listed, go_list])), (fq, .inl (cI, 12, .inl life)), (sg, .inr (7, [.ref shq, sg_markdown])), (shq, .inl (cI, 4, .inl share))]) hx hb hml hown hts (c_X8_isOnShelfIn l dC dI cI cF cC cZ cQ cS h0 go ba h0_orders sg h0_log h0_settings h0_rebate h0_day (.int (nI n)) gq ba_came lq sq ba_sold ba_given ba_cents ba_wasted left good shelf go_size go_price fq go_listed go_list life shq sg_markdown share k sn (by omega) (hga k (by omega)) (by omega)) 2 gX8_unitsInStage_X8_isOnShelfIn rfl rfl rfl hdV_X8_isOnShelfIn ⟨Nat.le_of_ble_eq_true rfl, Nat.le_of_ble_eq_true rfl⟩ hN hK hP hD [0, 1, 2, 3, 4, 5, 6, 7, 8] rfl rfl 8 0 rfl rfl rfl hl.1 rfl (Nat.le_of_ble_eq_true rfl) dX8_unitsInStage_18 ⟨Nat.zero_le _, Nat.zero_le _⟩) (fun r_2 hr_2 => ?_)
  have hr_2 : r_2 = (if ¬ shelf k ≤ 0 ∧ xstg share left life good k = sn then nI 1 else nI 0) := hr_2
  rcases xi_ite inferInstance hr_2 with ⟨c_3, hr_2⟩ | ⟨c_3, hr_2⟩
  · subst hr_2
    refine xr_if1 (tgt := 36) hx hb (by decide) dX8_unitsInStage_21 (by decide) ?_
    refine lv_iload_n hx hb dX8_unitsInStage_24 rfl (lv_at hl 1 rfl) ?_
    refine lv_aload_n hx hb dX8_unitsInStage_25 rfl (lv_at hl 2 rfl) ?_
    refine va_get (D := (dC, dI)) (ci := 8) (v := .ref ba) (C := RX8) (T := TX8) (N := 8) hx hb hts i_X8 hown hK hP 0 rfl rfl 1 (by decide) k_21 (fun _ h9 => h9) rfl dX8_unitsInStage_26 ?_
    refine va_get (D := (dC, dI)) (ci := 0) (v := .ref sq) (C := RX0) (T := TX0) (N := 9) hx hb hts i_X0 hown hK hP 1 rfl rfl 4 (by decide) k_103 (fun _ h9 => h9) rfl dX8_unitsInStage_29 ?_
    refine lv_iload_n hx hb dX8_unitsInStage_32 rfl (lv_at hl 0 rfl) ?_
    refine xr_iald hx hb hK hP 4 0 rfl rfl (i := k) (by omega) (by decide) dX8_unitsInStage_33 ?_
    refine lv_iadd hx hb dX8_unitsInStage_34 ?_
    refine lv_istore_n (lv' := [(2, .int (acc + (shelf k))), (3, .int (nI k)), (0, .ref h0), (1, .int (nI sn))]) hx hb dX8_unitsInStage_35 rfl hl (by decide) rfl (fun ls hl => ?_)
    refine lv_iinc (v := nI (k + 1)) (lv' := [(3, .int (nI (k + 1))), (2, .int (acc + (shelf k))), (0, .ref h0), (1, .int (nI sn))]) hx hb dX8_unitsInStage_36 hl (k := 1) rfl (nI_inc1 k) (by decide) rfl (fun ls hl => ?_)
    refine lv_goto (tgt := 4) hx hb dX8_unitsInStage_39 (by decide) ?_
    exact ih_4 (n - (k + 1)) _ _ _ (show n - (k + 1) < n - k from by omega) ⟨(k + 1), (acc + (shelf k)), ls, rfl, rfl, rfl, rfl, lv_sub hl [0, 1, 2, 3] rfl, (by omega), (by rw [hac]; exact (if_pos (decide_eq_true c_3)).symm)⟩
  subst hr_2
  refine xr_if0 (tgt := 36) hx hb (by decide) dX8_unitsInStage_21 (by decide) ?_
  refine lv_iinc (v := nI (k + 1)) (lv' := [(3, .int (nI (k + 1))), (2, .int acc), (0, .ref h0), (1, .int (nI sn))]) hx hb dX8_unitsInStage_36 hl (k := 0) rfl (nI_inc1 k) (by decide) rfl (fun ls hl => ?_)
  refine lv_goto (tgt := 4) hx hb dX8_unitsInStage_39 (by decide) ?_
  exact ih_4 (n - (k + 1)) _ _ _ (show n - (k + 1) < n - k from by omega) ⟨(k + 1), acc, ls, rfl, rfl, rfl, rfl, lv_sub hl [0, 1, 2, 3] rfl, (by omega), (by rw [hac]; exact (if_neg (fun q => c_3 (of_decide_eq_true q))).symm)⟩
theorem hdV_X8_receive : yX8_receive.cls = RX8 ∧ yX8_receive.cls ≠ "java/lang/invoke/MethodHandle" ∧ yX8_receive.cls ≠ "java/lang/invoke/VarHandle" ∧ (parseMethodDescriptor yX8_receive.desc).map (fun d => d.parameters.length) = some 3 := by decide +kernel
set_option maxHeartbeats 4000000 in
set_option maxRecDepth 100000 in
theorem c_X8_receive (l : Launch) (dC : Nat → ClassId) (dI : Nat → Nat → Nat) (cI cF cC cZ cQ cS : ClassId) (h0 : Nat) (h0_goods : Value) (ba : Nat) (h0_orders : Value) (h0_stages : Value) (lo : Nat) (h0_settings : Value) (h0_rebate : Value) (gq : Nat) (cq : Nat) (lq : Nat) (sq : Nat) (ba_sold : Value) (ba_given : Value) (ba_cents : Value) (ba_wasted : Value) (good : Nat → Int32) (came : Nat → Int32) (left : Nat → Int32) (shelf : Nat → Int32) (n : Nat) (td : Int32) (lz : Nat) (nx : Nat) (lo0 : Nat) (lo1 : Nat) (lo2 : Nat) (lo3 : Nat) (kd : Nat → Int32) (lb : Nat → Int32) (lu : Nat → Int32) (ld : Nat → Int32) (og : Int32) (un : Int32) (dl : Int32) (hn : n < 40) (hnx : nx < 10) (hlz : lz ≤ 10) : Met l yX8_receive wsX8_receive ({ frames := 2, cells := 0, slots := 0, locals := 45 }) (xPre (dC, dI) vwCl [.ref h0, .int og, .int un, .int dl] (xtys cI cF cC cZ cQ cS) [(h0, .inr (8, [h0_goods, .ref ba, h0_orders, h0_stages, .ref lo, h0_settings, h0_rebate, .int td])), (ba, .inr (0, [.int (nI n), .ref gq, .ref cq, .ref lq, .ref sq, ba_sold, ba_given, ba_cents, ba_wasted])), (gq, .inl (cI, 40, .inl good)), (cq, .inl (cI, 40, .inl came)), (lq, .inl (cI, 40, .inl left)), (sq, .inl (cI, 40, .inl shelf)), (lo, .inr (5, [.int (nI lz), .int (nI nx), .ref lo0, .ref lo1, .ref lo2, .ref lo3])), (lo0, .inl (cI, 10, .inl kd)), (lo1, .inl (cI, 10, .inl lb)), (lo2, .inl (cI, 10, .inl lu)), (lo3, .inl (cI, 10, .inl ld))]) (xWi (dC, dI) vwCl [(h0, .inr (8, [h0_goods, .ref ba, h0_orders, h0_stages, .ref lo, h0_settings, h0_rebate, .int td])), (ba, .inr (0, [.int (nI n), .ref gq, .ref cq, .ref lq, .ref sq, ba_sold, ba_given, ba_cents, ba_wasted])), (gq, .inl (cI, 40, .inl good)), (cq, .inl (cI, 40, .inl came)), (lq, .inl (cI, 40, .inl left)), (sq, .inl (cI, 40, .inl shelf)), (lo, .inr (5, [.int (nI lz), .int (nI nx), .ref lo0, .ref lo1, .ref lo2, .ref lo3])), (lo0, .inl (cI, 10, .inl kd)), (lo1, .inl (cI, 10, .inl lb)), (lo2, .inl (cI, 10, .inl lu)), (lo3, .inl (cI, 10, .inl ld))] (fun r0 w0 => r0 = nI n ∧ w0 = [(h0, .inr (8, [h0_goods, .ref ba, h0_orders, h0_stages, .ref lo, h0_settings, h0_rebate, .int td])), (ba, .inr (0, [.int (nI (n + 1)), .ref gq, .ref cq, .ref lq, .ref sq, ba_sold, ba_given, ba_cents, ba_wasted])), (gq, .inl (cI, 40, .inl (upd good n og))), (cq, .inl (cI, 40, .inl (upd came n un))), (lq, .inl (cI, 40, .inl (upd left n dl))), (sq, .inl (cI, 40, .inl (upd shelf n un))), (lo, .inr (5, [.int (nI (min (lz + 1) 10)), .int (nI ((nx + 1) % 10)), .ref lo0, .ref lo1, .ref lo2, .ref lo3])), (lo0, .inl (cI, 10, .inl (upd kd nx (nI 0)))), (lo1, .inl (cI, 10, .inl (upd lb nx (nI n)))), (lo2, .inl (cI, 10, .inl (upd lu nx un))), (lo3, .inl (cI, 10, .inl (upd ld nx td)))])) 0 0 (va_B [(h0, .inr (8, [h0_goods, .ref ba, h0_orders, h0_stages, .ref lo, h0_settings, h0_rebate, .int td])), (ba, .inr (0, [.int (nI n), .ref gq, .ref cq, .ref lq, .ref sq, ba_sold, ba_given, ba_cents, ba_wasted])), (gq, .inl (cI, 40, .inl good)), (cq, .inl (cI, 40, .inl came)), (lq, .inl (cI, 40, .inl left)), (sq, .inl (cI, 40, .inl shelf)), (lo, .inr (5, [.int (nI lz), .int (nI nx), .ref lo0, .ref lo1, .ref lo2, .ref lo3])), (lo0, .inl (cI, 10, .inl kd)), (lo1, .inl (cI, 10, .inl lb)), (lo2, .inl (cI, 10, .inl lu)), (lo3, .inl (cI, 10, .inl ld))]) := by
  refine Met.ofW (cc := cX8_receive) (maxL := 5) (ret := (some .int)) (by decide) rfl ?_
  intro p e s m args below meth c s₁ B hml hv
  obtain ⟨rfl, hP, hK, hD0, hN⟩ := hv
  have hx := B.exec
  have hb := B.bytes
  have hr := B.returns
  have hts := atoms_spec (ws := wsX8_receive) B.pre
  have hown : s.vm.findClass RX8 = some m.cls := findClass_of_methodNamed B.named
  have hlocks := B.notSynchronized
  have k_21 := hts (Cond.fieldLink RX8 21 "ShelfStages$State" "batches" "LShelfStages$Batches;") (by decide +kernel)
  have k_42 := hts (Cond.fieldLink RX8 42 "ShelfStages$State" "log" "LShelfStages$Log;") (by decide +kernel)
  have k_74 := hts (Cond.fieldLink RX8 74 "ShelfStages$State" "day" "I") (by decide +kernel)
  have i_X8 : ∀ w ∈ wsX80, w ∈ wsX8_receive := by decide +kernel
  obtain ⟨A, hA⟩ : ∃ A, A = va_B [(h0, .inr (8, [h0_goods, .ref ba, h0_orders, h0_stages, .ref lo, h0_settings, h0_rebate, .int td])), (ba, .inr (0, [.int (nI n), .ref gq, .ref cq, .ref lq, .ref sq, ba_sold, ba_given, ba_cents, ba_wasted])), (gq, .inl (cI, 40, .inl good)), (cq, .inl (cI, 40, .inl came)), (lq, .inl (cI, 40, .inl left)), (sq, .inl (cI, 40, .inl shelf)), (lo, .inr (5, [.int (nI lz), .int (nI nx), .ref lo0, .ref lo1, .ref lo2, .ref lo3])), (lo0, .inl (cI, 10, .inl kd)), (lo1, .inl (cI, 10, .inl lb)), (lo2, .inl (cI, 10, .inl lu)), (lo3, .inl (cI, 10, .inl ld))] := ⟨_, rfl⟩
  have hD : va_D A [(h0, .inr (8, [h0_goods, .ref ba, h0_orders, h0_stages, .ref lo, h0_settings, h0_rebate, .int td])), (ba, .inr (0, [.int (nI n), .ref gq, .ref cq, .ref lq, .ref sq, ba_sold, ba_given, ba_cents, ba_wasted])), (gq, .inl (cI, 40, .inl good)), (cq, .inl (cI, 40, .inl came)), (lq, .inl (cI, 40, .inl left)), (sq, .inl (cI, 40, .inl shelf)), (lo, .inr (5, [.int (nI lz), .int (nI nx), .ref lo0, .ref lo1, .ref lo2, .ref lo3])), (lo0, .inl (cI, 10, .inl kd)), (lo1, .inl (cI, 10, .inl lb)), (lo2, .inl (cI, 10, .inl lu)), (lo3, .inl (cI, 10, .inl ld))] := hA ▸ hD0.own
  have hS : va_S A s.heap s.heap [] := va_S.rf
  have hl := lv_entry ([.ref h0, .int og, .int un, .int dl]) (n := 5) (Nat.le_of_ble_eq_true rfl)
  rw [lg_entry_eq]
  generalize (lg_sl ([.ref h0, .int og, .int un, .int dl]) ++ List.replicate (5 - (lg_sl ([.ref h0, .int og, .int un, .int dl])).length) Slot.unset).toArray = ls at hl ⊢
  have hl : lv_has ls 5 [(0, .ref h0), (1, .int og), (2, .int un), (3, .int dl)] := hl
  refine lv_aload_n hx hb dX8_receive_0 rfl (lv_at hl 0 rfl) ?_
  refine va_get (D := (dC, dI)) (ci := 8) (v := .ref ba) (C := RX8) (T := TX8) (N := 8) hx hb hts i_X8 hown hK hP 0 rfl rfl 1 (by decide) k_21 (fun _ h9 => h9) rfl dX8_receive_1 ?_
  refine lv_iload_n hx hb dX8_receive_4 rfl (lv_at hl 1 rfl) ?_
  refine lv_iload_n hx hb dX8_receive_5 rfl (lv_at hl 2 rfl) ?_
  refine lv_iload_n hx hb dX8_receive_6 rfl (lv_at hl 3 rfl) ?_
  refine xkI2 (xV (As := [.int og, .int un, .int dl]) (rest := []) (wc := [(ba, .inr (0, [.int (nI n), .ref gq, .ref cq, .ref lq, .ref sq, ba_sold, ba_given, ba_cents, ba_wasted])), (gq, .inl (cI, 40, .inl good)), (cq, .inl (cI, 40, .inl came)), (lq, .inl (cI, 40, .inl left)), (sq, .inl (cI, 40, .inl shelf))]) hx hb hml hown hts (c_X0_append l dC dI cI cF cC cZ cQ cS ba gq cq lq sq ba_sold ba_given ba_cents ba_wasted good came left shelf n og un dl (by omega)) 3 gX8_receive_X0_append rfl rfl rfl hdV_X0_append ⟨Nat.le_of_ble_eq_true rfl, Nat.le_of_ble_eq_true rfl⟩ hN hK hP hD [1, 2, 3, 4, 5] rfl rfl 0 1 rfl rfl rfl hl.1 rfl (Nat.le_of_ble_eq_true rfl) dX8_receive_7 ⟨Nat.zero_le _, Nat.zero_le _⟩) hP hD hS [1, 2, 3, 4, 5] [0, 1, 2, 3, 4, 5, 6, 7, 8, 9, 10] rfl rfl 11 rfl (by decide +kernel) (fun H locs hP hD hS => ?_)
  have hP : va_P (dC, dI) vwCl [(h0, .inr (8, [h0_goods, .ref ba, h0_orders, h0_stages, .ref lo, h0_settings, h0_rebate, .int td])), (ba, .inr (0, [.int (nI (n + 1)), .ref gq, .ref cq, .ref lq, .ref sq, ba_sold, ba_given, ba_cents, ba_wasted])), (gq, .inl (cI, 40, .inl (upd good n og))), (cq, .inl (cI, 40, .inl (upd came n un))), (lq, .inl (cI, 40, .inl (upd left n dl))), (sq, .inl (cI, 40, .inl (upd shelf n un))), (lo, .inr (5, [.int (nI lz), .int (nI nx), .ref lo0, .ref lo1, .ref lo2, .ref lo3])), (lo0, .inl (cI, 10, .inl kd)), (lo1, .inl (cI, 10, .inl lb)), (lo2, .inl (cI, 10, .inl lu)), (lo3, .inl (cI, 10, .inl ld))] H := hP
  have hD : va_D A [(h0, .inr (8, [h0_goods, .ref ba, h0_orders, h0_stages, .ref lo, h0_settings, h0_rebate, .int td])), (ba, .inr (0, [.int (nI (n + 1)), .ref gq, .ref cq, .ref lq, .ref sq, ba_sold, ba_given, ba_cents, ba_wasted])), (gq, .inl (cI, 40, .inl (upd good n og))), (cq, .inl (cI, 40, .inl (upd came n un))), (lq, .inl (cI, 40, .inl (upd left n dl))), (sq, .inl (cI, 40, .inl (upd shelf n un))), (lo, .inr (5, [.int (nI lz), .int (nI nx), .ref lo0, .ref lo1, .ref lo2, .ref lo3])), (lo0, .inl (cI, 10, .inl kd)), (lo1, .inl (cI, 10, .inl lb)), (lo2, .inl (cI, 10, .inl lu)), (lo3, .inl (cI, 10, .inl ld))] := hD
  refine lv_istore (lv' := [(4, .int (nI n)), (0, .ref h0), (1, .int og), (2, .int un), (3, .int dl)]) hx hb dX8_receive_10 hl (by decide) rfl (fun ls hl => ?_)
  refine lv_aload_n hx hb dX8_receive_12 rfl (lv_at hl 1 rfl) ?_
  refine va_get (D := (dC, dI)) (ci := 8) (v := .ref lo) (C := RX8) (T := TX8) (N := 8) hx hb hts i_X8 hown hK hP 0 rfl rfl 4 (by decide) k_42 (fun _ h9 => h9) rfl dX8_receive_13 ?_
  refine lv_iconst (v := nI 0) hx hb dX8_receive_16 (by decide) ?_
  refine lv_iload hx hb dX8_receive_17 (lv_at hl 0 rfl) ?_
  refine lv_iload_n hx hb dX8_receive_19 rfl (lv_at hl 3 rfl) ?_
  refine lv_aload_n hx hb dX8_receive_20 rfl (lv_at hl 1 rfl) ?_
  refine va_get (D := (dC, dI)) (ci := 8) (v := .int td) (C := RX8) (T := TX8) (N := 8) hx hb hts i_X8 hown hK hP 0 rfl rfl 7 (by decide) k_74 (fun _ h9 => h9) rfl dX8_receive_21 ?_
  refine xkV2 (xV (As := [.int (nI 0), .int (nI n), .int un, .int td]) (rest := []) (wc := [(lo, .inr (5, [.int (nI lz), .int (nI nx), .ref lo0, .ref lo1, .ref lo2, .ref lo3])), (lo0, .inl (cI, 10, .inl kd)), (lo1, .inl (cI, 10, .inl lb)), (lo2, .inl (cI, 10, .inl lu)), (lo3, .inl (cI, 10, .inl ld))]) hx hb hml hown hts (c_X5_append l dC dI cI cF cC cZ cQ cS lz nx lo lo0 lo1 lo2 lo3 kd lb lu ld (nI 0) (nI n) un td (by omega) (by omega)) 4 gX8_receive_X5_append rfl rfl rfl hdV_X5_append ⟨Nat.le_of_ble_eq_true rfl, Nat.le_of_ble_eq_true rfl⟩ hN hK hP hD [6, 7, 8, 9, 10] rfl rfl 5 6 rfl rfl rfl hl.1 rfl (Nat.le_of_ble_eq_true rfl) dX8_receive_24 ⟨Nat.zero_le _, Nat.zero_le _⟩) hP hD hS [6, 7, 8, 9, 10] [0, 1, 2, 3, 4, 5, 6, 7, 8, 9, 10] rfl rfl 11 rfl (by decide +kernel) (fun H locs hP hD hS => ?_)
  have hP : va_P (dC, dI) vwCl [(h0, .inr (8, [h0_goods, .ref ba, h0_orders, h0_stages, .ref lo, h0_settings, h0_rebate, .int td])), (ba, .inr (0, [.int (nI (n + 1)), .ref gq, .ref cq, .ref lq, .ref sq, ba_sold, ba_given, ba_cents, ba_wasted])), (gq, .inl (cI, 40, .inl (upd good n og))), (cq, .inl (cI, 40, .inl (upd came n un))), (lq, .inl (cI, 40, .inl (upd left n dl))), (sq, .inl (cI, 40, .inl (upd shelf n un))), (lo, .inr (5, [.int (nI (min (lz + 1) 10)), .int (nI ((nx + 1) % 10)), .ref lo0, .ref lo1, .ref lo2, .ref lo3])), (lo0, .inl (cI, 10, .inl (upd kd nx (nI 0)))), (lo1, .inl (cI, 10, .inl (upd lb nx (nI n)))), (lo2, .inl (cI, 10, .inl (upd lu nx un))), (lo3, .inl (cI, 10, .inl (upd ld nx td)))] H := hP
  have hD : va_D A [(h0, .inr (8, [h0_goods, .ref ba, h0_orders, h0_stages, .ref lo, h0_settings, h0_rebate, .int td])), (ba, .inr (0, [.int (nI (n + 1)), .ref gq, .ref cq, .ref lq, .ref sq, ba_sold, ba_given, ba_cents, ba_wasted])), (gq, .inl (cI, 40, .inl (upd good n og))), (cq, .inl (cI, 40, .inl (upd came n un))), (lq, .inl (cI, 40, .inl (upd left n dl))), (sq, .inl (cI, 40, .inl (upd shelf n un))), (lo, .inr (5, [.int (nI (min (lz + 1) 10)), .int (nI ((nx + 1) % 10)), .ref lo0, .ref lo1, .ref lo2, .ref lo3])), (lo0, .inl (cI, 10, .inl (upd kd nx (nI 0)))), (lo1, .inl (cI, 10, .inl (upd lb nx (nI n)))), (lo2, .inl (cI, 10, .inl (upd lu nx un))), (lo3, .inl (cI, 10, .inl (upd ld nx td)))] := hD
  refine lv_iload hx hb dX8_receive_27 (lv_at hl 0 rfl) ?_
  have hP9 : va_P (dC, dI) vwCl [(h0, .inr (8, [h0_goods, .ref ba, h0_orders, h0_stages, .ref lo, h0_settings, h0_rebate, .int td])), (ba, .inr (0, [.int (nI (n + 1)), .ref gq, .ref cq, .ref lq, .ref sq, ba_sold, ba_given, ba_cents, ba_wasted])), (gq, .inl (cI, 40, .inl (upd good n og))), (cq, .inl (cI, 40, .inl (upd came n un))), (lq, .inl (cI, 40, .inl (upd left n dl))), (sq, .inl (cI, 40, .inl (upd shelf n un))), (lo, .inr (5, [.int (nI (min (lz + 1) 10)), .int (nI ((nx + 1) % 10)), .ref lo0, .ref lo1, .ref lo2, .ref lo3])), (lo0, .inl (cI, 10, .inl (upd kd nx (nI 0)))), (lo1, .inl (cI, 10, .inl (upd lb nx (nI n)))), (lo2, .inl (cI, 10, .inl (upd lu nx un))), (lo3, .inl (cI, 10, .inl (upd ld nx td)))] H := hP
  have hS9 : va_S (va_B [(h0, .inr (8, [h0_goods, .ref ba, h0_orders, h0_stages, .ref lo, h0_settings, h0_rebate, .int td])), (ba, .inr (0, [.int (nI n), .ref gq, .ref cq, .ref lq, .ref sq, ba_sold, ba_given, ba_cents, ba_wasted])), (gq, .inl (cI, 40, .inl good)), (cq, .inl (cI, 40, .inl came)), (lq, .inl (cI, 40, .inl left)), (sq, .inl (cI, 40, .inl shelf)), (lo, .inr (5, [.int (nI lz), .int (nI nx), .ref lo0, .ref lo1, .ref lo2, .ref lo3])), (lo0, .inl (cI, 10, .inl kd)), (lo1, .inl (cI, 10, .inl lb)), (lo2, .inl (cI, 10, .inl lu)), (lo3, .inl (cI, 10, .inl ld))]) s.heap H locs := by rw [← hA]; exact hS
  exact W.iret (v := nI n) hx hb hr (fun t ht hW => ⟨⟨_, _, rfl, ⟨(show nI n = nI n from rfl), rfl⟩, by rw [ht]; exact hP9⟩, hS9.X ht⟩) hS9.2.2 dX8_receive_29
theorem hdV_X8_give : yX8_give.cls = RX8 ∧ yX8_give.cls ≠ "java/lang/invoke/MethodHandle" ∧ yX8_give.cls ≠ "java/lang/invoke/VarHandle" ∧ (parseMethodDescriptor yX8_give.desc).map (fun d => d.parameters.length) = some 2 := by decide +kernel
set_option maxHeartbeats 4000000 in
set_option maxRecDepth 100000 in
theorem c_X8_give (l : Launch) (dC : Nat → ClassId) (dI : Nat → Nat → Nat) (cI cF cC cZ cQ cS : ClassId) (h0 : Nat) (h0_goods : Value) (ba : Nat) (h0_orders : Value) (h0_stages : Value) (lo : Nat) (h0_settings : Value) (h0_rebate : Value) (ba_size : Value) (ba_good : Value) (ba_came : Value) (ba_left : Value) (sq : Nat) (ba_sold : Value) (gv : Nat) (ba_cents : Value) (ba_wasted : Value) (shelf : Nat → Int32) (given : Nat → Int32) (td : Int32) (lz : Nat) (nx : Nat) (lo0 : Nat) (lo1 : Nat) (lo2 : Nat) (lo3 : Nat) (kd : Nat → Int32) (lb : Nat → Int32) (lu : Nat → Int32) (ld : Nat → Int32) (bt : Nat) (un : Int32) (hbt : bt < 40) (hnx : nx < 10) (hlz : lz ≤ 10) : Met l yX8_give wsX8_give ({ frames := 2, cells := 0, slots := 0, locals := 45 }) (xPre (dC, dI) vwCl [.ref h0, .int (nI bt), .int un] (xtys cI cF cC cZ cQ cS) [(h0, .inr (8, [h0_goods, .ref ba, h0_orders, h0_stages, .ref lo, h0_settings, h0_rebate, .int td])), (ba, .inr (0, [ba_size, ba_good, ba_came, ba_left, .ref sq, ba_sold, .ref gv, ba_cents, ba_wasted])), (sq, .inl (cI, 40, .inl shelf)), (gv, .inl (cI, 40, .inl given)), (lo, .inr (5, [.int (nI lz), .int (nI nx), .ref lo0, .ref lo1, .ref lo2, .ref lo3])), (lo0, .inl (cI, 10, .inl kd)), (lo1, .inl (cI, 10, .inl lb)), (lo2, .inl (cI, 10, .inl lu)), (lo3, .inl (cI, 10, .inl ld))]) (xWv (dC, dI) vwCl [(h0, .inr (8, [h0_goods, .ref ba, h0_orders, h0_stages, .ref lo, h0_settings, h0_rebate, .int td])), (ba, .inr (0, [ba_size, ba_good, ba_came, ba_left, .ref sq, ba_sold, .ref gv, ba_cents, ba_wasted])), (sq, .inl (cI, 40, .inl shelf)), (gv, .inl (cI, 40, .inl given)), (lo, .inr (5, [.int (nI lz), .int (nI nx), .ref lo0, .ref lo1, .ref lo2, .ref lo3])), (lo0, .inl (cI, 10, .inl kd)), (lo1, .inl (cI, 10, .inl lb)), (lo2, .inl (cI, 10, .inl lu)), (lo3, .inl (cI, 10, .inl ld))] (fun w0 => w0 = [(h0, .inr (8, [h0_goods, .ref ba, h0_orders, h0_stages, .ref lo, h0_settings, h0_rebate, .int td])), (ba, .inr (0, [ba_size, ba_good, ba_came, ba_left, .ref sq, ba_sold, .ref gv, ba_cents, ba_wasted])), (sq, .inl (cI, 40, .inl (upd shelf bt (shelf bt - un)))), (gv, .inl (cI, 40, .inl (upd given bt (given bt + un)))), (lo, .inr (5, [.int (nI (min (lz + 1) 10)), .int (nI ((nx + 1) % 10)), .ref lo0, .ref lo1, .ref lo2, .ref lo3])), (lo0, .inl (cI, 10, .inl (upd kd nx (nI 2)))), (lo1, .inl (cI, 10, .inl (upd lb nx (nI bt)))), (lo2, .inl (cI, 10, .inl (upd lu nx un))), (lo3, .inl (cI, 10, .inl (upd ld nx td)))])) 0 0 (va_B [(h0, .inr (8, [h0_goods, .ref ba, h0_orders, h0_stages, .ref lo, h0_settings, h0_rebate, .int td])), (ba, .inr (0, [ba_size, ba_good, ba_came, ba_left, .ref sq, ba_sold, .ref gv, ba_cents, ba_wasted])), (sq, .inl (cI, 40, .inl shelf)), (gv, .inl (cI, 40, .inl given)), (lo, .inr (5, [.int (nI lz), .int (nI nx), .ref lo0, .ref lo1, .ref lo2, .ref lo3])), (lo0, .inl (cI, 10, .inl kd)), (lo1, .inl (cI, 10, .inl lb)), (lo2, .inl (cI, 10, .inl lu)), (lo3, .inl (cI, 10, .inl ld))]) := by
  refine Met.ofW (cc := cX8_give) (maxL := 3) (ret := none) (by decide) rfl ?_
  intro p e s m args below meth c s₁ B hml hv
  obtain ⟨rfl, hP, hK, hD0, hN⟩ := hv
  have hx := B.exec
  have hb := B.bytes
  have hr := B.returns
  have hts := atoms_spec (ws := wsX8_give) B.pre
  have hown : s.vm.findClass RX8 = some m.cls := findClass_of_methodNamed B.named
  have hlocks := B.notSynchronized
  have k_103 := hts (Cond.fieldLink RX8 103 "ShelfStages$Batches" "shelf" "[I") (by decide +kernel)
  have k_154 := hts (Cond.fieldLink RX8 154 "ShelfStages$Batches" "given" "[I") (by decide +kernel)
  have k_21 := hts (Cond.fieldLink RX8 21 "ShelfStages$State" "batches" "LShelfStages$Batches;") (by decide +kernel)
  have k_42 := hts (Cond.fieldLink RX8 42 "ShelfStages$State" "log" "LShelfStages$Log;") (by decide +kernel)
  have k_74 := hts (Cond.fieldLink RX8 74 "ShelfStages$State" "day" "I") (by decide +kernel)
  have i_X0 : ∀ w ∈ wsX00, w ∈ wsX8_give := by decide +kernel
  have i_X8 : ∀ w ∈ wsX80, w ∈ wsX8_give := by decide +kernel
  obtain ⟨A, hA⟩ : ∃ A, A = va_B [(h0, .inr (8, [h0_goods, .ref ba, h0_orders, h0_stages, .ref lo, h0_settings, h0_rebate, .int td])), (ba, .inr (0, [ba_size, ba_good, ba_came, ba_left, .ref sq, ba_sold, .ref gv, ba_cents, ba_wasted])), (sq, .inl (cI, 40, .inl shelf)), (gv, .inl (cI, 40, .inl given)), (lo, .inr (5, [.int (nI lz), .int (nI nx), .ref lo0, .ref lo1, .ref lo2, .ref lo3])), (lo0, .inl (cI, 10, .inl kd)), (lo1, .inl (cI, 10, .inl lb)), (lo2, .inl (cI, 10, .inl lu)), (lo3, .inl (cI, 10, .inl ld))] := ⟨_, rfl⟩
  have hD : va_D A [(h0, .inr (8, [h0_goods, .ref ba, h0_orders, h0_stages, .ref lo, h0_settings, h0_rebate, .int td])), (ba, .inr (0, [ba_size, ba_good, ba_came, ba_left, .ref sq, ba_sold, .ref gv, ba_cents, ba_wasted])), (sq, .inl (cI, 40, .inl shelf)), (gv, .inl (cI, 40, .inl given)), (lo, .inr (5, [.int (nI lz), .int (nI nx), .ref lo0, .ref lo1, .ref lo2, .ref lo3])), (lo0, .inl (cI, 10, .inl kd)), (lo1, .inl (cI, 10, .inl lb)), (lo2, .inl (cI, 10, .inl lu)), (lo3, .inl (cI, 10, .inl ld))] := hA ▸ hD0.own
  have hS : va_S A s.heap s.heap [] := va_S.rf
  have hl := lv_entry ([.ref h0, .int (nI bt), .int un]) (n := 3) (Nat.le_of_ble_eq_true rfl)
  rw [lg_entry_eq]
  generalize (lg_sl ([.ref h0, .int (nI bt), .int un]) ++ List.replicate (3 - (lg_sl ([.ref h0, .int (nI bt), .int un])).length) Slot.unset).toArray = ls at hl ⊢
  have hl : lv_has ls 3 [(0, .ref h0), (1, .int (nI bt)), (2, .int un)] := hl
  refine lv_aload_n hx hb dX8_give_0 rfl (lv_at hl 0 rfl) ?_
  refine va_get (D := (dC, dI)) (ci := 8) (v := .ref ba) (C := RX8) (T := TX8) (N := 8) hx hb hts i_X8 hown hK hP 0 rfl rfl 1 (by decide) k_21 (fun _ h9 => h9) rfl dX8_give_1 ?_
  refine va_get (D := (dC, dI)) (ci := 0) (v := .ref sq) (C := RX0) (T := TX0) (N := 9) hx hb hts i_X0 hown hK hP 1 rfl rfl 4 (by decide) k_103 (fun _ h9 => h9) rfl dX8_give_4 ?_
  refine lv_iload_n hx hb dX8_give_7 rfl (lv_at hl 1 rfl) ?_
  refine lv_dup2_11 hx hb dX8_give_8 rfl rfl ?_
  refine xr_iald hx hb hK hP 2 0 rfl rfl (i := bt) (by omega) (by decide) dX8_give_9 ?_
  refine lv_iload_n hx hb dX8_give_10 rfl (lv_at hl 2 rfl) ?_
  refine lv_isub hx hb dX8_give_11 ?_
  refine xr_iast hx hb hK hP hD hS 2 0 rfl rfl (i := bt) (by omega) (by decide) dX8_give_12 (fun H locs hP hD hS => ?_)
  have hP : va_P (dC, dI) vwCl [(h0, .inr (8, [h0_goods, .ref ba, h0_orders, h0_stages, .ref lo, h0_settings, h0_rebate, .int td])), (ba, .inr (0, [ba_size, ba_good, ba_came, ba_left, .ref sq, ba_sold, .ref gv, ba_cents, ba_wasted])), (sq, .inl (cI, 40, .inl (upd shelf bt ((shelf bt) - un)))), (gv, .inl (cI, 40, .inl given)), (lo, .inr (5, [.int (nI lz), .int (nI nx), .ref lo0, .ref lo1, .ref lo2, .ref lo3])), (lo0, .inl (cI, 10, .inl kd)), (lo1, .inl (cI, 10, .inl lb)), (lo2, .inl (cI, 10, .inl lu)), (lo3, .inl (cI, 10, .inl ld))] H := hP
  have hD : va_D A [(h0, .inr (8, [h0_goods, .ref ba, h0_orders, h0_stages, .ref lo, h0_settings, h0_rebate, .int td])), (ba, .inr (0, [ba_size, ba_good, ba_came, ba_left, .ref sq, ba_sold, .ref gv, ba_cents, ba_wasted])), (sq, .inl (cI, 40, .inl (upd shelf bt ((shelf bt) - un)))), (gv, .inl (cI, 40, .inl given)), (lo, .inr (5, [.int (nI lz), .int (nI nx), .ref lo0, .ref lo1, .ref lo2, .ref lo3])), (lo0, .inl (cI, 10, .inl kd)), (lo1, .inl (cI, 10, .inl lb)), (lo2, .inl (cI, 10, .inl lu)), (lo3, .inl (cI, 10, .inl ld))] := hD
  refine lv_aload_n hx hb dX8_give_13 rfl (lv_at hl 0 rfl) ?_
  refine va_get (D := (dC, dI)) (ci := 8) (v := .ref ba) (C := RX8) (T := TX8) (N := 8) hx hb hts i_X8 hown hK hP 0 rfl rfl 1 (by decide) k_21 (fun _ h9 => h9) rfl dX8_give_14 ?_
  refine va_get (D := (dC, dI)) (ci := 0) (v := .ref gv) (C := RX0) (T := TX0) (N := 9) hx hb hts i_X0 hown hK hP 1 rfl rfl 6 (by decide) k_154 (fun _ h9 => h9) rfl dX8_give_17 ?_
  refine lv_iload_n hx hb dX8_give_20 rfl (lv_at hl 1 rfl) ?_
  refine lv_dup2_11 hx hb dX8_give_21 rfl rfl ?_
  refine xr_iald hx hb hK hP 3 0 rfl rfl (i := bt) (by omega) (by decide) dX8_give_22 ?_
  refine lv_iload_n hx hb dX8_give_23 rfl (lv_at hl 2 rfl) ?_
  refine lv_iadd hx hb dX8_give_24 ?_
  refine xr_iast hx hb hK hP hD hS 3 0 rfl rfl (i := bt) (by omega) (by decide) dX8_give_25 (fun H locs hP hD hS => ?_)
  have hP : va_P (dC, dI) vwCl [(h0, .inr (8, [h0_goods, .ref ba, h0_orders, h0_stages, .ref lo, h0_settings, h0_rebate, .int td])), (ba, .inr (0, [ba_size, ba_good, ba_came, ba_left, .ref sq, ba_sold, .ref gv, ba_cents, ba_wasted])), (sq, .inl (cI, 40, .inl (upd shelf bt ((shelf bt) - un)))), (gv, .inl (cI, 40, .inl (upd given bt ((given bt) + un)))), (lo, .inr (5, [.int (nI lz), .int (nI nx), .ref lo0, .ref lo1, .ref lo2, .ref lo3])), (lo0, .inl (cI, 10, .inl kd)), (lo1, .inl (cI, 10, .inl lb)), (lo2, .inl (cI, 10, .inl lu)), (lo3, .inl (cI, 10, .inl ld))] H := hP
  have hD : va_D A [(h0, .inr (8, [h0_goods, .ref ba, h0_orders, h0_stages, .ref lo, h0_settings, h0_rebate, .int td])), (ba, .inr (0, [ba_size, ba_good, ba_came, ba_left, .ref sq, ba_sold, .ref gv, ba_cents, ba_wasted])), (sq, .inl (cI, 40, .inl (upd shelf bt ((shelf bt) - un)))), (gv, .inl (cI, 40, .inl (upd given bt ((given bt) + un)))), (lo, .inr (5, [.int (nI lz), .int (nI nx), .ref lo0, .ref lo1, .ref lo2, .ref lo3])), (lo0, .inl (cI, 10, .inl kd)), (lo1, .inl (cI, 10, .inl lb)), (lo2, .inl (cI, 10, .inl lu)), (lo3, .inl (cI, 10, .inl ld))] := hD
  refine lv_aload_n hx hb dX8_give_26 rfl (lv_at hl 0 rfl) ?_
  refine va_get (D := (dC, dI)) (ci := 8) (v := .ref lo) (C := RX8) (T := TX8) (N := 8) hx hb hts i_X8 hown hK hP 0 rfl rfl 4 (by decide) k_42 (fun _ h9 => h9) rfl dX8_give_27 ?_
  refine lv_iconst (v := nI 2) hx hb dX8_give_30 (by decide) ?_
  refine lv_iload_n hx hb dX8_give_31 rfl (lv_at hl 1 rfl) ?_
  refine lv_iload_n hx hb dX8_give_32 rfl (lv_at hl 2 rfl) ?_
  refine lv_aload_n hx hb dX8_give_33 rfl (lv_at hl 0 rfl) ?_
  refine va_get (D := (dC, dI)) (ci := 8) (v := .int td) (C := RX8) (T := TX8) (N := 8) hx hb hts i_X8 hown hK hP 0 rfl rfl 7 (by decide) k_74 (fun _ h9 => h9) rfl dX8_give_34 ?_
  refine xkV2 (xV (As := [.int (nI 2), .int (nI bt), .int un, .int td]) (rest := []) (wc := [(lo, .inr (5, [.int (nI lz), .int (nI nx), .ref lo0, .ref lo1, .ref lo2, .ref lo3])), (lo0, .inl (cI, 10, .inl kd)), (lo1, .inl (cI, 10, .inl lb)), (lo2, .inl (cI, 10, .inl lu)), (lo3, .inl (cI, 10, .inl ld))]) hx hb hml hown hts (c_X5_append l dC dI cI cF cC cZ cQ cS lz nx lo lo0 lo1 lo2 lo3 kd lb lu ld (nI 2) (nI bt) un td (by omega) (by omega)) 4 gX8_give_X5_append rfl rfl rfl hdV_X5_append ⟨Nat.le_of_ble_eq_true rfl, Nat.le_of_ble_eq_true rfl⟩ hN hK hP hD [4, 5, 6, 7, 8] rfl rfl 5 4 rfl rfl rfl hl.1 rfl (Nat.le_of_ble_eq_true rfl) dX8_give_37 ⟨Nat.zero_le _, Nat.zero_le _⟩) hP hD hS [4, 5, 6, 7, 8] [0, 1, 2, 3, 4, 5, 6, 7, 8] rfl rfl 9 rfl (by decide +kernel) (fun H locs hP hD hS => ?_)
  have hP : va_P (dC, dI) vwCl [(h0, .inr (8, [h0_goods, .ref ba, h0_orders, h0_stages, .ref lo, h0_settings, h0_rebate, .int td])), (ba, .inr (0, [ba_size, ba_good, ba_came, ba_left, .ref sq, ba_sold, .ref gv, ba_cents, ba_wasted])), (sq, .inl (cI, 40, .inl (upd shelf bt ((shelf bt) - un)))), (gv, .inl (cI, 40, .inl (upd given bt ((given bt) + un)))), (lo, .inr (5, [.int (nI (min (lz + 1) 10)), .int (nI ((nx + 1) % 10)), .ref lo0, .ref lo1, .ref lo2, .ref lo3])), (lo0, .inl (cI, 10, .inl (upd kd nx (nI 2)))), (lo1, .inl (cI, 10, .inl (upd lb nx (nI bt)))), (lo2, .inl (cI, 10, .inl (upd lu nx un))), (lo3, .inl (cI, 10, .inl (upd ld nx td)))] H := hP
  have hD : va_D A [(h0, .inr (8, [h0_goods, .ref ba, h0_orders, h0_stages, .ref lo, h0_settings, h0_rebate, .int td])), (ba, .inr (0, [ba_size, ba_good, ba_came, ba_left, .ref sq, ba_sold, .ref gv, ba_cents, ba_wasted])), (sq, .inl (cI, 40, .inl (upd shelf bt ((shelf bt) - un)))), (gv, .inl (cI, 40, .inl (upd given bt ((given bt) + un)))), (lo, .inr (5, [.int (nI (min (lz + 1) 10)), .int (nI ((nx + 1) % 10)), .ref lo0, .ref lo1, .ref lo2, .ref lo3])), (lo0, .inl (cI, 10, .inl (upd kd nx (nI 2)))), (lo1, .inl (cI, 10, .inl (upd lb nx (nI bt)))), (lo2, .inl (cI, 10, .inl (upd lu nx un))), (lo3, .inl (cI, 10, .inl (upd ld nx td)))] := hD
  have hP9 : va_P (dC, dI) vwCl [(h0, .inr (8, [h0_goods, .ref ba, h0_orders, h0_stages, .ref lo, h0_settings, h0_rebate, .int td])), (ba, .inr (0, [ba_size, ba_good, ba_came, ba_left, .ref sq, ba_sold, .ref gv, ba_cents, ba_wasted])), (sq, .inl (cI, 40, .inl (upd shelf bt (shelf bt - un)))), (gv, .inl (cI, 40, .inl (upd given bt (given bt + un)))), (lo, .inr (5, [.int (nI (min (lz + 1) 10)), .int (nI ((nx + 1) % 10)), .ref lo0, .ref lo1, .ref lo2, .ref lo3])), (lo0, .inl (cI, 10, .inl (upd kd nx (nI 2)))), (lo1, .inl (cI, 10, .inl (upd lb nx (nI bt)))), (lo2, .inl (cI, 10, .inl (upd lu nx un))), (lo3, .inl (cI, 10, .inl (upd ld nx td)))] H := hP
  have hS9 : va_S (va_B [(h0, .inr (8, [h0_goods, .ref ba, h0_orders, h0_stages, .ref lo, h0_settings, h0_rebate, .int td])), (ba, .inr (0, [ba_size, ba_good, ba_came, ba_left, .ref sq, ba_sold, .ref gv, ba_cents, ba_wasted])), (sq, .inl (cI, 40, .inl shelf)), (gv, .inl (cI, 40, .inl given)), (lo, .inr (5, [.int (nI lz), .int (nI nx), .ref lo0, .ref lo1, .ref lo2, .ref lo3])), (lo0, .inl (cI, 10, .inl kd)), (lo1, .inl (cI, 10, .inl lb)), (lo2, .inl (cI, 10, .inl lu)), (lo3, .inl (cI, 10, .inl ld))]) s.heap H locs := by rw [← hA]; exact hS
  exact W.vret hx hb hr (fun t ht hW => ⟨⟨_, rfl, rfl, by rw [ht]; exact hP9⟩, hS9.X ht⟩) hS9.2.2 dX8_give_40
theorem hdV_X8_waste : yX8_waste.cls = RX8 ∧ yX8_waste.cls ≠ "java/lang/invoke/MethodHandle" ∧ yX8_waste.cls ≠ "java/lang/invoke/VarHandle" ∧ (parseMethodDescriptor yX8_waste.desc).map (fun d => d.parameters.length) = some 3 := by decide +kernel
set_option maxHeartbeats 4000000 in
set_option maxRecDepth 100000 in
theorem c_X8_waste (l : Launch) (dC : Nat → ClassId) (dI : Nat → Nat → Nat) (cI cF cC cZ cQ cS : ClassId) (h0 : Nat) (h0_goods : Value) (ba : Nat) (h0_orders : Value) (h0_stages : Value) (lo : Nat) (h0_settings : Value) (h0_rebate : Value) (ba_size : Value) (ba_good : Value) (ba_came : Value) (ba_left : Value) (sq : Nat) (ba_sold : Value) (ba_given : Value) (ba_cents : Value) (wq : Nat) (shelf : Nat → Int32) (wf : Nat → Option Nat) (rq : Nat) (row : Nat → Int32) (td : Int32) (lz : Nat) (nx : Nat) (lo0 : Nat) (lo1 : Nat) (lo2 : Nat) (lo3 : Nat) (kd : Nat → Int32) (lb : Nat → Int32) (lu : Nat → Int32) (ld : Nat → Int32) (bt : Nat) (un : Int32) (ca : Nat) (hbt : bt < 40) (hca : ca < 3) (hrow : wf ca = some rq) (hnx : nx < 10) (hlz : lz ≤ 10) : Met l yX8_waste wsX8_waste ({ frames := 2, cells := 0, slots := 0, locals := 45 }) (xPre (dC, dI) vwCl [.ref h0, .int (nI bt), .int un, .int (nI ca)] (xtys cI cF cC cZ cQ cS) [(h0, .inr (8, [h0_goods, .ref ba, h0_orders, h0_stages, .ref lo, h0_settings, h0_rebate, .int td])), (ba, .inr (0, [ba_size, ba_good, ba_came, ba_left, .ref sq, ba_sold, ba_given, ba_cents, .ref wq])), (sq, .inl (cI, 40, .inl shelf)), (wq, .inl (cQ, 3, .inr (.inr (.inr (.inr wf))))), (rq, .inl (cI, 40, .inl row)), (lo, .inr (5, [.int (nI lz), .int (nI nx), .ref lo0, .ref lo1, .ref lo2, .ref lo3])), (lo0, .inl (cI, 10, .inl kd)), (lo1, .inl (cI, 10, .inl lb)), (lo2, .inl (cI, 10, .inl lu)), (lo3, .inl (cI, 10, .inl ld))]) (xWv (dC, dI) vwCl [(h0, .inr (8, [h0_goods, .ref ba, h0_orders, h0_stages, .ref lo, h0_settings, h0_rebate, .int td])), (ba, .inr (0, [ba_size, ba_good, ba_came, ba_left, .ref sq, ba_sold, ba_given, ba_cents, .ref wq])), (sq, .inl (cI, 40, .inl shelf)), (wq, .inl (cQ, 3, .inr (.inr (.inr (.inr wf))))), (rq, .inl (cI, 40, .inl row)), (lo, .inr (5, [.int (nI lz), .int (nI nx), .ref lo0, .ref lo1, .ref lo2, .ref lo3])), (lo0, .inl (cI, 10, .inl kd)), (lo1, .inl (cI, 10, .inl lb)), (lo2, .inl (cI, 10, .inl lu)), (lo3, .inl (cI, 10, .inl ld))] (fun w0 => w0 = [(h0, .inr (8, [h0_goods, .ref ba, h0_orders, h0_stages, .ref lo, h0_settings, h0_rebate, .int td])), (ba, .inr (0, [ba_size, ba_good, ba_came, ba_left, .ref sq, ba_sold, ba_given, ba_cents, .ref wq])), (sq, .inl (cI, 40, .inl (upd shelf bt (shelf bt - un)))), (wq, .inl (cQ, 3, .inr (.inr (.inr (.inr wf))))), (rq, .inl (cI, 40, .inl (upd row bt (row bt + un)))), (lo, .inr (5, [.int (nI (min (lz + 1) 10)), .int (nI ((nx + 1) % 10)), .ref lo0, .ref lo1, .ref lo2, .ref lo3])), (lo0, .inl (cI, 10, .inl (upd kd nx (nI 3)))), (lo1, .inl (cI, 10, .inl (upd lb nx (nI bt)))), (lo2, .inl (cI, 10, .inl (upd lu nx un))), (lo3, .inl (cI, 10, .inl (upd ld nx td)))])) 0 0 (va_B [(h0, .inr (8, [h0_goods, .ref ba, h0_orders, h0_stages, .ref lo, h0_settings, h0_rebate, .int td])), (ba, .inr (0, [ba_size, ba_good, ba_came, ba_left, .ref sq, ba_sold, ba_given, ba_cents, .ref wq])), (sq, .inl (cI, 40, .inl shelf)), (wq, .inl (cQ, 3, .inr (.inr (.inr (.inr wf))))), (rq, .inl (cI, 40, .inl row)), (lo, .inr (5, [.int (nI lz), .int (nI nx), .ref lo0, .ref lo1, .ref lo2, .ref lo3])), (lo0, .inl (cI, 10, .inl kd)), (lo1, .inl (cI, 10, .inl lb)), (lo2, .inl (cI, 10, .inl lu)), (lo3, .inl (cI, 10, .inl ld))]) := by
  refine Met.ofW (cc := cX8_waste) (maxL := 4) (ret := none) (by decide) rfl ?_
  intro p e s m args below meth c s₁ B hml hv
  obtain ⟨rfl, hP, hK, hD0, hN⟩ := hv
  have hx := B.exec
  have hb := B.bytes
  have hr := B.returns
  have hts := atoms_spec (ws := wsX8_waste) B.pre
  have hown : s.vm.findClass RX8 = some m.cls := findClass_of_methodNamed B.named
  have hlocks := B.notSynchronized
  have k_103 := hts (Cond.fieldLink RX8 103 "ShelfStages$Batches" "shelf" "[I") (by decide +kernel)
  have k_157 := hts (Cond.fieldLink RX8 157 "ShelfStages$Batches" "wasted" "[[I") (by decide +kernel)
  have k_21 := hts (Cond.fieldLink RX8 21 "ShelfStages$State" "batches" "LShelfStages$Batches;") (by decide +kernel)
  have k_42 := hts (Cond.fieldLink RX8 42 "ShelfStages$State" "log" "LShelfStages$Log;") (by decide +kernel)
  have k_74 := hts (Cond.fieldLink RX8 74 "ShelfStages$State" "day" "I") (by decide +kernel)
  have i_X0 : ∀ w ∈ wsX00, w ∈ wsX8_waste := by decide +kernel
  have i_X8 : ∀ w ∈ wsX80, w ∈ wsX8_waste := by decide +kernel
  obtain ⟨A, hA⟩ : ∃ A, A = va_B [(h0, .inr (8, [h0_goods, .ref ba, h0_orders, h0_stages, .ref lo, h0_settings, h0_rebate, .int td])), (ba, .inr (0, [ba_size, ba_good, ba_came, ba_left, .ref sq, ba_sold, ba_given, ba_cents, .ref wq])), (sq, .inl (cI, 40, .inl shelf)), (wq, .inl (cQ, 3, .inr (.inr (.inr (.inr wf))))), (rq, .inl (cI, 40, .inl row)), (lo, .inr (5, [.int (nI lz), .int (nI nx), .ref lo0, .ref lo1, .ref lo2, .ref lo3])), (lo0, .inl (cI, 10, .inl kd)), (lo1, .inl (cI, 10, .inl lb)), (lo2, .inl (cI, 10, .inl lu)), (lo3, .inl (cI, 10, .inl ld))] := ⟨_, rfl⟩
  have hD : va_D A [(h0, .inr (8, [h0_goods, .ref ba, h0_orders, h0_stages, .ref lo, h0_settings, h0_rebate, .int td])), (ba, .inr (0, [ba_size, ba_good, ba_came, ba_left, .ref sq, ba_sold, ba_given, ba_cents, .ref wq])), (sq, .inl (cI, 40, .inl shelf)), (wq, .inl (cQ, 3, .inr (.inr (.inr (.inr wf))))), (rq, .inl (cI, 40, .inl row)), (lo, .inr (5, [.int (nI lz), .int (nI nx), .ref lo0, .ref lo1, .ref lo2, .ref lo3])), (lo0, .inl (cI, 10, .inl kd)), (lo1, .inl (cI, 10, .inl lb)), (lo2, .inl (cI, 10, .inl lu)), (lo3, .inl (cI, 10, .inl ld))] := hA ▸ hD0.own
  have hS : va_S A s.heap s.heap [] := va_S.rf
  have hl := lv_entry ([.ref h0, .int (nI bt), .int un, .int (nI ca)]) (n := 4) (Nat.le_of_ble_eq_true rfl)
  rw [lg_entry_eq]
  generalize (lg_sl ([.ref h0, .int (nI bt), .int un, .int (nI ca)]) ++ List.replicate (4 - (lg_sl ([.ref h0, .int (nI bt), .int un, .int (nI ca)])).length) Slot.unset).toArray = ls at hl ⊢
  have hl : lv_has ls 4 [(0, .ref h0), (1, .int (nI bt)), (2, .int un), (3, .int (nI ca))] := hl
  refine lv_aload_n hx hb dX8_waste_0 rfl (lv_at hl 0 rfl) ?_
  refine va_get (D := (dC, dI)) (ci := 8) (v := .ref ba) (C := RX8) (T := TX8) (N := 8) hx hb hts i_X8 hown hK hP 0 rfl rfl 1 (by decide) k_21 (fun _ h9 => h9) rfl dX8_waste_1 ?_
  refine va_get (D := (dC, dI)) (ci := 0) (v := .ref sq) (C := RX0) (T := TX0) (N := 9) hx hb hts i_X0 hown hK hP 1 rfl rfl 4 (by decide) k_103 (fun _ h9 => h9) rfl dX8_waste_4 ?_
  refine lv_iload_n hx hb dX8_waste_7 rfl (lv_at hl 1 rfl) ?_
  refine lv_dup2_11 hx hb dX8_waste_8 rfl rfl ?_
  refine xr_iald hx hb hK hP 2 0 rfl rfl (i := bt) (by omega) (by decide) dX8_waste_9 ?_
  refine lv_iload_n hx hb dX8_waste_10 rfl (lv_at hl 2 rfl) ?_
  refine lv_isub hx hb dX8_waste_11 ?_
  refine xr_iast hx hb hK hP hD hS 2 0 rfl rfl (i := bt) (by omega) (by decide) dX8_waste_12 (fun H locs hP hD hS => ?_)
  have hP : va_P (dC, dI) vwCl [(h0, .inr (8, [h0_goods, .ref ba, h0_orders, h0_stages, .ref lo, h0_settings, h0_rebate, .int td])), (ba, .inr (0, [ba_size, ba_good, ba_came, ba_left, .ref sq, ba_sold, ba_given, ba_cents, .ref wq])), (sq, .inl (cI, 40, .inl (upd shelf bt ((shelf bt) - un)))), (wq, .inl (cQ, 3, .inr (.inr (.inr (.inr wf))))), (rq, .inl (cI, 40, .inl row)), (lo, .inr (5, [.int (nI lz), .int (nI nx), .ref lo0, .ref lo1, .ref lo2, .ref lo3])), (lo0, .inl (cI, 10, .inl kd)), (lo1, .inl (cI, 10, .inl lb)), (lo2, .inl (cI, 10, .inl lu)), (lo3, .inl (cI, 10, .inl ld))] H := hP
  have hD : va_D A [(h0, .inr (8, [h0_goods, .ref ba, h0_orders, h0_stages, .ref lo, h0_settings, h0_rebate, .int td])), (ba, .inr (0, [ba_size, ba_good, ba_came, ba_left, .ref sq, ba_sold, ba_given, ba_cents, .ref wq])), (sq, .inl (cI, 40, .inl (upd shelf bt ((shelf bt) - un)))), (wq, .inl (cQ, 3, .inr (.inr (.inr (.inr wf))))), (rq, .inl (cI, 40, .inl row)), (lo, .inr (5, [.int (nI lz), .int (nI nx), .ref lo0, .ref lo1, .ref lo2, .ref lo3])), (lo0, .inl (cI, 10, .inl kd)), (lo1, .inl (cI, 10, .inl lb)), (lo2, .inl (cI, 10, .inl lu)), (lo3, .inl (cI, 10, .inl ld))] := hD
  refine lv_aload_n hx hb dX8_waste_13 rfl (lv_at hl 0 rfl) ?_
  refine va_get (D := (dC, dI)) (ci := 8) (v := .ref ba) (C := RX8) (T := TX8) (N := 8) hx hb hts i_X8 hown hK hP 0 rfl rfl 1 (by decide) k_21 (fun _ h9 => h9) rfl dX8_waste_14 ?_
  refine va_get (D := (dC, dI)) (ci := 0) (v := .ref wq) (C := RX0) (T := TX0) (N := 9) hx hb hts i_X0 hown hK hP 1 rfl rfl 8 (by decide) k_157 (fun _ h9 => h9) rfl dX8_waste_17 ?_
  refine lv_iload_n hx hb dX8_waste_20 rfl (lv_at hl 3 rfl) ?_
  refine xr_aald hx hb hK hP 3 4 rfl rfl rfl (i := ca) (v := rq) (by omega) (by decide) hrow dX8_waste_21 ?_
  refine lv_iload_n hx hb dX8_waste_22 rfl (lv_at hl 1 rfl) ?_
  refine lv_dup2_11 hx hb dX8_waste_23 rfl rfl ?_
  refine xr_iald hx hb hK hP 4 0 rfl rfl (i := bt) (by omega) (by decide) dX8_waste_24 ?_
  refine lv_iload_n hx hb dX8_waste_25 rfl (lv_at hl 2 rfl) ?_
  refine lv_iadd hx hb dX8_waste_26 ?_
  refine xr_iast hx hb hK hP hD hS 4 0 rfl rfl (i := bt) (by omega) (by decide) dX8_waste_27 (fun H locs hP hD hS => ?_)
  have hP : va_P (dC, dI) vwCl [(h0, .inr (8, [h0_goods, .ref ba, h0_orders, h0_stages, .ref lo, h0_settings, h0_rebate, .int td])), (ba, .inr (0, [ba_size, ba_good, ba_came, ba_left, .ref sq, ba_sold, ba_given, ba_cents, .ref wq])), (sq, .inl (cI, 40, .inl (upd shelf bt ((shelf bt) - un)))), (wq, .inl (cQ, 3, .inr (.inr (.inr (.inr wf))))), (rq, .inl (cI, 40, .inl (upd row bt ((row bt) + un)))), (lo, .inr (5, [.int (nI lz), .int (nI nx), .ref lo0, .ref lo1, .ref lo2, .ref lo3])), (lo0, .inl (cI, 10, .inl kd)), (lo1, .inl (cI, 10, .inl lb)), (lo2, .inl (cI, 10, .inl lu)), (lo3, .inl (cI, 10, .inl ld))] H := hP
  have hD : va_D A [(h0, .inr (8, [h0_goods, .ref ba, h0_orders, h0_stages, .ref lo, h0_settings, h0_rebate, .int td])), (ba, .inr (0, [ba_size, ba_good, ba_came, ba_left, .ref sq, ba_sold, ba_given, ba_cents, .ref wq])), (sq, .inl (cI, 40, .inl (upd shelf bt ((shelf bt) - un)))), (wq, .inl (cQ, 3, .inr (.inr (.inr (.inr wf))))), (rq, .inl (cI, 40, .inl (upd row bt ((row bt) + un)))), (lo, .inr (5, [.int (nI lz), .int (nI nx), .ref lo0, .ref lo1, .ref lo2, .ref lo3])), (lo0, .inl (cI, 10, .inl kd)), (lo1, .inl (cI, 10, .inl lb)), (lo2, .inl (cI, 10, .inl lu)), (lo3, .inl (cI, 10, .inl ld))] := hD
  refine lv_aload_n hx hb dX8_waste_28 rfl (lv_at hl 0 rfl) ?_
  refine va_get (D := (dC, dI)) (ci := 8) (v := .ref lo) (C := RX8) (T := TX8) (N := 8) hx hb hts i_X8 hown hK hP 0 rfl rfl 4 (by decide) k_42 (fun _ h9 => h9) rfl dX8_waste_29 ?_
  refine lv_iconst (v := nI 3) hx hb dX8_waste_32 (by decide) ?_
  refine lv_iload_n hx hb dX8_waste_33 rfl (lv_at hl 1 rfl) ?_
  refine lv_iload_n hx hb dX8_waste_34 rfl (lv_at hl 2 rfl) ?_
  refine lv_aload_n hx hb dX8_waste_35 rfl (lv_at hl 0 rfl) ?_
  refine va_get (D := (dC, dI)) (ci := 8) (v := .int td) (C := RX8) (T := TX8) (N := 8) hx hb hts i_X8 hown hK hP 0 rfl rfl 7 (by decide) k_74 (fun _ h9 => h9) rfl dX8_waste_36 ?_
  refine xkV2 (xV (As := [.int (nI 3), .int (nI bt), .int un, .int td]) (rest := []) (wc := [(lo, .inr (5, [.int (nI lz), .int (nI nx), .ref lo0, .ref lo1, .ref lo2, .ref lo3])), (lo0, .inl (cI, 10, .inl kd)), (lo1, .inl (cI, 10, .inl lb)), (lo2, .inl (cI, 10, .inl lu)), (lo3, .inl (cI, 10, .inl ld))]) hx hb hml hown hts (c_X5_append l dC dI cI cF cC cZ cQ cS lz nx lo lo0 lo1 lo2 lo3 kd lb lu ld (nI 3) (nI bt) un td (by omega) (by omega)) 4 gX8_waste_X5_append rfl rfl rfl hdV_X5_append ⟨Nat.le_of_ble_eq_true rfl, Nat.le_of_ble_eq_true rfl⟩ hN hK hP hD [5, 6, 7, 8, 9] rfl rfl 5 5 rfl rfl rfl hl.1 rfl (Nat.le_of_ble_eq_true rfl) dX8_waste_39 ⟨Nat.zero_le _, Nat.zero_le _⟩) hP hD hS [5, 6, 7, 8, 9] [0, 1, 2, 3, 4, 5, 6, 7, 8, 9] rfl rfl 10 rfl (by decide +kernel) (fun H locs hP hD hS => ?_)
  have hP : va_P (dC, dI) vwCl [(h0, .inr (8, [h0_goods, .ref ba, h0_orders, h0_stages, .ref lo, h0_settings, h0_rebate, .int td])), (ba, .inr (0, [ba_size, ba_good, ba_came, ba_left, .ref sq, ba_sold, ba_given, ba_cents, .ref wq])), (sq, .inl (cI, 40, .inl (upd shelf bt ((shelf bt) - un)))), (wq, .inl (cQ, 3, .inr (.inr (.inr (.inr wf))))), (rq, .inl (cI, 40, .inl (upd row bt ((row bt) + un)))), (lo, .inr (5, [.int (nI (min (lz + 1) 10)), .int (nI ((nx + 1) % 10)), .ref lo0, .ref lo1, .ref lo2, .ref lo3])), (lo0, .inl (cI, 10, .inl (upd kd nx (nI 3)))), (lo1, .inl (cI, 10, .inl (upd lb nx (nI bt)))), (lo2, .inl (cI, 10, .inl (upd lu nx un))), (lo3, .inl (cI, 10, .inl (upd ld nx td)))] H := hP
  have hD : va_D A [(h0, .inr (8, [h0_goods, .ref ba, h0_orders, h0_stages, .ref lo, h0_settings, h0_rebate, .int td])), (ba, .inr (0, [ba_size, ba_good, ba_came, ba_left, .ref sq, ba_sold, ba_given, ba_cents, .ref wq])), (sq, .inl (cI, 40, .inl (upd shelf bt ((shelf bt) - un)))), (wq, .inl (cQ, 3, .inr (.inr (.inr (.inr wf))))), (rq, .inl (cI, 40, .inl (upd row bt ((row bt) + un)))), (lo, .inr (5, [.int (nI (min (lz + 1) 10)), .int (nI ((nx + 1) % 10)), .ref lo0, .ref lo1, .ref lo2, .ref lo3])), (lo0, .inl (cI, 10, .inl (upd kd nx (nI 3)))), (lo1, .inl (cI, 10, .inl (upd lb nx (nI bt)))), (lo2, .inl (cI, 10, .inl (upd lu nx un))), (lo3, .inl (cI, 10, .inl (upd ld nx td)))] := hD
  have hP9 : va_P (dC, dI) vwCl [(h0, .inr (8, [h0_goods, .ref ba, h0_orders, h0_stages, .ref lo, h0_settings, h0_rebate, .int td])), (ba, .inr (0, [ba_size, ba_good, ba_came, ba_left, .ref sq, ba_sold, ba_given, ba_cents, .ref wq])), (sq, .inl (cI, 40, .inl (upd shelf bt (shelf bt - un)))), (wq, .inl (cQ, 3, .inr (.inr (.inr (.inr wf))))), (rq, .inl (cI, 40, .inl (upd row bt (row bt + un)))), (lo, .inr (5, [.int (nI (min (lz + 1) 10)), .int (nI ((nx + 1) % 10)), .ref lo0, .ref lo1, .ref lo2, .ref lo3])), (lo0, .inl (cI, 10, .inl (upd kd nx (nI 3)))), (lo1, .inl (cI, 10, .inl (upd lb nx (nI bt)))), (lo2, .inl (cI, 10, .inl (upd lu nx un))), (lo3, .inl (cI, 10, .inl (upd ld nx td)))] H := hP
  have hS9 : va_S (va_B [(h0, .inr (8, [h0_goods, .ref ba, h0_orders, h0_stages, .ref lo, h0_settings, h0_rebate, .int td])), (ba, .inr (0, [ba_size, ba_good, ba_came, ba_left, .ref sq, ba_sold, ba_given, ba_cents, .ref wq])), (sq, .inl (cI, 40, .inl shelf)), (wq, .inl (cQ, 3, .inr (.inr (.inr (.inr wf))))), (rq, .inl (cI, 40, .inl row)), (lo, .inr (5, [.int (nI lz), .int (nI nx), .ref lo0, .ref lo1, .ref lo2, .ref lo3])), (lo0, .inl (cI, 10, .inl kd)), (lo1, .inl (cI, 10, .inl lb)), (lo2, .inl (cI, 10, .inl lu)), (lo3, .inl (cI, 10, .inl ld))]) s.heap H locs := by rw [← hA]; exact hS
  exact W.vret hx hb hr (fun t ht hW => ⟨⟨_, rfl, rfl, by rw [ht]; exact hP9⟩, hS9.X ht⟩) hS9.2.2 dX8_waste_42
theorem hdV_X8_wasteGood : yX8_wasteGood.cls = RX8 ∧ yX8_wasteGood.cls ≠ "java/lang/invoke/MethodHandle" ∧ yX8_wasteGood.cls ≠ "java/lang/invoke/VarHandle" ∧ (parseMethodDescriptor yX8_wasteGood.desc).map (fun d => d.parameters.length) = some 1 := by decide +kernel
set_option maxHeartbeats 4000000 in
set_option maxRecDepth 100000 in
theorem c_X8_wasteGood (l : Launch) (dC : Nat → ClassId) (dI : Nat → Nat → Nat) (cI cF cC cZ cQ cS : ClassId) (h0 : Nat) (h0_goods : Value) (ba : Nat) (h0_orders : Value) (h0_stages : Value) (lo : Nat) (h0_settings : Value) (h0_rebate : Value) (gq : Nat) (ba_came : Value) (ba_left : Value) (sq : Nat) (ba_sold : Value) (ba_given : Value) (ba_cents : Value) (wq : Nat) (shelf : Nat → Int32) (wf : Nat → Option Nat) (rq : Nat) (row : Nat → Int32) (td : Int32) (n : Nat) (lz : Nat) (nx : Nat) (lo0 : Nat) (lo1 : Nat) (lo2 : Nat) (lo3 : Nat) (kd : Nat → Int32) (lb : Nat → Int32) (lu : Nat → Int32) (ld : Nat → Int32) (good : Nat → Int32) (w : Int32) (hn : n ≤ 40) (hrow : wf 2 = some rq) (hnx : nx < 10) (hlz : lz ≤ 10) : Met l yX8_wasteGood wsX8_wasteGood ({ frames := 3, cells := 0, slots := 0, locals := 68 }) (xPre (dC, dI) vwCl [.ref h0, .int w] (xtys cI cF cC cZ cQ cS) [(h0, .inr (8, [h0_goods, .ref ba, h0_orders, h0_stages, .ref lo, h0_settings, h0_rebate, .int td])), (ba, .inr (0, [.int (nI n), .ref gq, ba_came, ba_left, .ref sq, ba_sold, ba_given, ba_cents, .ref wq])), (sq, .inl (cI, 40, .inl shelf)), (wq, .inl (cQ, 3, .inr (.inr (.inr (.inr wf))))), (rq, .inl (cI, 40, .inl row)), (lo, .inr (5, [.int (nI lz), .int (nI nx), .ref lo0, .ref lo1, .ref lo2, .ref lo3])), (lo0, .inl (cI, 10, .inl kd)), (lo1, .inl (cI, 10, .inl lb)), (lo2, .inl (cI, 10, .inl lu)), (lo3, .inl (cI, 10, .inl ld)), (gq, .inl (cI, 40, .inl good))]) (xWv (dC, dI) vwCl [(h0, .inr (8, [h0_goods, .ref ba, h0_orders, h0_stages, .ref lo, h0_settings, h0_rebate, .int td])), (ba, .inr (0, [.int (nI n), .ref gq, ba_came, ba_left, .ref sq, ba_sold, ba_given, ba_cents, .ref wq])), (sq, .inl (cI, 40, .inl shelf)), (wq, .inl (cQ, 3, .inr (.inr (.inr (.inr wf))))), (rq, .inl (cI, 40, .inl row)), (lo, .inr (5, [.int (nI lz), .int (nI nx), .ref lo0, .ref lo1, .ref lo2, .ref lo3])), (lo0, .inl (cI, 10, .inl kd)), (lo1, .inl (cI, 10, .inl lb)), (lo2, .inl (cI, 10, .inl lu)), (lo3, .inl (cI, 10, .inl ld)), (gq, .inl (cI, 40, .inl good))] (fun w0 => w0 = [(h0, .inr (8, [h0_goods, .ref ba, h0_orders, h0_stages, .ref lo, h0_settings, h0_rebate, .int td])), (ba, .inr (0, [.int (nI n), .ref gq, ba_came, ba_left, .ref sq, ba_sold, ba_given, ba_cents, .ref wq])), (sq, .inl (cI, 40, .inl ((xwg good w td (shelf, row, lz, nx, kd, lb, lu, ld) n).1))), (wq, .inl (cQ, 3, .inr (.inr (.inr (.inr wf))))), (rq, .inl (cI, 40, .inl ((xwg good w td (shelf, row, lz, nx, kd, lb, lu, ld) n).2.1))), (lo, .inr (5, [.int (nI ((xwg good w td (shelf, row, lz, nx, kd, lb, lu, ld) n).2.2.1)), .int (nI ((xwg good w td (shelf, row, lz, nx, kd, lb, lu, ld) n).2.2.2.1)), .ref lo0, .ref lo1, .ref lo2, .ref lo3])), (lo0, .inl (cI, 10, .inl ((xwg good w td (shelf, row, lz, nx, kd, lb, lu, ld) n).2.2.2.2.1))), (lo1, .inl (cI, 10, .inl ((xwg good w td (shelf, row, lz, nx, kd, lb, lu, ld) n).2.2.2.2.2.1))), (lo2, .inl (cI, 10, .inl ((xwg good w td (shelf, row, lz, nx, kd, lb, lu, ld) n).2.2.2.2.2.2.1))), (lo3, .inl (cI, 10, .inl ((xwg good w td (shelf, row, lz, nx, kd, lb, lu, ld) n).2.2.2.2.2.2.2))), (gq, .inl (cI, 40, .inl good))])) 0 0 (va_B [(h0, .inr (8, [h0_goods, .ref ba, h0_orders, h0_stages, .ref lo, h0_settings, h0_rebate, .int td])), (ba, .inr (0, [.int (nI n), .ref gq, ba_came, ba_left, .ref sq, ba_sold, ba_given, ba_cents, .ref wq])), (sq, .inl (cI, 40, .inl shelf)), (wq, .inl (cQ, 3, .inr (.inr (.inr (.inr wf))))), (rq, .inl (cI, 40, .inl row)), (lo, .inr (5, [.int (nI lz), .int (nI nx), .ref lo0, .ref lo1, .ref lo2, .ref lo3])), (lo0, .inl (cI, 10, .inl kd)), (lo1, .inl (cI, 10, .inl lb)), (lo2, .inl (cI, 10, .inl lu)), (lo3, .inl (cI, 10, .inl ld)), (gq, .inl (cI, 40, .inl good))]) := by
  refine Met.ofW (cc := cX8_wasteGood) (maxL := 3) (ret := none) (by decide) rfl ?_
  intro p e s m args below meth c s₁ B hml hv
  obtain ⟨rfl, hP, hK, hD0, hN⟩ := hv
  have hx := B.exec
  have hb := B.bytes
  have hr := B.returns
  have hts := atoms_spec (ws := wsX8_wasteGood) B.pre
  have hown : s.vm.findClass RX8 = some m.cls := findClass_of_methodNamed B.named
  have hlocks := B.notSynchronized
  have k_103 := hts (Cond.fieldLink RX8 103 "ShelfStages$Batches" "shelf" "[I") (by decide +kernel)
  have k_106 := hts (Cond.fieldLink RX8 106 "ShelfStages$Batches" "size" "I") (by decide +kernel)
  have k_21 := hts (Cond.fieldLink RX8 21 "ShelfStages$State" "batches" "LShelfStages$Batches;") (by decide +kernel)
  have k_84 := hts (Cond.fieldLink RX8 84 "ShelfStages$Batches" "good" "[I") (by decide +kernel)
  have i_X0 : ∀ w ∈ wsX00, w ∈ wsX8_wasteGood := by decide +kernel
  have i_X8 : ∀ w ∈ wsX80, w ∈ wsX8_wasteGood := by decide +kernel
  obtain ⟨A, hA⟩ : ∃ A, A = va_B [(h0, .inr (8, [h0_goods, .ref ba, h0_orders, h0_stages, .ref lo, h0_settings, h0_rebate, .int td])), (ba, .inr (0, [.int (nI n), .ref gq, ba_came, ba_left, .ref sq, ba_sold, ba_given, ba_cents, .ref wq])), (sq, .inl (cI, 40, .inl shelf)), (wq, .inl (cQ, 3, .inr (.inr (.inr (.inr wf))))), (rq, .inl (cI, 40, .inl row)), (lo, .inr (5, [.int (nI lz), .int (nI nx), .ref lo0, .ref lo1, .ref lo2, .ref lo3])), (lo0, .inl (cI, 10, .inl kd)), (lo1, .inl (cI, 10, .inl lb)), (lo2, .inl (cI, 10, .inl lu)), (lo3, .inl (cI, 10, .inl ld)), (gq, .inl (cI, 40, .inl good))] := ⟨_, rfl⟩
  have hD : va_D A [(h0, .inr (8, [h0_goods, .ref ba, h0_orders, h0_stages, .ref lo, h0_settings, h0_rebate, .int td])), (ba, .inr (0, [.int (nI n), .ref gq, ba_came, ba_left, .ref sq, ba_sold, ba_given, ba_cents, .ref wq])), (sq, .inl (cI, 40, .inl shelf)), (wq, .inl (cQ, 3, .inr (.inr (.inr (.inr wf))))), (rq, .inl (cI, 40, .inl row)), (lo, .inr (5, [.int (nI lz), .int (nI nx), .ref lo0, .ref lo1, .ref lo2, .ref lo3])), (lo0, .inl (cI, 10, .inl kd)), (lo1, .inl (cI, 10, .inl lb)), (lo2, .inl (cI, 10, .inl lu)), (lo3, .inl (cI, 10, .inl ld)), (gq, .inl (cI, 40, .inl good))] := hA ▸ hD0.own
  have hS : va_S A s.heap s.heap [] := va_S.rf
  have hl := lv_entry ([.ref h0, .int w]) (n := 3) (Nat.le_of_ble_eq_true rfl)
  rw [lg_entry_eq]
  generalize (lg_sl ([.ref h0, .int w]) ++ List.replicate (3 - (lg_sl ([.ref h0, .int w])).length) Slot.unset).toArray = ls at hl ⊢
  have hl : lv_has ls 3 [(0, .ref h0), (1, .int w)] := hl
  refine lv_iconst (v := nI 0) hx hb dX8_wasteGood_0 (by decide) ?_
  refine lv_istore_n (lv' := [(2, .int (nI 0)), (0, .ref h0), (1, .int w)]) hx hb dX8_wasteGood_1 rfl hl (by decide) rfl (fun ls hl => ?_)
  refine xr_loop (J := Nat) (fun n0 H locs g => ∃ (k : Nat) (q : XW) (ls : Array Slot), n0 = n - k ∧ g = F0 m 2 ls [] ∧ lv_has ls 3 [(2, .int (nI k)), (0, .ref h0), (1, .int w)] ∧ va_P (dC, dI) vwCl [(h0, .inr (8, [h0_goods, .ref ba, h0_orders, h0_stages, .ref lo, h0_settings, h0_rebate, .int td])), (ba, .inr (0, [.int (nI n), .ref gq, ba_came, ba_left, .ref sq, ba_sold, ba_given, ba_cents, .ref wq])), (sq, .inl (cI, 40, .inl q.1)), (wq, .inl (cQ, 3, .inr (.inr (.inr (.inr wf))))), (rq, .inl (cI, 40, .inl q.2.1)), (lo, .inr (5, [.int (nI q.2.2.1), .int (nI q.2.2.2.1), .ref lo0, .ref lo1, .ref lo2, .ref lo3])), (lo0, .inl (cI, 10, .inl q.2.2.2.2.1)), (lo1, .inl (cI, 10, .inl q.2.2.2.2.2.1)), (lo2, .inl (cI, 10, .inl q.2.2.2.2.2.2.1)), (lo3, .inl (cI, 10, .inl q.2.2.2.2.2.2.2)), (gq, .inl (cI, 40, .inl good))] H ∧ va_D A [(h0, .inr (8, [h0_goods, .ref ba, h0_orders, h0_stages, .ref lo, h0_settings, h0_rebate, .int td])), (ba, .inr (0, [.int (nI n), .ref gq, ba_came, ba_left, .ref sq, ba_sold, ba_given, ba_cents, .ref wq])), (sq, .inl (cI, 40, .inl q.1)), (wq, .inl (cQ, 3, .inr (.inr (.inr (.inr wf))))), (rq, .inl (cI, 40, .inl q.2.1)), (lo, .inr (5, [.int (nI q.2.2.1), .int (nI q.2.2.2.1), .ref lo0, .ref lo1, .ref lo2, .ref lo3])), (lo0, .inl (cI, 10, .inl q.2.2.2.2.1)), (lo1, .inl (cI, 10, .inl q.2.2.2.2.2.1)), (lo2, .inl (cI, 10, .inl q.2.2.2.2.2.2.1)), (lo3, .inl (cI, 10, .inl q.2.2.2.2.2.2.2)), (gq, .inl (cI, 40, .inl good))] ∧ va_S A s.heap H locs ∧ (k ≤ n) ∧ (q.2.2.1 ≤ 10 ∧ q.2.2.2.1 < 10) ∧ (q = xwg good w td (shelf, row, lz, nx, kd, lb, lu, ld) k)) (fun n => n) ?_ (n - 0) (g := F0 m 2 ls []) ⟨0, (shelf, row, lz, nx, kd, lb, lu, ld), ls, rfl, rfl, lv_sub hl [0, 1, 2] rfl, hP, hD, hS, (Nat.zero_le _), (⟨hlz, hnx⟩), rfl⟩
  intro n0 ih_2 H locs g hp
  obtain ⟨k, q, ls, rfl, rfl, hl, hP, hD, hS, hk, hL, hq⟩ := hp
  refine lv_iload_n hx hb dX8_wasteGood_2 rfl (lv_at hl 0 rfl) ?_
  refine lv_aload_n hx hb dX8_wasteGood_3 rfl (lv_at hl 1 rfl) ?_
  refine va_get (D := (dC, dI)) (ci := 8) (v := .ref ba) (C := RX8) (T := TX8) (N := 8) hx hb hts i_X8 hown hK hP 0 rfl rfl 1 (by decide) k_21 (fun _ h9 => h9) rfl dX8_wasteGood_4 ?_
  refine va_get (D := (dC, dI)) (ci := 0) (v := .int (nI n)) (C := RX0) (T := TX0) (N := 9) hx hb hts i_X0 hown hK hP 1 rfl rfl 0 (by decide) k_106 (fun _ h9 => h9) rfl dX8_wasteGood_7 ?_
  refine xr_ge_n (tgt := 59) hx hb (by omega) (by omega) dX8_wasteGood_10 (by decide) (fun c_1 => ?_) (fun c_1 => ?_)
  · skip
    have hkn : n = k := by omega
    subst hkn
    subst hq
    have hP9 : va_P (dC, dI) vwCl [(h0, .inr (8, [h0_goods, .ref ba, h0_orders, h0_stages, .ref lo, h0_settings, h0_rebate, .int td])), (ba, .inr (0, [.int (nI n), .ref gq, ba_came, ba_left, .ref sq, ba_sold, ba_given, ba_cents, .ref wq])), (sq, .inl (cI, 40, .inl ((xwg good w td (shelf, row, lz, nx, kd, lb, lu, ld) n).1))), (wq, .inl (cQ, 3, .inr (.inr (.inr (.inr wf))))), (rq, .inl (cI, 40, .inl ((xwg good w td (shelf, row, lz, nx, kd, lb, lu, ld) n).2.1))), (lo, .inr (5, [.int (nI ((xwg good w td (shelf, row, lz, nx, kd, lb, lu, ld) n).2.2.1)), .int (nI ((xwg good w td (shelf, row, lz, nx, kd, lb, lu, ld) n).2.2.2.1)), .ref lo0, .ref lo1, .ref lo2, .ref lo3])), (lo0, .inl (cI, 10, .inl ((xwg good w td (shelf, row, lz, nx, kd, lb, lu, ld) n).2.2.2.2.1))), (lo1, .inl (cI, 10, .inl ((xwg good w td (shelf, row, lz, nx, kd, lb, lu, ld) n).2.2.2.2.2.1))), (lo2, .inl (cI, 10, .inl ((xwg good w td (shelf, row, lz, nx, kd, lb, lu, ld) n).2.2.2.2.2.2.1))), (lo3, .inl (cI, 10, .inl ((xwg good w td (shelf, row, lz, nx, kd, lb, lu, ld) n).2.2.2.2.2.2.2))), (gq, .inl (cI, 40, .inl good))] H := hP
    have hS9 : va_S (va_B [(h0, .inr (8, [h0_goods, .ref ba, h0_orders, h0_stages, .ref lo, h0_settings, h0_rebate, .int td])), (ba, .inr (0, [.int (nI n), .ref gq, ba_came, ba_left, .ref sq, ba_sold, ba_given, ba_cents, .ref wq])), (sq, .inl (cI, 40, .inl shelf)), (wq, .inl (cQ, 3, .inr (.inr (.inr (.inr wf))))), (rq, .inl (cI, 40, .inl row)), (lo, .inr (5, [.int (nI lz), .int (nI nx), .ref lo0, .ref lo1, .ref lo2, .ref lo3])), (lo0, .inl (cI, 10, .inl kd)), (lo1, .inl (cI, 10, .inl lb)), (lo2, .inl (cI, 10, .inl lu)), (lo3, .inl (cI, 10, .inl ld)), (gq, .inl (cI, 40, .inl good))]) s.heap H locs := by rw [← hA]; exact hS
    exact W.vret hx hb hr (fun t ht hW => ⟨⟨_, rfl, rfl, by rw [ht]; exact hP9⟩, hS9.X ht⟩) hS9.2.2 dX8_wasteGood_59
  refine lv_aload_n hx hb dX8_wasteGood_13 rfl (lv_at hl 1 rfl) ?_
  refine va_get (D := (dC, dI)) (ci := 8) (v := .ref ba) (C := RX8) (T := TX8) (N := 8) hx hb hts i_X8 hown hK hP 0 rfl rfl 1 (by decide) k_21 (fun _ h9 => h9) rfl dX8_wasteGood_14 ?_
  refine va_get (D := (dC, dI)) (ci := 0) (v := .ref gq) (C := RX0) (T := TX0) (N := 9) hx hb hts i_X0 hown hK hP 1 rfl rfl 1 (by decide) k_84 (fun _ h9 => h9) rfl dX8_wasteGood_17 ?_
  refine lv_iload_n hx hb dX8_wasteGood_20 rfl (lv_at hl 0 rfl) ?_
  refine xr_iald hx hb hK hP 10 0 rfl rfl (i := k) (by omega) (by decide) dX8_wasteGood_21 ?_
  refine lv_iload_n hx hb dX8_wasteGood_22 rfl (lv_at hl 2 rfl) ?_
  refine lv_icmp_ne (tgt := 53) hx hb dX8_wasteGood_23 (by decide) (fun c_2 => ?_) (fun c_2 => ?_)
  · skip
    refine lv_iinc (v := nI (k + 1)) (lv' := [(2, .int (nI (k + 1))), (0, .ref h0), (1, .int w)]) hx hb dX8_wasteGood_53 hl (k := 0) rfl (nI_inc1 k) (by decide) rfl (fun ls hl => ?_)
    refine lv_goto (tgt := 2) hx hb dX8_wasteGood_56 (by decide) ?_
    exact ih_2 (n - (k + 1)) _ _ _ (show n - (k + 1) < n - k from by omega) ⟨(k + 1), (q.1, q.2.1, q.2.2.1, q.2.2.2.1, q.2.2.2.2.1, q.2.2.2.2.2.1, q.2.2.2.2.2.2.1, q.2.2.2.2.2.2.2), ls, rfl, rfl, lv_sub hl [0, 1, 2] rfl, hP, hD, hS, (by omega), hL, (xwg_2 hq (fun z => c_2 z.1))⟩
  refine lv_aload_n hx hb dX8_wasteGood_26 rfl (lv_at hl 1 rfl) ?_
  refine va_get (D := (dC, dI)) (ci := 8) (v := .ref ba) (C := RX8) (T := TX8) (N := 8) hx hb hts i_X8 hown hK hP 0 rfl rfl 1 (by decide) k_21 (fun _ h9 => h9) rfl dX8_wasteGood_27 ?_
  refine va_get (D := (dC, dI)) (ci := 0) (v := .ref sq) (C := RX0) (T := TX0) (N := 9) hx hb hts i_X0 hown hK hP 1 rfl rfl 4 (by decide) k_103 (fun _ h9 => h9) rfl dX8_wasteGood_30 ?_
  refine lv_iload_n hx hb dX8_wasteGood_33 rfl (lv_at hl 0 rfl) ?_
  refine xr_iald hx hb hK hP 2 0 rfl rfl (i := k) (by omega) (by decide) dX8_wasteGood_34 ?_
  refine lv_if_le (tgt := 53) hx hb dX8_wasteGood_35 (by decide) (fun c_3 => ?_) (fun c_3 => ?_)
  · skip
    refine lv_iinc (v := nI (k + 1)) (lv' := [(2, .int (nI (k + 1))), (0, .ref h0), (1, .int w)]) hx hb dX8_wasteGood_53 hl (k := 0) rfl (nI_inc1 k) (by decide) rfl (fun ls hl => ?_)
    refine lv_goto (tgt := 2) hx hb dX8_wasteGood_56 (by decide) ?_
    exact ih_2 (n - (k + 1)) _ _ _ (show n - (k + 1) < n - k from by omega) ⟨(k + 1), (q.1, q.2.1, q.2.2.1, q.2.2.2.1, q.2.2.2.2.1, q.2.2.2.2.2.1, q.2.2.2.2.2.2.1, q.2.2.2.2.2.2.2), ls, rfl, rfl, lv_sub hl [0, 1, 2] rfl, hP, hD, hS, (by omega), hL, (xwg_2 hq (fun z => z.2 c_3))⟩
  refine lv_aload_n hx hb dX8_wasteGood_38 rfl (lv_at hl 1 rfl) ?_
  refine lv_iload_n hx hb dX8_wasteGood_39 rfl (lv_at hl 0 rfl) ?_
  refine lv_aload_n hx hb dX8_wasteGood_40 rfl (lv_at hl 1 rfl) ?_
  refine va_get (D := (dC, dI)) (ci := 8) (v := .ref ba) (C := RX8) (T := TX8) (N := 8) hx hb hts i_X8 hown hK hP 0 rfl rfl 1 (by decide) k_21 (fun _ h9 => h9) rfl dX8_wasteGood_41 ?_
  refine va_get (D := (dC, dI)) (ci := 0) (v := .ref sq) (C := RX0) (T := TX0) (N := 9) hx hb hts i_X0 hown hK hP 1 rfl rfl 4 (by decide) k_103 (fun _ h9 => h9) rfl dX8_wasteGood_44 ?_
  refine lv_iload_n hx hb dX8_wasteGood_47 rfl (lv_at hl 0 rfl) ?_
  refine xr_iald hx hb hK hP 2 0 rfl rfl (i := k) (by omega) (by decide) dX8_wasteGood_48 ?_
  refine lv_iconst (v := nI 2) hx hb dX8_wasteGood_49 (by decide) ?_
  refine xkV2 (xV (As := [.int (nI k), .int (q.1 k), .int (nI 2)]) (rest := []) (wc := [(h0, .inr (8, [h0_goods, .ref ba, h0_orders, h0_stages, .ref lo, h0_settings, h0_rebate, .int td])), (ba, .inr (0, [.int (nI n), .ref gq, ba_came, ba_left, .ref sq, ba_sold, ba_given, ba_cents, .ref wq])), (sq, .inl (cI, 40, .inl q.1)), (wq, .inl (cQ, 3, .inr (.inr (.inr (.inr wf))))), (rq, .inl (cI, 40, .inl q.2.1)), (lo, .inr (5, [.int (nI q.2.2.1), .int (nI q.2.2.2.1), .ref lo0, .ref lo1, .ref lo2, .ref lo3])), (lo0, .inl (cI, 10, .inl q.2.2.2.2.1)), (lo1, .inl (cI, 10, .inl q.2.2.2.2.2.1)), (lo2, .inl (cI, 10, .inl q.2.2.2.2.2.2.1)), (lo3, .inl (cI, 10, .inl q.2.2.2.2.2.2.2))]) hx hb hml hown hts (c_X8_waste l dC dI cI cF cC cZ cQ cS h0 h0_goods ba h0_orders h0_stages lo h0_settings h0_rebate (.int (nI n)) (.ref gq) ba_came ba_left sq ba_sold ba_given ba_cents wq q.1 wf rq q.2.1 td q.2.2.1 q.2.2.2.1 lo0 lo1 lo2 lo3 q.2.2.2.2.1 q.2.2.2.2.2.1 q.2.2.2.2.2.2.1 q.2.2.2.2.2.2.2 k (q.1 k) 2 (by omega) (by omega) hrow hL.2 hL.1) 3 gX8_wasteGood_X8_waste rfl rfl rfl hdV_X8_waste ⟨Nat.le_of_ble_eq_true rfl, Nat.le_of_ble_eq_true rfl⟩ hN hK hP hD [0, 1, 2, 3, 4, 5, 6, 7, 8, 9] rfl rfl 8 0 rfl rfl rfl hl.1 rfl (Nat.le_of_ble_eq_true rfl) dX8_wasteGood_50 ⟨Nat.zero_le _, Nat.zero_le _⟩) hP hD hS [0, 1, 2, 3, 4, 5, 6, 7, 8, 9] [0, 1, 2, 3, 4, 5, 6, 7, 8, 9, 10] rfl rfl 11 rfl (by decide +kernel) (fun H locs hP hD hS => ?_)
  have hP : va_P (dC, dI) vwCl [(h0, .inr (8, [h0_goods, .ref ba, h0_orders, h0_stages, .ref lo, h0_settings, h0_rebate, .int td])), (ba, .inr (0, [.int (nI n), .ref gq, ba_came, ba_left, .ref sq, ba_sold, ba_given, ba_cents, .ref wq])), (sq, .inl (cI, 40, .inl (upd q.1 k (q.1 k - (q.1 k))))), (wq, .inl (cQ, 3, .inr (.inr (.inr (.inr wf))))), (rq, .inl (cI, 40, .inl (upd q.2.1 k (q.2.1 k + (q.1 k))))), (lo, .inr (5, [.int (nI (min (q.2.2.1 + 1) 10)), .int (nI ((q.2.2.2.1 + 1) % 10)), .ref lo0, .ref lo1, .ref lo2, .ref lo3])), (lo0, .inl (cI, 10, .inl (upd q.2.2.2.2.1 q.2.2.2.1 (nI 3)))), (lo1, .inl (cI, 10, .inl (upd q.2.2.2.2.2.1 q.2.2.2.1 (nI k)))), (lo2, .inl (cI, 10, .inl (upd q.2.2.2.2.2.2.1 q.2.2.2.1 (q.1 k)))), (lo3, .inl (cI, 10, .inl (upd q.2.2.2.2.2.2.2 q.2.2.2.1 td))), (gq, .inl (cI, 40, .inl good))] H := hP
  have hD : va_D A [(h0, .inr (8, [h0_goods, .ref ba, h0_orders, h0_stages, .ref lo, h0_settings, h0_rebate, .int td])), (ba, .inr (0, [.int (nI n), .ref gq, ba_came, ba_left, .ref sq, ba_sold, ba_given, ba_cents, .ref wq])), (sq, .inl (cI, 40, .inl (upd q.1 k (q.1 k - (q.1 k))))), (wq, .inl (cQ, 3, .inr (.inr (.inr (.inr wf))))), (rq, .inl (cI, 40, .inl (upd q.2.1 k (q.2.1 k + (q.1 k))))), (lo, .inr (5, [.int (nI (min (q.2.2.1 + 1) 10)), .int (nI ((q.2.2.2.1 + 1) % 10)), .ref lo0, .ref lo1, .ref lo2, .ref lo3])), (lo0, .inl (cI, 10, .inl (upd q.2.2.2.2.1 q.2.2.2.1 (nI 3)))), (lo1, .inl (cI, 10, .inl (upd q.2.2.2.2.2.1 q.2.2.2.1 (nI k)))), (lo2, .inl (cI, 10, .inl (upd q.2.2.2.2.2.2.1 q.2.2.2.1 (q.1 k)))), (lo3, .inl (cI, 10, .inl (upd q.2.2.2.2.2.2.2 q.2.2.2.1 td))), (gq, .inl (cI, 40, .inl good))] := hD
  refine lv_iinc (v := nI (k + 1)) (lv' := [(2, .int (nI (k + 1))), (0, .ref h0), (1, .int w)]) hx hb dX8_wasteGood_53 hl (k := 0) rfl (nI_inc1 k) (by decide) rfl (fun ls hl => ?_)
  refine lv_goto (tgt := 2) hx hb dX8_wasteGood_56 (by decide) ?_
  exact ih_2 (n - (k + 1)) _ _ _ (show n - (k + 1) < n - k from by omega) ⟨(k + 1), (upd q.1 k (q.1 k - (q.1 k)), upd q.2.1 k (q.2.1 k + (q.1 k)), min (q.2.2.1 + 1) 10, (q.2.2.2.1 + 1) % 10, upd q.2.2.2.2.1 q.2.2.2.1 (nI 3), upd q.2.2.2.2.2.1 q.2.2.2.1 (nI k), upd q.2.2.2.2.2.2.1 q.2.2.2.1 (q.1 k), upd q.2.2.2.2.2.2.2 q.2.2.2.1 td), ls, rfl, rfl, lv_sub hl [0, 1, 2] rfl, hP, hD, hS, (by omega), (⟨Nat.min_le_right _ _, Nat.mod_lt _ (by decide)⟩), (xwg_1 hq c_2 c_3)⟩
theorem hdV_X8_expire : yX8_expire.cls = RX8 ∧ yX8_expire.cls ≠ "java/lang/invoke/MethodHandle" ∧ yX8_expire.cls ≠ "java/lang/invoke/VarHandle" ∧ (parseMethodDescriptor yX8_expire.desc).map (fun d => d.parameters.length) = some 0 := by decide +kernel
set_option maxHeartbeats 4000000 in
set_option maxRecDepth 100000 in
theorem c_X8_expire (l : Launch) (dC : Nat → ClassId) (dI : Nat → Nat → Nat) (cI cF cC cZ cQ cS : ClassId) (h0 : Nat) (h0_goods : Value) (ba : Nat) (h0_orders : Value) (h0_stages : Value) (lo : Nat) (h0_settings : Value) (h0_rebate : Value) (ba_good : Value) (ba_came : Value) (lq : Nat) (sq : Nat) (ba_sold : Value) (ba_given : Value) (ba_cents : Value) (wq : Nat) (shelf : Nat → Int32) (wf : Nat → Option Nat) (rq : Nat) (row : Nat → Int32) (td : Int32) (n : Nat) (lz : Nat) (nx : Nat) (lo0 : Nat) (lo1 : Nat) (lo2 : Nat) (lo3 : Nat) (kd : Nat → Int32) (lb : Nat → Int32) (lu : Nat → Int32) (ld : Nat → Int32) (left : Nat → Int32) (hn : n ≤ 40) (hrow : wf 0 = some rq) (hnx : nx < 10) (hlz : lz ≤ 10) : Met l yX8_expire wsX8_expire ({ frames := 3, cells := 0, slots := 0, locals := 68 }) (xPre (dC, dI) vwCl [.ref h0] (xtys cI cF cC cZ cQ cS) [(h0, .inr (8, [h0_goods, .ref ba, h0_orders, h0_stages, .ref lo, h0_settings, h0_rebate, .int td])), (ba, .inr (0, [.int (nI n), ba_good, ba_came, .ref lq, .ref sq, ba_sold, ba_given, ba_cents, .ref wq])), (sq, .inl (cI, 40, .inl shelf)), (wq, .inl (cQ, 3, .inr (.inr (.inr (.inr wf))))), (rq, .inl (cI, 40, .inl row)), (lo, .inr (5, [.int (nI lz), .int (nI nx), .ref lo0, .ref lo1, .ref lo2, .ref lo3])), (lo0, .inl (cI, 10, .inl kd)), (lo1, .inl (cI, 10, .inl lb)), (lo2, .inl (cI, 10, .inl lu)), (lo3, .inl (cI, 10, .inl ld)), (lq, .inl (cI, 40, .inl left))]) (xWi (dC, dI) vwCl [(h0, .inr (8, [h0_goods, .ref ba, h0_orders, h0_stages, .ref lo, h0_settings, h0_rebate, .int td])), (ba, .inr (0, [.int (nI n), ba_good, ba_came, .ref lq, .ref sq, ba_sold, ba_given, ba_cents, .ref wq])), (sq, .inl (cI, 40, .inl shelf)), (wq, .inl (cQ, 3, .inr (.inr (.inr (.inr wf))))), (rq, .inl (cI, 40, .inl row)), (lo, .inr (5, [.int (nI lz), .int (nI nx), .ref lo0, .ref lo1, .ref lo2, .ref lo3])), (lo0, .inl (cI, 10, .inl kd)), (lo1, .inl (cI, 10, .inl lb)), (lo2, .inl (cI, 10, .inl lu)), (lo3, .inl (cI, 10, .inl ld)), (lq, .inl (cI, 40, .inl left))] (fun r0 w0 => r0 = (xexp left td (shelf, row, lz, nx, kd, lb, lu, ld) n).1 ∧ w0 = [(h0, .inr (8, [h0_goods, .ref ba, h0_orders, h0_stages, .ref lo, h0_settings, h0_rebate, .int td])), (ba, .inr (0, [.int (nI n), ba_good, ba_came, .ref lq, .ref sq, ba_sold, ba_given, ba_cents, .ref wq])), (sq, .inl (cI, 40, .inl ((xexp left td (shelf, row, lz, nx, kd, lb, lu, ld) n).2.1))), (wq, .inl (cQ, 3, .inr (.inr (.inr (.inr wf))))), (rq, .inl (cI, 40, .inl ((xexp left td (shelf, row, lz, nx, kd, lb, lu, ld) n).2.2.1))), (lo, .inr (5, [.int (nI ((xexp left td (shelf, row, lz, nx, kd, lb, lu, ld) n).2.2.2.1)), .int (nI ((xexp left td (shelf, row, lz, nx, kd, lb, lu, ld) n).2.2.2.2.1)), .ref lo0, .ref lo1, .ref lo2, .ref lo3])), (lo0, .inl (cI, 10, .inl ((xexp left td (shelf, row, lz, nx, kd, lb, lu, ld) n).2.2.2.2.2.1))), (lo1, .inl (cI, 10, .inl ((xexp left td (shelf, row, lz, nx, kd, lb, lu, ld) n).2.2.2.2.2.2.1))), (lo2, .inl (cI, 10, .inl ((xexp left td (shelf, row, lz, nx, kd, lb, lu, ld) n).2.2.2.2.2.2.2.1))), (lo3, .inl (cI, 10, .inl ((xexp left td (shelf, row, lz, nx, kd, lb, lu, ld) n).2.2.2.2.2.2.2.2))), (lq, .inl (cI, 40, .inl left))])) 0 0 (va_B [(h0, .inr (8, [h0_goods, .ref ba, h0_orders, h0_stages, .ref lo, h0_settings, h0_rebate, .int td])), (ba, .inr (0, [.int (nI n), ba_good, ba_came, .ref lq, .ref sq, ba_sold, ba_given, ba_cents, .ref wq])), (sq, .inl (cI, 40, .inl shelf)), (wq, .inl (cQ, 3, .inr (.inr (.inr (.inr wf))))), (rq, .inl (cI, 40, .inl row)), (lo, .inr (5, [.int (nI lz), .int (nI nx), .ref lo0, .ref lo1, .ref lo2, .ref lo3])), (lo0, .inl (cI, 10, .inl kd)), (lo1, .inl (cI, 10, .inl lb)), (lo2, .inl (cI, 10, .inl lu)), (lo3, .inl (cI, 10, .inl ld)), (lq, .inl (cI, 40, .inl left))]) := by
  refine Met.ofW (cc := cX8_expire) (maxL := 4) (ret := (some .int)) (by decide) rfl ?_
  intro p e s m args below meth c s₁ B hml hv
  obtain ⟨rfl, hP, hK, hD0, hN⟩ := hv
  have hx := B.exec
  have hb := B.bytes
  have hr := B.returns
  have hts := atoms_spec (ws := wsX8_expire) B.pre
  have hown : s.vm.findClass RX8 = some m.cls := findClass_of_methodNamed B.named
  have hlocks := B.notSynchronized
  have k_103 := hts (Cond.fieldLink RX8 103 "ShelfStages$Batches" "shelf" "[I") (by decide +kernel)
  have k_106 := hts (Cond.fieldLink RX8 106 "ShelfStages$Batches" "size" "I") (by decide +kernel)
  have k_21 := hts (Cond.fieldLink RX8 21 "ShelfStages$State" "batches" "LShelfStages$Batches;") (by decide +kernel)
  have k_78 := hts (Cond.fieldLink RX8 78 "ShelfStages$Batches" "left" "[I") (by decide +kernel)
  have i_X0 : ∀ w ∈ wsX00, w ∈ wsX8_expire := by decide +kernel
  have i_X8 : ∀ w ∈ wsX80, w ∈ wsX8_expire := by decide +kernel
  obtain ⟨A, hA⟩ : ∃ A, A = va_B [(h0, .inr (8, [h0_goods, .ref ba, h0_orders, h0_stages, .ref lo, h0_settings, h0_rebate, .int td])), (ba, .inr (0, [.int (nI n), ba_good, ba_came, .ref lq, .ref sq, ba_sold, ba_given, ba_cents, .ref wq])), (sq, .inl (cI, 40, .inl shelf)), (wq, .inl (cQ, 3, .inr (.inr (.inr (.inr wf))))), (rq, .inl (cI, 40, .inl row)), (lo, .inr (5, [.int (nI lz), .int (nI nx), .ref lo0, .ref lo1, .ref lo2, .ref lo3])), (lo0, .inl (cI, 10, .inl kd)), (lo1, .inl (cI, 10, .inl lb)), (lo2, .inl (cI, 10, .inl lu)), (lo3, .inl (cI, 10, .inl ld)), (lq, .inl (cI, 40, .inl left))] := ⟨_, rfl⟩
  have hD : va_D A [(h0, .inr (8, [h0_goods, .ref ba, h0_orders, h0_stages, .ref lo, h0_settings, h0_rebate, .int td])), (ba, .inr (0, [.int (nI n), ba_good, ba_came, .ref lq, .ref sq, ba_sold, ba_given, ba_cents, .ref wq])), (sq, .inl (cI, 40, .inl shelf)), (wq, .inl (cQ, 3, .inr (.inr (.inr (.inr wf))))), (rq, .inl (cI, 40, .inl row)), (lo, .inr (5, [.int (nI lz), .int (nI nx), .ref lo0, .ref lo1, .ref lo2, .ref lo3])), (lo0, .inl (cI, 10, .inl kd)), (lo1, .inl (cI, 10, .inl lb)), (lo2, .inl (cI, 10, .inl lu)), (lo3, .inl (cI, 10, .inl ld)), (lq, .inl (cI, 40, .inl left))] := hA ▸ hD0.own
  have hS : va_S A s.heap s.heap [] := va_S.rf
  have hl := lv_entry ([.ref h0]) (n := 4) (Nat.le_of_ble_eq_true rfl)
  rw [lg_entry_eq]
  generalize (lg_sl ([.ref h0]) ++ List.replicate (4 - (lg_sl ([.ref h0])).length) Slot.unset).toArray = ls at hl ⊢
  have hl : lv_has ls 4 [(0, .ref h0)] := hl
  refine lv_iconst (v := nI 0) hx hb dX8_expire_0 (by decide) ?_
  refine lv_istore_n (lv' := [(1, .int (nI 0)), (0, .ref h0)]) hx hb dX8_expire_1 rfl hl (by decide) rfl (fun ls hl => ?_)
  refine lv_iconst (v := nI 0) hx hb dX8_expire_2 (by decide) ?_
  refine lv_istore_n (lv' := [(2, .int (nI 0)), (1, .int (nI 0)), (0, .ref h0)]) hx hb dX8_expire_3 rfl hl (by decide) rfl (fun ls hl => ?_)
  refine xr_loop (J := Nat) (fun n0 H locs g => ∃ (k : Nat) (q : Int32 × XW) (ls : Array Slot), n0 = n - k ∧ g = F0 m 4 ls [] ∧ lv_has ls 4 [(2, .int (nI k)), (1, .int q.1), (0, .ref h0)] ∧ va_P (dC, dI) vwCl [(h0, .inr (8, [h0_goods, .ref ba, h0_orders, h0_stages, .ref lo, h0_settings, h0_rebate, .int td])), (ba, .inr (0, [.int (nI n), ba_good, ba_came, .ref lq, .ref sq, ba_sold, ba_given, ba_cents, .ref wq])), (sq, .inl (cI, 40, .inl q.2.1)), (wq, .inl (cQ, 3, .inr (.inr (.inr (.inr wf))))), (rq, .inl (cI, 40, .inl q.2.2.1)), (lo, .inr (5, [.int (nI q.2.2.2.1), .int (nI q.2.2.2.2.1), .ref lo0, .ref lo1, .ref lo2, .ref lo3])), (lo0, .inl (cI, 10, .inl q.2.2.2.2.2.1)), (lo1, .inl (cI, 10, .inl q.2.2.2.2.2.2.1)), (lo2, .inl (cI, 10, .inl q.2.2.2.2.2.2.2.1)), (lo3, .inl (cI, 10, .inl q.2.2.2.2.2.2.2.2)), (lq, .inl (cI, 40, .inl left))] H ∧ va_D A [(h0, .inr (8, [h0_goods, .ref ba, h0_orders, h0_stages, .ref lo, h0_settings, h0_rebate, .int td])), (ba, .inr (0, [.int (nI n), ba_good, ba_came, .ref lq, .ref sq, ba_sold, ba_given, ba_cents, .ref wq])), (sq, .inl (cI, 40, .inl q.2.1)), (wq, .inl (cQ, 3, .inr (.inr (.inr (.inr wf))))), (rq, .inl (cI, 40, .inl q.2.2.1)), (lo, .inr (5, [.int (nI q.2.2.2.1), .int (nI q.2.2.2.2.1), .ref lo0, .ref lo1, .ref lo2, .ref lo3])), (lo0, .inl (cI, 10, .inl q.2.2.2.2.2.1)), (lo1, .inl (cI, 10, .inl q.2.2.2.2.2.2.1)), (lo2, .inl (cI, 10, .inl q.2.2.2.2.2.2.2.1)), (lo3, .inl (cI, 10, .inl q.2.2.2.2.2.2.2.2)), (lq, .inl (cI, 40, .inl left))] ∧ va_S A s.heap H locs ∧ (k ≤ n) ∧ (q.2.2.2.1 ≤ 10 ∧ q.2.2.2.2.1 < 10) ∧ (q = xexp left td (shelf, row, lz, nx, kd, lb, lu, ld) k)) (fun n => n) ?_ (n - 0) (g := F0 m 4 ls []) ⟨0, (nI 0, shelf, row, lz, nx, kd, lb, lu, ld), ls, rfl, rfl, lv_sub hl [0, 1, 2] rfl, hP, hD, hS, (Nat.zero_le _), (⟨hlz, hnx⟩), rfl⟩
  intro n0 ih_4 H locs g hp
  obtain ⟨k, q, ls, rfl, rfl, hl, hP, hD, hS, hk, hL, hq⟩ := hp
  refine lv_iload_n hx hb dX8_expire_4 rfl (lv_at hl 0 rfl) ?_
  refine lv_aload_n hx hb dX8_expire_5 rfl (lv_at hl 2 rfl) ?_
  refine va_get (D := (dC, dI)) (ci := 8) (v := .ref ba) (C := RX8) (T := TX8) (N := 8) hx hb hts i_X8 hown hK hP 0 rfl rfl 1 (by decide) k_21 (fun _ h9 => h9) rfl dX8_expire_6 ?_
  refine va_get (D := (dC, dI)) (ci := 0) (v := .int (nI n)) (C := RX0) (T := TX0) (N := 9) hx hb hts i_X0 hown hK hP 1 rfl rfl 0 (by decide) k_106 (fun _ h9 => h9) rfl dX8_expire_9 ?_
  refine xr_ge_n (tgt := 58) hx hb (by omega) (by omega) dX8_expire_12 (by decide) (fun c_1 => ?_) (fun c_1 => ?_)
  · skip
    refine lv_iload_n hx hb dX8_expire_58 rfl (lv_at hl 1 rfl) ?_
    have hkn : n = k := by omega
    subst hkn
    subst hq
    have hP9 : va_P (dC, dI) vwCl [(h0, .inr (8, [h0_goods, .ref ba, h0_orders, h0_stages, .ref lo, h0_settings, h0_rebate, .int td])), (ba, .inr (0, [.int (nI n), ba_good, ba_came, .ref lq, .ref sq, ba_sold, ba_given, ba_cents, .ref wq])), (sq, .inl (cI, 40, .inl ((xexp left td (shelf, row, lz, nx, kd, lb, lu, ld) n).2.1))), (wq, .inl (cQ, 3, .inr (.inr (.inr (.inr wf))))), (rq, .inl (cI, 40, .inl ((xexp left td (shelf, row, lz, nx, kd, lb, lu, ld) n).2.2.1))), (lo, .inr (5, [.int (nI ((xexp left td (shelf, row, lz, nx, kd, lb, lu, ld) n).2.2.2.1)), .int (nI ((xexp left td (shelf, row, lz, nx, kd, lb, lu, ld) n).2.2.2.2.1)), .ref lo0, .ref lo1, .ref lo2, .ref lo3])), (lo0, .inl (cI, 10, .inl ((xexp left td (shelf, row, lz, nx, kd, lb, lu, ld) n).2.2.2.2.2.1))), (lo1, .inl (cI, 10, .inl ((xexp left td (shelf, row, lz, nx, kd, lb, lu, ld) n).2.2.2.2.2.2.1))), (lo2, .inl (cI, 10, .inl ((xexp left td (shelf, row, lz, nx, kd, lb, lu, ld) n).2.2.2.2.2.2.2.1))), (lo3, .inl (cI, 10, .inl ((xexp left td (shelf, row, lz, nx, kd, lb, lu, ld) n).2.2.2.2.2.2.2.2))), (lq, .inl (cI, 40, .inl left))] H := hP
    have hS9 : va_S (va_B [(h0, .inr (8, [h0_goods, .ref ba, h0_orders, h0_stages, .ref lo, h0_settings, h0_rebate, .int td])), (ba, .inr (0, [.int (nI n), ba_good, ba_came, .ref lq, .ref sq, ba_sold, ba_given, ba_cents, .ref wq])), (sq, .inl (cI, 40, .inl shelf)), (wq, .inl (cQ, 3, .inr (.inr (.inr (.inr wf))))), (rq, .inl (cI, 40, .inl row)), (lo, .inr (5, [.int (nI lz), .int (nI nx), .ref lo0, .ref lo1, .ref lo2, .ref lo3])), (lo0, .inl (cI, 10, .inl kd)), (lo1, .inl (cI, 10, .inl lb)), (lo2, .inl (cI, 10, .inl lu)), (lo3, .inl (cI, 10, .inl ld)), (lq, .inl (cI, 40, .inl left))]) s.heap H locs := by rw [← hA]; exact hS
    exact W.iret (v := (xexp left td (shelf, row, lz, nx, kd, lb, lu, ld) n).1) hx hb hr (fun t ht hW => ⟨⟨_, _, rfl, ⟨(show (xexp left td (shelf, row, lz, nx, kd, lb, lu, ld) n).1 = (xexp left td (shelf, row, lz, nx, kd, lb, lu, ld) n).1 from rfl), rfl⟩, by rw [ht]; exact hP9⟩, hS9.X ht⟩) hS9.2.2 dX8_expire_59
  refine lv_aload_n hx hb dX8_expire_15 rfl (lv_at hl 2 rfl) ?_
  refine va_get (D := (dC, dI)) (ci := 8) (v := .ref ba) (C := RX8) (T := TX8) (N := 8) hx hb hts i_X8 hown hK hP 0 rfl rfl 1 (by decide) k_21 (fun _ h9 => h9) rfl dX8_expire_16 ?_
  refine va_get (D := (dC, dI)) (ci := 0) (v := .ref sq) (C := RX0) (T := TX0) (N := 9) hx hb hts i_X0 hown hK hP 1 rfl rfl 4 (by decide) k_103 (fun _ h9 => h9) rfl dX8_expire_19 ?_
  refine lv_iload_n hx hb dX8_expire_22 rfl (lv_at hl 0 rfl) ?_
  refine xr_iald hx hb hK hP 2 0 rfl rfl (i := k) (by omega) (by decide) dX8_expire_23 ?_
  refine lv_istore_n (lv' := [(3, .int (q.2.1 k)), (2, .int (nI k)), (1, .int q.1), (0, .ref h0)]) hx hb dX8_expire_24 rfl hl (by decide) rfl (fun ls hl => ?_)
  refine lv_iload_n hx hb dX8_expire_25 rfl (lv_at hl 0 rfl) ?_
  refine lv_if_le (tgt := 52) hx hb dX8_expire_26 (by decide) (fun c_2 => ?_) (fun c_2 => ?_)
  · skip
    refine lv_iinc (v := nI (k + 1)) (lv' := [(2, .int (nI (k + 1))), (3, .int (q.2.1 k)), (1, .int q.1), (0, .ref h0)]) hx hb dX8_expire_52 hl (k := 1) rfl (nI_inc1 k) (by decide) rfl (fun ls hl => ?_)
    refine lv_goto (tgt := 4) hx hb dX8_expire_55 (by decide) ?_
    exact ih_4 (n - (k + 1)) _ _ _ (show n - (k + 1) < n - k from by omega) ⟨(k + 1), (q.1, q.2.1, q.2.2.1, q.2.2.2.1, q.2.2.2.2.1, q.2.2.2.2.2.1, q.2.2.2.2.2.2.1, q.2.2.2.2.2.2.2.1, q.2.2.2.2.2.2.2.2), ls, rfl, rfl, lv_sub hl [0, 2, 3] rfl, hP, hD, hS, (by omega), hL, (xexp_2 hq (fun z => z.1 c_2))⟩
  refine lv_aload_n hx hb dX8_expire_29 rfl (lv_at hl 3 rfl) ?_
  refine va_get (D := (dC, dI)) (ci := 8) (v := .ref ba) (C := RX8) (T := TX8) (N := 8) hx hb hts i_X8 hown hK hP 0 rfl rfl 1 (by decide) k_21 (fun _ h9 => h9) rfl dX8_expire_30 ?_
  refine va_get (D := (dC, dI)) (ci := 0) (v := .ref lq) (C := RX0) (T := TX0) (N := 9) hx hb hts i_X0 hown hK hP 1 rfl rfl 3 (by decide) k_78 (fun _ h9 => h9) rfl dX8_expire_33 ?_
  refine lv_iload_n hx hb dX8_expire_36 rfl (lv_at hl 1 rfl) ?_
  refine xr_iald hx hb hK hP 10 0 rfl rfl (i := k) (by omega) (by decide) dX8_expire_37 ?_
  refine lv_if_gt (tgt := 52) hx hb dX8_expire_38 (by decide) (fun c_3 => ?_) (fun c_3 => ?_)
  · skip
    refine lv_iinc (v := nI (k + 1)) (lv' := [(2, .int (nI (k + 1))), (3, .int (q.2.1 k)), (1, .int q.1), (0, .ref h0)]) hx hb dX8_expire_52 hl (k := 1) rfl (nI_inc1 k) (by decide) rfl (fun ls hl => ?_)
    refine lv_goto (tgt := 4) hx hb dX8_expire_55 (by decide) ?_
    exact ih_4 (n - (k + 1)) _ _ _ (show n - (k + 1) < n - k from by omega) ⟨(k + 1), (q.1, q.2.1, q.2.2.1, q.2.2.2.1, q.2.2.2.2.1, q.2.2.2.2.2.1, q.2.2.2.2.2.2.1, q.2.2.2.2.2.2.2.1, q.2.2.2.2.2.2.2.2), ls, rfl, rfl, lv_sub hl [0, 2, 3] rfl, hP, hD, hS, (by omega), hL, (xexp_2 hq (fun z => z.2 c_3))⟩
  refine lv_aload_n hx hb dX8_expire_41 rfl (lv_at hl 3 rfl) ?_
  refine lv_iload_n hx hb dX8_expire_42 rfl (lv_at hl 1 rfl) ?_
  refine lv_iload_n hx hb dX8_expire_43 rfl (lv_at hl 0 rfl) ?_
  refine lv_iconst (v := nI 0) hx hb dX8_expire_44 (by decide) ?_
  refine xkV2 (xV (As := [.int (nI k), .int (q.2.1 k), .int (nI 0)]) (rest := []) (wc := [(h0, .inr (8, [h0_goods, .ref ba, h0_orders, h0_stages, .ref lo, h0_settings, h0_rebate, .int td])), (ba, .inr (0, [.int (nI n), ba_good, ba_came, .ref lq, .ref sq, ba_sold, ba_given, ba_cents, .ref wq])), (sq, .inl (cI, 40, .inl q.2.1)), (wq, .inl (cQ, 3, .inr (.inr (.inr (.inr wf))))), (rq, .inl (cI, 40, .inl q.2.2.1)), (lo, .inr (5, [.int (nI q.2.2.2.1), .int (nI q.2.2.2.2.1), .ref lo0, .ref lo1, .ref lo2, .ref lo3])), (lo0, .inl (cI, 10, .inl q.2.2.2.2.2.1)), (lo1, .inl (cI, 10, .inl q.2.2.2.2.2.2.1)), (lo2, .inl (cI, 10, .inl q.2.2.2.2.2.2.2.1)), (lo3, .inl (cI, 10, .inl q.2.2.2.2.2.2.2.2))]) hx hb hml hown hts (c_X8_waste l dC dI cI cF cC cZ cQ cS h0 h0_goods ba h0_orders h0_stages lo h0_settings h0_rebate (.int (nI n)) ba_good ba_came (.ref lq) sq ba_sold ba_given ba_cents wq q.2.1 wf rq q.2.2.1 td q.2.2.2.1 q.2.2.2.2.1 lo0 lo1 lo2 lo3 q.2.2.2.2.2.1 q.2.2.2.2.2.2.1 q.2.2.2.2.2.2.2.1 q.2.2.2.2.2.2.2.2 k (q.2.1 k) 0 (by omega) (by omega) hrow hL.2 hL.1) 3 gX8_expire_X8_waste rfl rfl rfl hdV_X8_waste ⟨Nat.le_of_ble_eq_true rfl, Nat.le_of_ble_eq_true rfl⟩ hN hK hP hD [0, 1, 2, 3, 4, 5, 6, 7, 8, 9] rfl rfl 8 0 rfl rfl rfl hl.1 rfl (Nat.le_of_ble_eq_true rfl) dX8_expire_45 ⟨Nat.zero_le _, Nat.zero_le _⟩) hP hD hS [0, 1, 2, 3, 4, 5, 6, 7, 8, 9] [0, 1, 2, 3, 4, 5, 6, 7, 8, 9, 10] rfl rfl 11 rfl (by decide +kernel) (fun H locs hP hD hS => ?_)
  have hP : va_P (dC, dI) vwCl [(h0, .inr (8, [h0_goods, .ref ba, h0_orders, h0_stages, .ref lo, h0_settings, h0_rebate, .int td])), (ba, .inr (0, [.int (nI n), ba_good, ba_came, .ref lq, .ref sq, ba_sold, ba_given, ba_cents, .ref wq])), (sq, .inl (cI, 40, .inl (upd q.2.1 k (q.2.1 k - (q.2.1 k))))), (wq, .inl (cQ, 3, .inr (.inr (.inr (.inr wf))))), (rq, .inl (cI, 40, .inl (upd q.2.2.1 k (q.2.2.1 k + (q.2.1 k))))), (lo, .inr (5, [.int (nI (min (q.2.2.2.1 + 1) 10)), .int (nI ((q.2.2.2.2.1 + 1) % 10)), .ref lo0, .ref lo1, .ref lo2, .ref lo3])), (lo0, .inl (cI, 10, .inl (upd q.2.2.2.2.2.1 q.2.2.2.2.1 (nI 3)))), (lo1, .inl (cI, 10, .inl (upd q.2.2.2.2.2.2.1 q.2.2.2.2.1 (nI k)))), (lo2, .inl (cI, 10, .inl (upd q.2.2.2.2.2.2.2.1 q.2.2.2.2.1 (q.2.1 k)))), (lo3, .inl (cI, 10, .inl (upd q.2.2.2.2.2.2.2.2 q.2.2.2.2.1 td))), (lq, .inl (cI, 40, .inl left))] H := hP
  have hD : va_D A [(h0, .inr (8, [h0_goods, .ref ba, h0_orders, h0_stages, .ref lo, h0_settings, h0_rebate, .int td])), (ba, .inr (0, [.int (nI n), ba_good, ba_came, .ref lq, .ref sq, ba_sold, ba_given, ba_cents, .ref wq])), (sq, .inl (cI, 40, .inl (upd q.2.1 k (q.2.1 k - (q.2.1 k))))), (wq, .inl (cQ, 3, .inr (.inr (.inr (.inr wf))))), (rq, .inl (cI, 40, .inl (upd q.2.2.1 k (q.2.2.1 k + (q.2.1 k))))), (lo, .inr (5, [.int (nI (min (q.2.2.2.1 + 1) 10)), .int (nI ((q.2.2.2.2.1 + 1) % 10)), .ref lo0, .ref lo1, .ref lo2, .ref lo3])), (lo0, .inl (cI, 10, .inl (upd q.2.2.2.2.2.1 q.2.2.2.2.1 (nI 3)))), (lo1, .inl (cI, 10, .inl (upd q.2.2.2.2.2.2.1 q.2.2.2.2.1 (nI k)))), (lo2, .inl (cI, 10, .inl (upd q.2.2.2.2.2.2.2.1 q.2.2.2.2.1 (q.2.1 k)))), (lo3, .inl (cI, 10, .inl (upd q.2.2.2.2.2.2.2.2 q.2.2.2.2.1 td))), (lq, .inl (cI, 40, .inl left))] := hD
  refine lv_iload_n hx hb dX8_expire_48 rfl (lv_at hl 2 rfl) ?_
  refine lv_iload_n hx hb dX8_expire_49 rfl (lv_at hl 0 rfl) ?_
  refine lv_iadd hx hb dX8_expire_50 ?_
  refine lv_istore_n (lv' := [(1, .int (q.1 + (q.2.1 k))), (3, .int (q.2.1 k)), (2, .int (nI k)), (0, .ref h0)]) hx hb dX8_expire_51 rfl hl (by decide) rfl (fun ls hl => ?_)
  refine lv_iinc (v := nI (k + 1)) (lv' := [(2, .int (nI (k + 1))), (1, .int (q.1 + (q.2.1 k))), (3, .int (q.2.1 k)), (0, .ref h0)]) hx hb dX8_expire_52 hl (k := 2) rfl (nI_inc1 k) (by decide) rfl (fun ls hl => ?_)
  refine lv_goto (tgt := 4) hx hb dX8_expire_55 (by decide) ?_
  exact ih_4 (n - (k + 1)) _ _ _ (show n - (k + 1) < n - k from by omega) ⟨(k + 1), (q.1 + (q.2.1 k), upd q.2.1 k (q.2.1 k - (q.2.1 k)), upd q.2.2.1 k (q.2.2.1 k + (q.2.1 k)), min (q.2.2.2.1 + 1) 10, (q.2.2.2.2.1 + 1) % 10, upd q.2.2.2.2.2.1 q.2.2.2.2.1 (nI 3), upd q.2.2.2.2.2.2.1 q.2.2.2.2.1 (nI k), upd q.2.2.2.2.2.2.2.1 q.2.2.2.2.1 (q.2.1 k), upd q.2.2.2.2.2.2.2.2 q.2.2.2.2.1 td), ls, rfl, rfl, lv_sub hl [0, 1, 3] rfl, hP, hD, hS, (by omega), (⟨Nat.min_le_right _ _, Nat.mod_lt _ (by decide)⟩), (xexp_1 hq c_2 c_3)⟩
