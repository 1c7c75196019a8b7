theorem hdV_X9_count : yX9_count.cls = RX9 ∧ yX9_count.cls ≠ "java/lang/invoke/MethodHandle" ∧ yX9_count.cls ≠ "java/lang/invoke/VarHandle" ∧ (parseMethodDescriptor yX9_count.desc).map (fun d => d.parameters.length) = some 1 := by decide +kernel
set_option maxHeartbeats 4000000 in
set_option maxRecDepth 100000 in
theorem c_X9_count (l : Launch) (dC : Nat → ClassId) (dI : Nat → Nat → Nat) (cI cF cC cZ cQ cS : ClassId) (x0 : Nat) (o0 : Nat) (x0_snapshot : Value) (x0_trial : Value) (y0 : Nat) (x0_filling : Value) (x0_delivery : Value) (x0_text : Value) (x0_hasSnapshot : Value) (y0_states : Value) (y0_oldest : Value) (hs : Nat) (tl : Nat) (day : Int32) (o1 : Nat) (o6 : Nat) (o18 : Nat) (o0_stages : Value) (o0_log : Value) (o39 : Nat) (o0_rebate : Value) (gz : Nat) (o1_price : Value) (o1_life : Value) (o1_listed : Value) (o1_list : Value) (bz : Nat) (o6_good : Value) (o6_came : Value) (o6_left : Value) (o10 : Nat) (o11 : Nat) (o12 : Nat) (o6_cents : Value) (o14 : Nat) (shelf : Nat → Int32) (sold : Nat → Int32) (given : Nat → Int32) (o15 : Nat) (wa : Nat → Int32) (o16 : Nat) (wb : Nat → Int32) (o17 : Nat) (wc : Nat → Int32) (oz : Nat) (o18_takes : Value) (o18_good : Value) (o20 : Nat) (o21 : Nat) (o18_replaced : Value) (o18_least : Value) (o18_accepts : Value) (o18_parts : Value) (o26 : Nat) (o18_day : Value) (o18_firstTake : Value) (o18_takeBatch : Value) (o18_takeUnits : Value) (wanted : Nat → Int32) (got : Nat → Int32) (due : Nat → Int32) (sets : Nat → Int32) (wh : Int32) (hbz : bz ≤ 40) (hoz : oz ≤ 30) : Met l yX9_count wsX9_count ({ frames := 2, cells := 0, slots := 0, locals := 43 }) (xPre (dC, dI) vwCl [.ref x0, .int wh] (xtys cI cF cC cZ cQ cS) [(x0, .inr (9, [.ref o0, x0_snapshot, x0_trial, .ref y0, x0_filling, x0_delivery, x0_text, .int (nI tl), x0_hasSnapshot])), (y0, .inr (4, [y0_states, y0_oldest, .int (nI hs)])), (o0, .inr (8, [.ref o1, .ref o6, .ref o18, o0_stages, o0_log, .ref o39, o0_rebate, .int day])), (o1, .inr (3, [.int (nI gz), o1_price, o1_life, o1_listed, o1_list])), (o6, .inr (0, [.int (nI bz), o6_good, o6_came, o6_left, .ref o10, .ref o11, .ref o12, o6_cents, .ref o14])), (o10, .inl (cI, 40, .inl shelf)), (o11, .inl (cI, 40, .inl sold)), (o12, .inl (cI, 40, .inl given)), (o14, .inl (cQ, 3, .inr (.inr (.inr (.inr (xrow [o15, o16, o17])))))), (o15, .inl (cI, 40, .inl wa)), (o16, .inl (cI, 40, .inl wb)), (o17, .inl (cI, 40, .inl wc)), (o18, .inr (6, [.int (nI oz), o18_takes, o18_good, .ref o20, .ref o21, o18_replaced, o18_least, o18_accepts, o18_parts, .ref o26, o18_day, o18_firstTake, o18_takeBatch, o18_takeUnits])), (o20, .inl (cI, 30, .inl wanted)), (o21, .inl (cI, 30, .inl got)), (o26, .inl (cI, 30, .inl due)), (o39, .inl (cI, 3, .inl sets))]) (vp_Si (fun r0 => r0 = tCount wh day (nI gz) (nI bz) (nI oz) (xsum shelf bz) (xsum sold bz) (xsum given bz) ((xsum wa bz + xsum wb bz) + xsum wc bz) (xsum wa bz) (xsum wb bz) (xsum wc bz) (xsum wanted oz - xsum got oz) (xcnt got 0 oz) (xsum due oz) (sets 0) (sets 1) (sets 2) (nI hs) (nI tl))) 0 0 (fun _ => False) := by
  refine Met.ofW (cc := cX9_count) (maxL := 4) (ret := (some .int)) (by decide) rfl ?_
  intro p e s m args below meth c s₁ B hml hv
  obtain ⟨rfl, hP, hK, hD0, hN⟩ := hv
  have hx := B.exec
  have hb := B.bytes
  have hr := B.returns
  have hts := atoms_spec (ws := wsX9_count) B.pre
  have hown : s.vm.findClass RX9 = some m.cls := findClass_of_methodNamed B.named
  have hlocks := B.notSynchronized
  have k_118 := hts (Cond.fieldLink RX9 118 "ShelfStages$State" "settings" "[I") (by decide +kernel)
  have k_12 := hts (Cond.fieldLink RX9 12 "ShelfStages" "now" "LShelfStages$State;") (by decide +kernel)
  have k_129 := hts (Cond.fieldLink RX9 129 "ShelfStages$State" "batches" "LShelfStages$Batches;") (by decide +kernel)
  have k_133 := hts (Cond.fieldLink RX9 133 "ShelfStages$Batches" "size" "I") (by decide +kernel)
  have k_140 := hts (Cond.fieldLink RX9 140 "ShelfStages" "textLength" "I") (by decide +kernel)
  have k_165 := hts (Cond.fieldLink RX9 165 "ShelfStages$State" "orders" "LShelfStages$Orders;") (by decide +kernel)
  have k_169 := hts (Cond.fieldLink RX9 169 "ShelfStages$Orders" "size" "I") (by decide +kernel)
  have k_172 := hts (Cond.fieldLink RX9 172 "ShelfStages$State" "day" "I") (by decide +kernel)
  have k_192 := hts (Cond.fieldLink RX9 192 "ShelfStages$Batches" "shelf" "[I") (by decide +kernel)
  have k_209 := hts (Cond.fieldLink RX9 209 "ShelfStages$History" "size" "I") (by decide +kernel)
  have k_226 := hts (Cond.fieldLink RX9 226 "ShelfStages$Batches" "sold" "[I") (by decide +kernel)
  have k_244 := hts (Cond.fieldLink RX9 244 "ShelfStages$Batches" "given" "[I") (by decide +kernel)
  have k_25 := hts (Cond.fieldLink RX9 25 "ShelfStages" "history" "LShelfStages$History;") (by decide +kernel)
  have k_250 := hts (Cond.fieldLink RX9 250 "ShelfStages$Batches" "wasted" "[[I") (by decide +kernel)
  have k_280 := hts (Cond.fieldLink RX9 280 "ShelfStages$Orders" "wanted" "[I") (by decide +kernel)
  have k_283 := hts (Cond.fieldLink RX9 283 "ShelfStages$Orders" "got" "[I") (by decide +kernel)
  have k_297 := hts (Cond.fieldLink RX9 297 "ShelfStages$Orders" "due" "[I") (by decide +kernel)
  have k_51 := hts (Cond.fieldLink RX9 51 "ShelfStages$State" "goods" "LShelfStages$Goods;") (by decide +kernel)
  have k_55 := hts (Cond.fieldLink RX9 55 "ShelfStages$Goods" "size" "I") (by decide +kernel)
  have i_X0 : ∀ w ∈ wsX00, w ∈ wsX9_count := by decide +kernel
  have i_X3 : ∀ w ∈ wsX30, w ∈ wsX9_count := by decide +kernel
  have i_X4 : ∀ w ∈ wsX40, w ∈ wsX9_count := by decide +kernel
  have i_X6 : ∀ w ∈ wsX60, w ∈ wsX9_count := by decide +kernel
  have i_X8 : ∀ w ∈ wsX80, w ∈ wsX9_count := by decide +kernel
  have i_X9 : ∀ w ∈ wsX90, w ∈ wsX9_count := by decide +kernel
  have hD := hD0
  have hl := lv_entry ([.ref x0, .int wh]) (n := 4) (Nat.le_of_ble_eq_true rfl)
  rw [lg_entry_eq]
  generalize (lg_sl ([.ref x0, .int wh]) ++ List.replicate (4 - (lg_sl ([.ref x0, .int wh])).length) Slot.unset).toArray = ls at hl ⊢
  have hl : lv_has ls 4 [(0, .ref x0), (1, .int wh)] := hl
  refine lv_aload_n hx hb dX9_count_0 rfl (lv_at hl 0 rfl) ?_
  refine va_get (D := (dC, dI)) (ci := 9) (v := .ref o0) (C := RX9) (T := TX9) (N := 9) hx hb hts i_X9 hown hK hP 0 rfl rfl 0 (by decide) k_12 (fun _ h9 => h9) rfl dX9_count_1 ?_
  refine va_get (D := (dC, dI)) (ci := 8) (v := .ref o6) (C := RX8) (T := TX8) (N := 8) hx hb hts i_X8 hown hK hP 2 rfl rfl 1 (by decide) k_129 (fun _ h9 => h9) rfl dX9_count_4 ?_
  refine lv_astore_n (lv' := [(2, .ref o6), (0, .ref x0), (1, .int wh)]) hx hb dX9_count_7 rfl hl (by decide) rfl (fun ls hl => ?_)
  refine lv_aload_n hx hb dX9_count_8 rfl (lv_at hl 1 rfl) ?_
  refine va_get (D := (dC, dI)) (ci := 9) (v := .ref o0) (C := RX9) (T := TX9) (N := 9) hx hb hts i_X9 hown hK hP 0 rfl rfl 0 (by decide) k_12 (fun _ h9 => h9) rfl dX9_count_9 ?_
  refine va_get (D := (dC, dI)) (ci := 8) (v := .ref o18) (C := RX8) (T := TX8) (N := 8) hx hb hts i_X8 hown hK hP 2 rfl rfl 2 (by decide) k_165 (fun _ h9 => h9) rfl dX9_count_12 ?_
  refine lv_astore_n (lv' := [(3, .ref o18), (2, .ref o6), (0, .ref x0), (1, .int wh)]) hx hb dX9_count_15 rfl hl (by decide) rfl (fun ls hl => ?_)
  refine lv_iload_n hx hb dX9_count_16 rfl (lv_at hl 3 rfl) ?_
  by_cases cs_1 : wh = nI 0
  · skip
    refine lv_tableIn (tgt := 108) hx hb dX9_count_17 (by rw [cs_1]; decide) (by rw [cs_1]; decide) (by rw [cs_1]; rfl) (by decide) ?_
    refine lv_aload_n hx hb dX9_count_108 rfl (lv_at hl 2 rfl) ?_
    refine va_get (D := (dC, dI)) (ci := 9) (v := .ref o0) (C := RX9) (T := TX9) (N := 9) hx hb hts i_X9 hown hK hP 0 rfl rfl 0 (by decide) k_12 (fun _ h9 => h9) rfl dX9_count_109 ?_
    refine va_get (D := (dC, dI)) (ci := 8) (v := .int day) (C := RX8) (T := TX8) (N := 8) hx hb hts i_X8 hown hK hP 2 rfl rfl 7 (by decide) k_172 (fun _ h9 => h9) rfl dX9_count_112 ?_
    exact W.iret (v := day) hx hb hr (fun t ht hW => ⟨_, rfl, (show day = tCount wh day (nI gz) (nI bz) (nI oz) (xsum shelf bz) (xsum sold bz) (xsum given bz) ((xsum wa bz + xsum wb bz) + xsum wc bz) (xsum wa bz) (xsum wb bz) (xsum wc bz) (xsum wanted oz - xsum got oz) (xcnt got 0 oz) (xsum due oz) (sets 0) (sets 1) (sets 2) (nI hs) (nI tl) from (by unfold tCount; rw [if_pos cs_1])), ht⟩) (fun q h => by cases h) dX9_count_115
  by_cases cs_2 : wh = nI 1
  · skip
    refine lv_tableIn (tgt := 116) hx hb dX9_count_17 (by rw [cs_2]; decide) (by rw [cs_2]; decide) (by rw [cs_2]; rfl) (by decide) ?_
    refine lv_aload_n hx hb dX9_count_116 rfl (lv_at hl 2 rfl) ?_
    refine va_get (D := (dC, dI)) (ci := 9) (v := .ref o0) (C := RX9) (T := TX9) (N := 9) hx hb hts i_X9 hown hK hP 0 rfl rfl 0 (by decide) k_12 (fun _ h9 => h9) rfl dX9_count_117 ?_
    refine va_get (D := (dC, dI)) (ci := 8) (v := .ref o1) (C := RX8) (T := TX8) (N := 8) hx hb hts i_X8 hown hK hP 2 rfl rfl 0 (by decide) k_51 (fun _ h9 => h9) rfl dX9_count_120 ?_
    refine va_get (D := (dC, dI)) (ci := 3) (v := .int (nI gz)) (C := RX3) (T := TX3) (N := 5) hx hb hts i_X3 hown hK hP 3 rfl rfl 0 (by decide) k_55 (fun _ h9 => h9) rfl dX9_count_123 ?_
    exact W.iret (v := nI gz) hx hb hr (fun t ht hW => ⟨_, rfl, (show nI gz = tCount wh day (nI gz) (nI bz) (nI oz) (xsum shelf bz) (xsum sold bz) (xsum given bz) ((xsum wa bz + xsum wb bz) + xsum wc bz) (xsum wa bz) (xsum wb bz) (xsum wc bz) (xsum wanted oz - xsum got oz) (xcnt got 0 oz) (xsum due oz) (sets 0) (sets 1) (sets 2) (nI hs) (nI tl) from (by unfold tCount; rw [if_neg cs_1, if_pos cs_2])), ht⟩) (fun q h => by cases h) dX9_count_126
  by_cases cs_3 : wh = nI 2
  · skip
    refine lv_tableIn (tgt := 127) hx hb dX9_count_17 (by rw [cs_3]; decide) (by rw [cs_3]; decide) (by rw [cs_3]; rfl) (by decide) ?_
    refine lv_aload_n hx hb dX9_count_127 rfl (lv_at hl 1 rfl) ?_
    refine va_get (D := (dC, dI)) (ci := 0) (v := .int (nI bz)) (C := RX0) (T := TX0) (N := 9) hx hb hts i_X0 hown hK hP 4 rfl rfl 0 (by decide) k_133 (fun _ h9 => h9) rfl dX9_count_128 ?_
    exact W.iret (v := nI bz) hx hb hr (fun t ht hW => ⟨_, rfl, (show nI bz = tCount wh day (nI gz) (nI bz) (nI oz) (xsum shelf bz) (xsum sold bz) (xsum given bz) ((xsum wa bz + xsum wb bz) + xsum wc bz) (xsum wa bz) (xsum wb bz) (xsum wc bz) (xsum wanted oz - xsum got oz) (xcnt got 0 oz) (xsum due oz) (sets 0) (sets 1) (sets 2) (nI hs) (nI tl) from (by unfold tCount; rw [if_neg cs_1, if_neg cs_2, if_pos cs_3])), ht⟩) (fun q h => by cases h) dX9_count_131
  by_cases cs_4 : wh = nI 3
  · skip
    refine lv_tableIn (tgt := 132) hx hb dX9_count_17 (by rw [cs_4]; decide) (by rw [cs_4]; decide) (by rw [cs_4]; rfl) (by decide) ?_
    refine lv_aload_n hx hb dX9_count_132 rfl (lv_at hl 0 rfl) ?_
    refine va_get (D := (dC, dI)) (ci := 6) (v := .int (nI oz)) (C := RX6) (T := TX6) (N := 14) hx hb hts i_X6 hown hK hP 12 rfl rfl 0 (by decide) k_169 (fun _ h9 => h9) rfl dX9_count_133 ?_
    exact W.iret (v := nI oz) hx hb hr (fun t ht hW => ⟨_, rfl, (show nI oz = tCount wh day (nI gz) (nI bz) (nI oz) (xsum shelf bz) (xsum sold bz) (xsum given bz) ((xsum wa bz + xsum wb bz) + xsum wc bz) (xsum wa bz) (xsum wb bz) (xsum wc bz) (xsum wanted oz - xsum got oz) (xcnt got 0 oz) (xsum due oz) (sets 0) (sets 1) (sets 2) (nI hs) (nI tl) from (by unfold tCount; rw [if_neg cs_1, if_neg cs_2, if_neg cs_3, if_pos cs_4])), ht⟩) (fun q h => by cases h) dX9_count_136
  by_cases cs_5 : wh = nI 4
  · skip
    refine lv_tableIn (tgt := 137) hx hb dX9_count_17 (by rw [cs_5]; decide) (by rw [cs_5]; decide) (by rw [cs_5]; rfl) (by decide) ?_
    refine lv_aload_n hx hb dX9_count_137 rfl (lv_at hl 1 rfl) ?_
    refine lv_aload_n hx hb dX9_count_138 rfl (lv_at hl 1 rfl) ?_
    refine va_get (D := (dC, dI)) (ci := 0) (v := .ref o10) (C := RX0) (T := TX0) (N := 9) hx hb hts i_X0 hown hK hP 4 rfl rfl 4 (by decide) k_192 (fun _ h9 => h9) rfl dX9_count_139 ?_
    refine xkRi (xV (As := [.ref o10]) (rest := []) (wc := [(o6, .inr (0, [.int (nI bz), o6_good, o6_came, o6_left, .ref o10, .ref o11, .ref o12, o6_cents, .ref o14])), (o10, .inl (cI, 40, .inl shelf))]) hx hb hml hown hts (c_X0_sum l dC dI cI cF cC cZ cQ cS o6 o6_good o6_came o6_left (.ref o10) (.ref o11) (.ref o12) o6_cents (.ref o14) o10 shelf bz (by omega)) 1 gX9_count_X0_sum rfl rfl rfl hdV_X0_sum ⟨Nat.le_of_ble_eq_true rfl, Nat.le_of_ble_eq_true rfl⟩ hN hK hP hD [4, 5] rfl rfl 0 4 rfl rfl rfl hl.1 rfl (Nat.le_of_ble_eq_true rfl) dX9_count_142 ⟨Nat.zero_le _, Nat.zero_le _⟩) (fun r_6 hr_6 => ?_)
    obtain rfl : r_6 = xsum shelf bz := hr_6
    exact W.iret (v := xsum shelf bz) hx hb hr (fun t ht hW => ⟨_, rfl, (show xsum shelf bz = tCount wh day (nI gz) (nI bz) (nI oz) (xsum shelf bz) (xsum sold bz) (xsum given bz) ((xsum wa bz + xsum wb bz) + xsum wc bz) (xsum wa bz) (xsum wb bz) (xsum wc bz) (xsum wanted oz - xsum got oz) (xcnt got 0 oz) (xsum due oz) (sets 0) (sets 1) (sets 2) (nI hs) (nI tl) from (by unfold tCount; rw [if_neg cs_1, if_neg cs_2, if_neg cs_3, if_neg cs_4, if_pos cs_5])), ht⟩) (fun q h => by cases h) dX9_count_145
  by_cases cs_7 : wh = nI 5
  · skip
    refine lv_tableIn (tgt := 146) hx hb dX9_count_17 (by rw [cs_7]; decide) (by rw [cs_7]; decide) (by rw [cs_7]; rfl) (by decide) ?_
    refine lv_aload_n hx hb dX9_count_146 rfl (lv_at hl 1 rfl) ?_
    refine lv_aload_n hx hb dX9_count_147 rfl (lv_at hl 1 rfl) ?_
    refine va_get (D := (dC, dI)) (ci := 0) (v := .ref o11) (C := RX0) (T := TX0) (N := 9) hx hb hts i_X0 hown hK hP 4 rfl rfl 5 (by decide) k_226 (fun _ h9 => h9) rfl dX9_count_148 ?_
    refine xkRi (xV (As := [.ref o11]) (rest := []) (wc := [(o6, .inr (0, [.int (nI bz), o6_good, o6_came, o6_left, .ref o10, .ref o11, .ref o12, o6_cents, .ref o14])), (o11, .inl (cI, 40, .inl sold))]) hx hb hml hown hts (c_X0_sum l dC dI cI cF cC cZ cQ cS o6 o6_good o6_came o6_left (.ref o10) (.ref o11) (.ref o12) o6_cents (.ref o14) o11 sold bz (by omega)) 1 gX9_count_X0_sum rfl rfl rfl hdV_X0_sum ⟨Nat.le_of_ble_eq_true rfl, Nat.le_of_ble_eq_true rfl⟩ hN hK hP hD [4, 6] rfl rfl 0 4 rfl rfl rfl hl.1 rfl (Nat.le_of_ble_eq_true rfl) dX9_count_151 ⟨Nat.zero_le _, Nat.zero_le _⟩) (fun r_8 hr_8 => ?_)
    obtain rfl : r_8 = xsum sold bz := hr_8
    exact W.iret (v := xsum sold bz) hx hb hr (fun t ht hW => ⟨_, rfl, (show xsum sold bz = tCount wh day (nI gz) (nI bz) (nI oz) (xsum shelf bz) (xsum sold bz) (xsum given bz) ((xsum wa bz + xsum wb bz) + xsum wc bz) (xsum wa bz) (xsum wb bz) (xsum wc bz) (xsum wanted oz - xsum got oz) (xcnt got 0 oz) (xsum due oz) (sets 0) (sets 1) (sets 2) (nI hs) (nI tl) from (by unfold tCount; rw [if_neg cs_1, if_neg cs_2, if_neg cs_3, if_neg cs_4, if_neg cs_5, if_pos cs_7])), ht⟩) (fun q h => by cases h) dX9_count_154
  by_cases cs_9 : wh = nI 6
  · skip
    refine lv_tableIn (tgt := 155) hx hb dX9_count_17 (by rw [cs_9]; decide) (by rw [cs_9]; decide) (by rw [cs_9]; rfl) (by decide) ?_
    refine lv_aload_n hx hb dX9_count_155 rfl (lv_at hl 1 rfl) ?_
    refine lv_aload_n hx hb dX9_count_156 rfl (lv_at hl 1 rfl) ?_
    refine va_get (D := (dC, dI)) (ci := 0) (v := .ref o12) (C := RX0) (T := TX0) (N := 9) hx hb hts i_X0 hown hK hP 4 rfl rfl 6 (by decide) k_244 (fun _ h9 => h9) rfl dX9_count_157 ?_
    refine xkRi (xV (As := [.ref o12]) (rest := []) (wc := [(o6, .inr (0, [.int (nI bz), o6_good, o6_came, o6_left, .ref o10, .ref o11, .ref o12, o6_cents, .ref o14])), (o12, .inl (cI, 40, .inl given))]) hx hb hml hown hts (c_X0_sum l dC dI cI cF cC cZ cQ cS o6 o6_good o6_came o6_left (.ref o10) (.ref o11) (.ref o12) o6_cents (.ref o14) o12 given bz (by omega)) 1 gX9_count_X0_sum rfl rfl rfl hdV_X0_sum ⟨Nat.le_of_ble_eq_true rfl, Nat.le_of_ble_eq_true rfl⟩ hN hK hP hD [4, 7] rfl rfl 0 4 rfl rfl rfl hl.1 rfl (Nat.le_of_ble_eq_true rfl) dX9_count_160 ⟨Nat.zero_le _, Nat.zero_le _⟩) (fun r_10 hr_10 => ?_)
    obtain rfl : r_10 = xsum given bz := hr_10
    exact W.iret (v := xsum given bz) hx hb hr (fun t ht hW => ⟨_, rfl, (show xsum given bz = tCount wh day (nI gz) (nI bz) (nI oz) (xsum shelf bz) (xsum sold bz) (xsum given bz) ((xsum wa bz + xsum wb bz) + xsum wc bz) (xsum wa bz) (xsum wb bz) (xsum wc bz) (xsum wanted oz - xsum got oz) (xcnt got 0 oz) (xsum due oz) (sets 0) (sets 1) (sets 2) (nI hs) (nI tl) from (by unfold tCount; rw [if_neg cs_1, if_neg cs_2, if_neg cs_3, if_neg cs_4, if_neg cs_5, if_neg cs_7, if_pos cs_9])), ht⟩) (fun q h => by cases h) dX9_count_163
  by_cases cs_11 : wh = nI 7
  · skip
    refine lv_tableIn (tgt := 164) hx hb dX9_count_17 (by rw [cs_11]; decide) (by rw [cs_11]; decide) (by rw [cs_11]; rfl) (by decide) ?_
    refine lv_aload_n hx hb dX9_count_164 rfl (lv_at hl 1 rfl) ?_
    refine xkRi (xV (As := []) (rest := []) (wc := [(o6, .inr (0, [.int (nI bz), o6_good, o6_came, o6_left, .ref o10, .ref o11, .ref o12, o6_cents, .ref o14])), (o14, .inl (cQ, 3, .inr (.inr (.inr (.inr (xrow [o15, o16, o17])))))), (o15, .inl (cI, 40, .inl wa)), (o16, .inl (cI, 40, .inl wb)), (o17, .inl (cI, 40, .inl wc))]) hx hb hml hown hts (c_X0_wastedOfAll l dC dI cI cF cC cZ cQ cS o6 o6_good o6_came o6_left (.ref o10) (.ref o11) (.ref o12) o6_cents o14 bz o15 wa o16 wb o17 wc (by omega)) 0 gX9_count_X0_wastedOfAll rfl rfl rfl hdV_X0_wastedOfAll ⟨Nat.le_of_ble_eq_true rfl, Nat.le_of_ble_eq_true rfl⟩ hN hK hP hD [4, 8, 9, 10, 11] rfl rfl 0 4 rfl rfl rfl hl.1 rfl (Nat.le_of_ble_eq_true rfl) dX9_count_165 ⟨Nat.zero_le _, Nat.zero_le _⟩) (fun r_12 hr_12 => ?_)
    obtain rfl : r_12 = (xsum wa bz + xsum wb bz) + xsum wc bz := hr_12
    exact W.iret (v := (xsum wa bz + xsum wb bz) + xsum wc bz) hx hb hr (fun t ht hW => ⟨_, rfl, (show (xsum wa bz + xsum wb bz) + xsum wc bz = tCount wh day (nI gz) (nI bz) (nI oz) (xsum shelf bz) (xsum sold bz) (xsum given bz) ((xsum wa bz + xsum wb bz) + xsum wc bz) (xsum wa bz) (xsum wb bz) (xsum wc bz) (xsum wanted oz - xsum got oz) (xcnt got 0 oz) (xsum due oz) (sets 0) (sets 1) (sets 2) (nI hs) (nI tl) from (by unfold tCount; rw [if_neg cs_1, if_neg cs_2, if_neg cs_3, if_neg cs_4, if_neg cs_5, if_neg cs_7, if_neg cs_9, if_pos cs_11])), ht⟩) (fun q h => by cases h) dX9_count_168
  by_cases cs_13 : wh = nI 8
  · skip
    refine lv_tableIn (tgt := 169) hx hb dX9_count_17 (by rw [cs_13]; decide) (by rw [cs_13]; decide) (by rw [cs_13]; rfl) (by decide) ?_
    refine lv_aload_n hx hb dX9_count_169 rfl (lv_at hl 1 rfl) ?_
    refine lv_aload_n hx hb dX9_count_170 rfl (lv_at hl 1 rfl) ?_
    refine va_get (D := (dC, dI)) (ci := 0) (v := .ref o14) (C := RX0) (T := TX0) (N := 9) hx hb hts i_X0 hown hK hP 4 rfl rfl 8 (by decide) k_250 (fun _ h9 => h9) rfl dX9_count_171 ?_
    refine lv_iconst (v := nI 0) hx hb dX9_count_174 (by decide) ?_
    refine xr_aald hx hb hK hP 8 4 rfl rfl rfl (i := 0) (v := o15) (by omega) (by decide) rfl dX9_count_175 ?_
    refine xkRi (xV (As := [.ref o15]) (rest := []) (wc := [(o6, .inr (0, [.int (nI bz), o6_good, o6_came, o6_left, .ref o10, .ref o11, .ref o12, o6_cents, .ref o14])), (o15, .inl (cI, 40, .inl wa))]) hx hb hml hown hts (c_X0_sum l dC dI cI cF cC cZ cQ cS o6 o6_good o6_came o6_left (.ref o10) (.ref o11) (.ref o12) o6_cents (.ref o14) o15 wa bz (by omega)) 1 gX9_count_X0_sum rfl rfl rfl hdV_X0_sum ⟨Nat.le_of_ble_eq_true rfl, Nat.le_of_ble_eq_true rfl⟩ hN hK hP hD [4, 9] rfl rfl 0 4 rfl rfl rfl hl.1 rfl (Nat.le_of_ble_eq_true rfl) dX9_count_176 ⟨Nat.zero_le _, Nat.zero_le _⟩) (fun r_14 hr_14 => ?_)
    obtain rfl : r_14 = xsum wa bz := hr_14
    exact W.iret (v := xsum wa bz) hx hb hr (fun t ht hW => ⟨_, rfl, (show xsum wa bz = tCount wh day (nI gz) (nI bz) (nI oz) (xsum shelf bz) (xsum sold bz) (xsum given bz) ((xsum wa bz + xsum wb bz) + xsum wc bz) (xsum wa bz) (xsum wb bz) (xsum wc bz) (xsum wanted oz - xsum got oz) (xcnt got 0 oz) (xsum due oz) (sets 0) (sets 1) (sets 2) (nI hs) (nI tl) from (by unfold tCount; rw [if_neg cs_1, if_neg cs_2, if_neg cs_3, if_neg cs_4, if_neg cs_5, if_neg cs_7, if_neg cs_9, if_neg cs_11, if_pos cs_13])), ht⟩) (fun q h => by cases h) dX9_count_179
  by_cases cs_15 : wh = nI 9
  · skip
    refine lv_tableIn (tgt := 180) hx hb dX9_count_17 (by rw [cs_15]; decide) (by rw [cs_15]; decide) (by rw [cs_15]; rfl) (by decide) ?_
    refine lv_aload_n hx hb dX9_count_180 rfl (lv_at hl 1 rfl) ?_
    refine lv_aload_n hx hb dX9_count_181 rfl (lv_at hl 1 rfl) ?_
    refine va_get (D := (dC, dI)) (ci := 0) (v := .ref o14) (C := RX0) (T := TX0) (N := 9) hx hb hts i_X0 hown hK hP 4 rfl rfl 8 (by decide) k_250 (fun _ h9 => h9) rfl dX9_count_182 ?_
    refine lv_iconst (v := nI 1) hx hb dX9_count_185 (by decide) ?_
    refine xr_aald hx hb hK hP 8 4 rfl rfl rfl (i := 1) (v := o16) (by omega) (by decide) rfl dX9_count_186 ?_
    refine xkRi (xV (As := [.ref o16]) (rest := []) (wc := [(o6, .inr (0, [.int (nI bz), o6_good, o6_came, o6_left, .ref o10, .ref o11, .ref o12, o6_cents, .ref o14])), (o16, .inl (cI, 40, .inl wb))]) hx hb hml hown hts (c_X0_sum l dC dI cI cF cC cZ cQ cS o6 o6_good o6_came o6_left (.ref o10) (.ref o11) (.ref o12) o6_cents (.ref o14) o16 wb bz (by omega)) 1 gX9_count_X0_sum rfl rfl rfl hdV_X0_sum ⟨Nat.le_of_ble_eq_true rfl, Nat.le_of_ble_eq_true rfl⟩ hN hK hP hD [4, 10] rfl rfl 0 4 rfl rfl rfl hl.1 rfl (Nat.le_of_ble_eq_true rfl) dX9_count_187 ⟨Nat.zero_le _, Nat.zero_le _⟩) (fun r_16 hr_16 => ?_)
    obtain rfl : r_16 = xsum wb bz := hr_16
    exact W.iret (v := xsum wb bz) hx hb hr (fun t ht hW => ⟨_, rfl, (show xsum wb bz = tCount wh day (nI gz) (nI bz) (nI oz) (xsum shelf bz) (xsum sold bz) (xsum given bz) ((xsum wa bz + xsum wb bz) + xsum wc bz) (xsum wa bz) (xsum wb bz) (xsum wc bz) (xsum wanted oz - xsum got oz) (xcnt got 0 oz) (xsum due oz) (sets 0) (sets 1) (sets 2) (nI hs) (nI tl) from (by unfold tCount; rw [if_neg cs_1, if_neg cs_2, if_neg cs_3, if_neg cs_4, if_neg cs_5, if_neg cs_7, if_neg cs_9, if_neg cs_11, if_neg cs_13, if_pos cs_15])), ht⟩) (fun q h => by cases h) dX9_count_190
  by_cases cs_17 : wh = nI 10
  · skip
    refine lv_tableIn (tgt := 191) hx hb dX9_count_17 (by rw [cs_17]; decide) (by rw [cs_17]; decide) (by rw [cs_17]; rfl) (by decide) ?_
    refine lv_aload_n hx hb dX9_count_191 rfl (lv_at hl 1 rfl) ?_
    refine lv_aload_n hx hb dX9_count_192 rfl (lv_at hl 1 rfl) ?_
    refine va_get (D := (dC, dI)) (ci := 0) (v := .ref o14) (C := RX0) (T := TX0) (N := 9) hx hb hts i_X0 hown hK hP 4 rfl rfl 8 (by decide) k_250 (fun _ h9 => h9) rfl dX9_count_193 ?_
    refine lv_iconst (v := nI 2) hx hb dX9_count_196 (by decide) ?_
    refine xr_aald hx hb hK hP 8 4 rfl rfl rfl (i := 2) (v := o17) (by omega) (by decide) rfl dX9_count_197 ?_
    refine xkRi (xV (As := [.ref o17]) (rest := []) (wc := [(o6, .inr (0, [.int (nI bz), o6_good, o6_came, o6_left, .ref o10, .ref o11, .ref o12, o6_cents, .ref o14])), (o17, .inl (cI, 40, .inl wc))]) hx hb hml hown hts (c_X0_sum l dC dI cI cF cC cZ cQ cS o6 o6_good o6_came o6_left (.ref o10) (.ref o11) (.ref o12) o6_cents (.ref o14) o17 wc bz (by omega)) 1 gX9_count_X0_sum rfl rfl rfl hdV_X0_sum ⟨Nat.le_of_ble_eq_true rfl, Nat.le_of_ble_eq_true rfl⟩ hN hK hP hD [4, 11] rfl rfl 0 4 rfl rfl rfl hl.1 rfl (Nat.le_of_ble_eq_true rfl) dX9_count_198 ⟨Nat.zero_le _, Nat.zero_le _⟩) (fun r_18 hr_18 => ?_)
    obtain rfl : r_18 = xsum wc bz := hr_18
    exact W.iret (v := xsum wc bz) hx hb hr (fun t ht hW => ⟨_, rfl, (show xsum wc bz = tCount wh day (nI gz) (nI bz) (nI oz) (xsum shelf bz) (xsum sold bz) (xsum given bz) ((xsum wa bz + xsum wb bz) + xsum wc bz) (xsum wa bz) (xsum wb bz) (xsum wc bz) (xsum wanted oz - xsum got oz) (xcnt got 0 oz) (xsum due oz) (sets 0) (sets 1) (sets 2) (nI hs) (nI tl) from (by unfold tCount; rw [if_neg cs_1, if_neg cs_2, if_neg cs_3, if_neg cs_4, if_neg cs_5, if_neg cs_7, if_neg cs_9, if_neg cs_11, if_neg cs_13, if_neg cs_15, if_pos cs_17])), ht⟩) (fun q h => by cases h) dX9_count_201
  by_cases cs_19 : wh = nI 11
  · skip
    refine lv_tableIn (tgt := 202) hx hb dX9_count_17 (by rw [cs_19]; decide) (by rw [cs_19]; decide) (by rw [cs_19]; rfl) (by decide) ?_
    refine lv_aload_n hx hb dX9_count_202 rfl (lv_at hl 0 rfl) ?_
    refine lv_aload_n hx hb dX9_count_203 rfl (lv_at hl 0 rfl) ?_
    refine va_get (D := (dC, dI)) (ci := 6) (v := .ref o20) (C := RX6) (T := TX6) (N := 14) hx hb hts i_X6 hown hK hP 12 rfl rfl 3 (by decide) k_280 (fun _ h9 => h9) rfl dX9_count_204 ?_
    refine xkRi (xV (As := [.ref o20]) (rest := []) (wc := [(o18, .inr (6, [.int (nI oz), o18_takes, o18_good, .ref o20, .ref o21, o18_replaced, o18_least, o18_accepts, o18_parts, .ref o26, o18_day, o18_firstTake, o18_takeBatch, o18_takeUnits])), (o20, .inl (cI, 30, .inl wanted))]) hx hb hml hown hts (c_X6_sum l dC dI cI cF cC cZ cQ cS o18 o18_takes o18_good (.ref o20) (.ref o21) o18_replaced o18_least o18_accepts o18_parts (.ref o26) o18_day o18_firstTake o18_takeBatch o18_takeUnits oz o20 wanted (by omega)) 1 gX9_count_X6_sum rfl rfl rfl hdV_X6_sum ⟨Nat.le_of_ble_eq_true rfl, Nat.le_of_ble_eq_true rfl⟩ hN hK hP hD [12, 13] rfl rfl 6 12 rfl rfl rfl hl.1 rfl (Nat.le_of_ble_eq_true rfl) dX9_count_207 ⟨Nat.zero_le _, Nat.zero_le _⟩) (fun r_20 hr_20 => ?_)
    obtain rfl : r_20 = xsum wanted oz := hr_20
    refine lv_aload_n hx hb dX9_count_210 rfl (lv_at hl 0 rfl) ?_
    refine lv_aload_n hx hb dX9_count_211 rfl (lv_at hl 0 rfl) ?_
    refine va_get (D := (dC, dI)) (ci := 6) (v := .ref o21) (C := RX6) (T := TX6) (N := 14) hx hb hts i_X6 hown hK hP 12 rfl rfl 4 (by decide) k_283 (fun _ h9 => h9) rfl dX9_count_212 ?_
    refine xkRi (xV (As := [.ref o21]) (rest := [.int (xsum wanted oz)]) (wc := [(o18, .inr (6, [.int (nI oz), o18_takes, o18_good, .ref o20, .ref o21, o18_replaced, o18_least, o18_accepts, o18_parts, .ref o26, o18_day, o18_firstTake, o18_takeBatch, o18_takeUnits])), (o21, .inl (cI, 30, .inl got))]) hx hb hml hown hts (c_X6_sum l dC dI cI cF cC cZ cQ cS o18 o18_takes o18_good (.ref o20) (.ref o21) o18_replaced o18_least o18_accepts o18_parts (.ref o26) o18_day o18_firstTake o18_takeBatch o18_takeUnits oz o21 got (by omega)) 1 gX9_count_X6_sum rfl rfl rfl hdV_X6_sum ⟨Nat.le_of_ble_eq_true rfl, Nat.le_of_ble_eq_true rfl⟩ hN hK hP hD [12, 14] rfl rfl 6 12 rfl rfl rfl hl.1 rfl (Nat.le_of_ble_eq_true rfl) dX9_count_215 ⟨Nat.zero_le _, Nat.zero_le _⟩) (fun r_21 hr_21 => ?_)
    obtain rfl : r_21 = xsum got oz := hr_21
    refine lv_isub hx hb dX9_count_218 ?_
    exact W.iret (v := (xsum wanted oz) - (xsum got oz)) hx hb hr (fun t ht hW => ⟨_, rfl, (show (xsum wanted oz) - (xsum got oz) = tCount wh day (nI gz) (nI bz) (nI oz) (xsum shelf bz) (xsum sold bz) (xsum given bz) ((xsum wa bz + xsum wb bz) + xsum wc bz) (xsum wa bz) (xsum wb bz) (xsum wc bz) (xsum wanted oz - xsum got oz) (xcnt got 0 oz) (xsum due oz) (sets 0) (sets 1) (sets 2) (nI hs) (nI tl) from (by unfold tCount; rw [if_neg cs_1, if_neg cs_2, if_neg cs_3, if_neg cs_4, if_neg cs_5, if_neg cs_7, if_neg cs_9, if_neg cs_11, if_neg cs_13, if_neg cs_15, if_neg cs_17, if_pos cs_19])), ht⟩) (fun q h => by cases h) dX9_count_219
  by_cases cs_22 : wh = nI 12
  · skip
    refine lv_tableIn (tgt := 220) hx hb dX9_count_17 (by rw [cs_22]; decide) (by rw [cs_22]; decide) (by rw [cs_22]; rfl) (by decide) ?_
    refine lv_aload_n hx hb dX9_count_220 rfl (lv_at hl 0 rfl) ?_
    refine xkRi (xV (As := []) (rest := []) (wc := [(o18, .inr (6, [.int (nI oz), o18_takes, o18_good, .ref o20, .ref o21, o18_replaced, o18_least, o18_accepts, o18_parts, .ref o26, o18_day, o18_firstTake, o18_takeBatch, o18_takeUnits])), (o21, .inl (cI, 30, .inl got))]) hx hb hml hown hts (c_X6_refused l dC dI cI cF cC cZ cQ cS o18 o18_takes o18_good (.ref o20) o21 o18_replaced o18_least o18_accepts o18_parts (.ref o26) o18_day o18_firstTake o18_takeBatch o18_takeUnits got oz (by omega)) 0 gX9_count_X6_refused rfl rfl rfl hdV_X6_refused ⟨Nat.le_of_ble_eq_true rfl, Nat.le_of_ble_eq_true rfl⟩ hN hK hP hD [12, 14] rfl rfl 6 12 rfl rfl rfl hl.1 rfl (Nat.le_of_ble_eq_true rfl) dX9_count_221 ⟨Nat.zero_le _, Nat.zero_le _⟩) (fun r_23 hr_23 => ?_)
    obtain rfl : r_23 = xcnt got 0 oz := hr_23
    exact W.iret (v := xcnt got 0 oz) hx hb hr (fun t ht hW => ⟨_, rfl, (show xcnt got 0 oz = tCount wh day (nI gz) (nI bz) (nI oz) (xsum shelf bz) (xsum sold bz) (xsum given bz) ((xsum wa bz + xsum wb bz) + xsum wc bz) (xsum wa bz) (xsum wb bz) (xsum wc bz) (xsum wanted oz - xsum got oz) (xcnt got 0 oz) (xsum due oz) (sets 0) (sets 1) (sets 2) (nI hs) (nI tl) from (by unfold tCount; rw [if_neg cs_1, if_neg cs_2, if_neg cs_3, if_neg cs_4, if_neg cs_5, if_neg cs_7, if_neg cs_9, if_neg cs_11, if_neg cs_13, if_neg cs_15, if_neg cs_17, if_neg cs_19, if_pos cs_22])), ht⟩) (fun q h => by cases h) dX9_count_224
  by_cases cs_24 : wh = nI 13
  · skip
    refine lv_tableIn (tgt := 225) hx hb dX9_count_17 (by rw [cs_24]; decide) (by rw [cs_24]; decide) (by rw [cs_24]; rfl) (by decide) ?_
    refine lv_aload_n hx hb dX9_count_225 rfl (lv_at hl 0 rfl) ?_
    refine lv_aload_n hx hb dX9_count_226 rfl (lv_at hl 0 rfl) ?_
    refine va_get (D := (dC, dI)) (ci := 6) (v := .ref o26) (C := RX6) (T := TX6) (N := 14) hx hb hts i_X6 hown hK hP 12 rfl rfl 9 (by decide) k_297 (fun _ h9 => h9) rfl dX9_count_227 ?_
    refine xkRi (xV (As := [.ref o26]) (rest := []) (wc := [(o18, .inr (6, [.int (nI oz), o18_takes, o18_good, .ref o20, .ref o21, o18_replaced, o18_least, o18_accepts, o18_parts, .ref o26, o18_day, o18_firstTake, o18_takeBatch, o18_takeUnits])), (o26, .inl (cI, 30, .inl due))]) hx hb hml hown hts (c_X6_sum l dC dI cI cF cC cZ cQ cS o18 o18_takes o18_good (.ref o20) (.ref o21) o18_replaced o18_least o18_accepts o18_parts (.ref o26) o18_day o18_firstTake o18_takeBatch o18_takeUnits oz o26 due (by omega)) 1 gX9_count_X6_sum rfl rfl rfl hdV_X6_sum ⟨Nat.le_of_ble_eq_true rfl, Nat.le_of_ble_eq_true rfl⟩ hN hK hP hD [12, 15] rfl rfl 6 12 rfl rfl rfl hl.1 rfl (Nat.le_of_ble_eq_true rfl) dX9_count_230 ⟨Nat.zero_le _, Nat.zero_le _⟩) (fun r_25 hr_25 => ?_)
    obtain rfl : r_25 = xsum due oz := hr_25
    exact W.iret (v := xsum due oz) hx hb hr (fun t ht hW => ⟨_, rfl, (show xsum due oz = tCount wh day (nI gz) (nI bz) (nI oz) (xsum shelf bz) (xsum sold bz) (xsum given bz) ((xsum wa bz + xsum wb bz) + xsum wc bz) (xsum wa bz) (xsum wb bz) (xsum wc bz) (xsum wanted oz - xsum got oz) (xcnt got 0 oz) (xsum due oz) (sets 0) (sets 1) (sets 2) (nI hs) (nI tl) from (by unfold tCount; rw [if_neg cs_1, if_neg cs_2, if_neg cs_3, if_neg cs_4, if_neg cs_5, if_neg cs_7, if_neg cs_9, if_neg cs_11, if_neg cs_13, if_neg cs_15, if_neg cs_17, if_neg cs_19, if_neg cs_22, if_pos cs_24])), ht⟩) (fun q h => by cases h) dX9_count_233
  by_cases cs_26 : wh = nI 14
  · skip
    refine lv_tableIn (tgt := 234) hx hb dX9_count_17 (by rw [cs_26]; decide) (by rw [cs_26]; decide) (by rw [cs_26]; rfl) (by decide) ?_
    refine lv_aload_n hx hb dX9_count_234 rfl (lv_at hl 2 rfl) ?_
    refine va_get (D := (dC, dI)) (ci := 9) (v := .ref o0) (C := RX9) (T := TX9) (N := 9) hx hb hts i_X9 hown hK hP 0 rfl rfl 0 (by decide) k_12 (fun _ h9 => h9) rfl dX9_count_235 ?_
    refine va_get (D := (dC, dI)) (ci := 8) (v := .ref o39) (C := RX8) (T := TX8) (N := 8) hx hb hts i_X8 hown hK hP 2 rfl rfl 5 (by decide) k_118 (fun _ h9 => h9) rfl dX9_count_238 ?_
    refine lv_iconst (v := nI 0) hx hb dX9_count_241 (by decide) ?_
    refine xr_iald hx hb hK hP 16 0 rfl rfl (i := 0) (by omega) (by decide) dX9_count_242 ?_
    exact W.iret (v := sets 0) hx hb hr (fun t ht hW => ⟨_, rfl, (show sets 0 = tCount wh day (nI gz) (nI bz) (nI oz) (xsum shelf bz) (xsum sold bz) (xsum given bz) ((xsum wa bz + xsum wb bz) + xsum wc bz) (xsum wa bz) (xsum wb bz) (xsum wc bz) (xsum wanted oz - xsum got oz) (xcnt got 0 oz) (xsum due oz) (sets 0) (sets 1) (sets 2) (nI hs) (nI tl) from (by unfold tCount; rw [if_neg cs_1, if_neg cs_2, if_neg cs_3, if_neg cs_4, if_neg cs_5, if_neg cs_7, if_neg cs_9, if_neg cs_11, if_neg cs_13, if_neg cs_15, if_neg cs_17, if_neg cs_19, if_neg cs_22, if_neg cs_24, if_pos cs_26])), ht⟩) (fun q h => by cases h) dX9_count_243
  by_cases cs_27 : wh = nI 15
  · skip
    refine lv_tableIn (tgt := 244) hx hb dX9_count_17 (by rw [cs_27]; decide) (by rw [cs_27]; decide) (by rw [cs_27]; rfl) (by decide) ?_
    refine lv_aload_n hx hb dX9_count_244 rfl (lv_at hl 2 rfl) ?_
    refine va_get (D := (dC, dI)) (ci := 9) (v := .ref o0) (C := RX9) (T := TX9) (N := 9) hx hb hts i_X9 hown hK hP 0 rfl rfl 0 (by decide) k_12 (fun _ h9 => h9) rfl dX9_count_245 ?_
    refine va_get (D := (dC, dI)) (ci := 8) (v := .ref o39) (C := RX8) (T := TX8) (N := 8) hx hb hts i_X8 hown hK hP 2 rfl rfl 5 (by decide) k_118 (fun _ h9 => h9) rfl dX9_count_248 ?_
    refine lv_iconst (v := nI 1) hx hb dX9_count_251 (by decide) ?_
    refine xr_iald hx hb hK hP 16 0 rfl rfl (i := 1) (by omega) (by decide) dX9_count_252 ?_
    exact W.iret (v := sets 1) hx hb hr (fun t ht hW => ⟨_, rfl, (show sets 1 = tCount wh day (nI gz) (nI bz) (nI oz) (xsum shelf bz) (xsum sold bz) (xsum given bz) ((xsum wa bz + xsum wb bz) + xsum wc bz) (xsum wa bz) (xsum wb bz) (xsum wc bz) (xsum wanted oz - xsum got oz) (xcnt got 0 oz) (xsum due oz) (sets 0) (sets 1) (sets 2) (nI hs) (nI tl) from (by unfold tCount; rw [if_neg cs_1, if_neg cs_2, if_neg cs_3, if_neg cs_4, if_neg cs_5, if_neg cs_7, if_neg cs_9, if_neg cs_11, if_neg cs_13, if_neg cs_15, if_neg cs_17, if_neg cs_19, if_neg cs_22, if_neg cs_24, if_neg cs_26, if_pos cs_27])), ht⟩) (fun q h => by cases h) dX9_count_253
  by_cases cs_28 : wh = nI 16
  · skip
    refine lv_tableIn (tgt := 254) hx hb dX9_count_17 (by rw [cs_28]; decide) (by rw [cs_28]; decide) (by rw [cs_28]; rfl) (by decide) ?_
    refine lv_aload_n hx hb dX9_count_254 rfl (lv_at hl 2 rfl) ?_
    refine va_get (D := (dC, dI)) (ci := 9) (v := .ref o0) (C := RX9) (T := TX9) (N := 9) hx hb hts i_X9 hown hK hP 0 rfl rfl 0 (by decide) k_12 (fun _ h9 => h9) rfl dX9_count_255 ?_
    refine va_get (D := (dC, dI)) (ci := 8) (v := .ref o39) (C := RX8) (T := TX8) (N := 8) hx hb hts i_X8 hown hK hP 2 rfl rfl 5 (by decide) k_118 (fun _ h9 => h9) rfl dX9_count_258 ?_
    refine lv_iconst (v := nI 2) hx hb dX9_count_261 (by decide) ?_
    refine xr_iald hx hb hK hP 16 0 rfl rfl (i := 2) (by omega) (by decide) dX9_count_262 ?_
    exact W.iret (v := sets 2) hx hb hr (fun t ht hW => ⟨_, rfl, (show sets 2 = tCount wh day (nI gz) (nI bz) (nI oz) (xsum shelf bz) (xsum sold bz) (xsum given bz) ((xsum wa bz + xsum wb bz) + xsum wc bz) (xsum wa bz) (xsum wb bz) (xsum wc bz) (xsum wanted oz - xsum got oz) (xcnt got 0 oz) (xsum due oz) (sets 0) (sets 1) (sets 2) (nI hs) (nI tl) from (by unfold tCount; rw [if_neg cs_1, if_neg cs_2, if_neg cs_3, if_neg cs_4, if_neg cs_5, if_neg cs_7, if_neg cs_9, if_neg cs_11, if_neg cs_13, if_neg cs_15, if_neg cs_17, if_neg cs_19, if_neg cs_22, if_neg cs_24, if_neg cs_26, if_neg cs_27, if_pos cs_28])), ht⟩) (fun q h => by cases h) dX9_count_263
  by_cases cs_29 : wh = nI 17
  · skip
    refine lv_tableIn (tgt := 264) hx hb dX9_count_17 (by rw [cs_29]; decide) (by rw [cs_29]; decide) (by rw [cs_29]; rfl) (by decide) ?_
    refine lv_aload_n hx hb dX9_count_264 rfl (lv_at hl 2 rfl) ?_
    refine va_get (D := (dC, dI)) (ci := 9) (v := .ref y0) (C := RX9) (T := TX9) (N := 9) hx hb hts i_X9 hown hK hP 0 rfl rfl 3 (by decide) k_25 (fun _ h9 => h9) rfl dX9_count_265 ?_
    refine va_get (D := (dC, dI)) (ci := 4) (v := .int (nI hs)) (C := RX4) (T := TX4) (N := 3) hx hb hts i_X4 hown hK hP 1 rfl rfl 2 (by decide) k_209 (fun _ h9 => h9) rfl dX9_count_268 ?_
    exact W.iret (v := nI hs) hx hb hr (fun t ht hW => ⟨_, rfl, (show nI hs = tCount wh day (nI gz) (nI bz) (nI oz) (xsum shelf bz) (xsum sold bz) (xsum given bz) ((xsum wa bz + xsum wb bz) + xsum wc bz) (xsum wa bz) (xsum wb bz) (xsum wc bz) (xsum wanted oz - xsum got oz) (xcnt got 0 oz) (xsum due oz) (sets 0) (sets 1) (sets 2) (nI hs) (nI tl) from (by unfold tCount; rw [if_neg cs_1, if_neg cs_2, if_neg cs_3, if_neg cs_4, if_neg cs_5, if_neg cs_7, if_neg cs_9, if_neg cs_11, if_neg cs_13, if_neg cs_15, if_neg cs_17, if_neg cs_19, if_neg cs_22, if_neg cs_24, if_neg cs_26, if_neg cs_27, if_neg cs_28, if_pos cs_29])), ht⟩) (fun q h => by cases h) dX9_count_271
  by_cases cs_30 : wh = nI 18
  · skip
    refine lv_tableIn (tgt := 272) hx hb dX9_count_17 (by rw [cs_30]; decide) (by rw [cs_30]; decide) (by rw [cs_30]; rfl) (by decide) ?_
    refine lv_aload_n hx hb dX9_count_272 rfl (lv_at hl 2 rfl) ?_
    refine va_get (D := (dC, dI)) (ci := 9) (v := .int (nI tl)) (C := RX9) (T := TX9) (N := 9) hx hb hts i_X9 hown hK hP 0 rfl rfl 7 (by decide) k_140 (fun _ h9 => h9) rfl dX9_count_273 ?_
    exact W.iret (v := nI tl) hx hb hr (fun t ht hW => ⟨_, rfl, (show nI tl = tCount wh day (nI gz) (nI bz) (nI oz) (xsum shelf bz) (xsum sold bz) (xsum given bz) ((xsum wa bz + xsum wb bz) + xsum wc bz) (xsum wa bz) (xsum wb bz) (xsum wc bz) (xsum wanted oz - xsum got oz) (xcnt got 0 oz) (xsum due oz) (sets 0) (sets 1) (sets 2) (nI hs) (nI tl) from (by unfold tCount; rw [if_neg cs_1, if_neg cs_2, if_neg cs_3, if_neg cs_4, if_neg cs_5, if_neg cs_7, if_neg cs_9, if_neg cs_11, if_neg cs_13, if_neg cs_15, if_neg cs_17, if_neg cs_19, if_neg cs_22, if_neg cs_24, if_neg cs_26, if_neg cs_27, if_neg cs_28, if_neg cs_29, if_pos cs_30])), ht⟩) (fun q h => by cases h) dX9_count_276
  refine lv_tableOut (tgt := 277) hx hb dX9_count_17 (xsw_out 19 (by decide) (fun j hj => by
      rcases (show j = 0 ∨ j = 1 ∨ j = 2 ∨ j = 3 ∨ j = 4 ∨ j = 5 ∨ j = 6 ∨ j = 7 ∨ j = 8 ∨ j = 9 ∨ j = 10 ∨ j = 11 ∨ j = 12 ∨ j = 13 ∨ j = 14 ∨ j = 15 ∨ j = 16 ∨ j = 17 ∨ j = 18 by omega) with rfl | rfl | rfl | rfl | rfl | rfl | rfl | rfl | rfl | rfl | rfl | rfl | rfl | rfl | rfl | rfl | rfl | rfl | rfl
      · exact cs_1
      · exact cs_2
      · exact cs_3
      · exact cs_4
      · exact cs_5
      · exact cs_7
      · exact cs_9
      · exact cs_11
      · exact cs_13
      · exact cs_15
      · exact cs_17
      · exact cs_19
      · exact cs_22
      · exact cs_24
      · exact cs_26
      · exact cs_27
      · exact cs_28
      · exact cs_29
      · exact cs_30)) (by decide) ?_
  refine lv_bipush (v := (-2)) hx hb dX9_count_277 (by decide) ?_
  exact W.iret (v := (-2)) hx hb hr (fun t ht hW => ⟨_, rfl, (show (-2) = tCount wh day (nI gz) (nI bz) (nI oz) (xsum shelf bz) (xsum sold bz) (xsum given bz) ((xsum wa bz + xsum wb bz) + xsum wc bz) (xsum wa bz) (xsum wb bz) (xsum wc bz) (xsum wanted oz - xsum got oz) (xcnt got 0 oz) (xsum due oz) (sets 0) (sets 1) (sets 2) (nI hs) (nI tl) from (by unfold tCount; rw [if_neg cs_1, if_neg cs_2, if_neg cs_3, if_neg cs_4, if_neg cs_5, if_neg cs_7, if_neg cs_9, if_neg cs_11, if_neg cs_13, if_neg cs_15, if_neg cs_17, if_neg cs_19, if_neg cs_22, if_neg cs_24, if_neg cs_26, if_neg cs_27, if_neg cs_28, if_neg cs_29, if_neg cs_30])), ht⟩) (fun q h => by cases h) dX9_count_279
theorem hdV_X9_event : yX9_event.cls = RX9 ∧ yX9_event.cls ≠ "java/lang/invoke/MethodHandle" ∧ yX9_event.cls ≠ "java/lang/invoke/VarHandle" ∧ (parseMethodDescriptor yX9_event.desc).map (fun d => d.parameters.length) = some 2 := by decide +kernel
set_option maxHeartbeats 4000000 in
set_option maxRecDepth 100000 in
theorem c_X9_evente (l : Launch) (dC : Nat → ClassId) (dI : Nat → Nat → Nat) (cI cF cC cZ cQ cS : ClassId) (x0 : Nat) (o0 : Nat) (x0_snapshot : Value) (x0_trial : Value) (x0_history : Value) (x0_filling : Value) (x0_delivery : Value) (x0_text : Value) (x0_textLength : Value) (x0_hasSnapshot : Value) (o0_goods : Value) (o0_batches : Value) (o0_orders : Value) (o0_stages : Value) (o34 : Nat) (o0_settings : Value) (o0_rebate : Value) (o0_day : Value) (lz : Nat) (o34_next : Value) (o34_kind : Value) (o34_batch : Value) (o34_units : Value) (o34_day : Value) (bk : Int32) (wh : Int32) (he : ¬ eEvent bk wh lz = nI 0) : Met l yX9_event wsX9_event ({ frames := 1, cells := 0, slots := 0, locals := 22 }) (xPre (dC, dI) vwCl [.ref x0, .int bk, .int wh] (xtys cI cF cC cZ cQ cS) [(x0, .inr (9, [.ref o0, x0_snapshot, x0_trial, x0_history, x0_filling, x0_delivery, x0_text, x0_textLength, x0_hasSnapshot])), (o0, .inr (8, [o0_goods, o0_batches, o0_orders, o0_stages, .ref o34, o0_settings, o0_rebate, o0_day])), (o34, .inr (5, [.int (nI lz), o34_next, o34_kind, o34_batch, o34_units, o34_day]))]) (vp_Si (fun r0 => r0 = eEvent bk wh lz)) 0 0 (fun _ => False) := by
  refine Met.ofW (cc := cX9_event) (maxL := 5) (ret := (some .int)) (by decide) rfl ?_
  intro p e s m args below meth c s₁ B hml hv
  obtain ⟨rfl, hP, hK, hD0, hN⟩ := hv
  have hx := B.exec
  have hb := B.bytes
  have hr := B.returns
  have hts := atoms_spec (ws := wsX9_event) B.pre
  have hown : s.vm.findClass RX9 = some m.cls := findClass_of_methodNamed B.named
  have hlocks := B.notSynchronized
  have k_12 := hts (Cond.fieldLink RX9 12 "ShelfStages" "now" "LShelfStages$State;") (by decide +kernel)
  have k_320 := hts (Cond.fieldLink RX9 320 "ShelfStages$State" "log" "LShelfStages$Log;") (by decide +kernel)
  have k_324 := hts (Cond.fieldLink RX9 324 "ShelfStages$Log" "size" "I") (by decide +kernel)
  have i_X5 : ∀ w ∈ wsX50, w ∈ wsX9_event := by decide +kernel
  have i_X8 : ∀ w ∈ wsX80, w ∈ wsX9_event := by decide +kernel
  have i_X9 : ∀ w ∈ wsX90, w ∈ wsX9_event := by decide +kernel
  have hD := hD0
  have hl := lv_entry ([.ref x0, .int bk, .int wh]) (n := 5) (Nat.le_of_ble_eq_true rfl)
  rw [lg_entry_eq]
  generalize (lg_sl ([.ref x0, .int bk, .int wh]) ++ List.replicate (5 - (lg_sl ([.ref x0, .int bk, .int wh])).length) Slot.unset).toArray = ls at hl ⊢
  have hl : lv_has ls 5 [(0, .ref x0), (1, .int bk), (2, .int wh)] := hl
  refine lv_iload_n hx hb dX9_event_0 rfl (lv_at hl 1 rfl) ?_
  refine lv_if_lt (tgt := 13) hx hb dX9_event_1 (by decide) (fun c_1 => ?_) (fun c_1 => ?_)
  · skip
    refine lv_bipush (v := (-2)) hx hb dX9_event_13 (by decide) ?_
    exact W.iret (v := (-2)) hx hb hr (fun t ht hW => ⟨_, rfl, (show (-2) = eEvent bk wh lz from (by unfold eEvent; rw [if_pos (Or.inl c_1)])), ht⟩) (fun q h => by cases h) dX9_event_15
  refine lv_iload_n hx hb dX9_event_4 rfl (lv_at hl 2 rfl) ?_
  refine lv_iconst (v := nI 0) hx hb dX9_event_5 (by decide) ?_
  refine lv_iconst (v := nI 3) hx hb dX9_event_6 (by decide) ?_
  refine xkRi (xSs (Ws' := ([] : List Cond)) (As := [.int wh, .int (nI 0), .int (nI 3)]) (rest := []) (wc := []) hx hb hml hown hts (c_X9_within l dC dI cI cF cC cZ cQ cS wh (nI 0) (nI 3)) 3 (fun hR => va_cwS 3 hts gX9_event_X9_within rfl rfl rfl hdN_X9_within hR) ⟨Nat.le_of_ble_eq_true rfl, Nat.le_of_ble_eq_true rfl⟩ hN hK hP hD [] rfl rfl rfl hl.1 rfl (Nat.le_of_ble_eq_true rfl) dX9_event_7 ⟨Nat.zero_le _, Nat.zero_le _⟩) (fun r_2 hr_2 => ?_)
  have hr_2 : r_2 = (if (nI 0) ≤ wh ∧ wh ≤ (nI 3) then nI 1 else nI 0) := hr_2
  rcases xi_ite inferInstance hr_2 with ⟨c_3, hr_2⟩ | ⟨c_3, hr_2⟩
  · subst hr_2
    refine xr_ifn1 (tgt := 16) hx hb (by decide) dX9_event_10 (by decide) ?_
    refine lv_aload_n hx hb dX9_event_16 rfl (lv_at hl 0 rfl) ?_
    refine va_get (D := (dC, dI)) (ci := 9) (v := .ref o0) (C := RX9) (T := TX9) (N := 9) hx hb hts i_X9 hown hK hP 0 rfl rfl 0 (by decide) k_12 (fun _ h9 => h9) rfl dX9_event_17 ?_
    refine va_get (D := (dC, dI)) (ci := 8) (v := .ref o34) (C := RX8) (T := TX8) (N := 8) hx hb hts i_X8 hown hK hP 1 rfl rfl 4 (by decide) k_320 (fun _ h9 => h9) rfl dX9_event_20 ?_
    refine lv_astore_n (lv' := [(3, .ref o34), (0, .ref x0), (1, .int bk), (2, .int wh)]) hx hb dX9_event_23 rfl hl (by decide) rfl (fun ls hl => ?_)
    refine lv_iload_n hx hb dX9_event_24 rfl (lv_at hl 2 rfl) ?_
    refine lv_aload_n hx hb dX9_event_25 rfl (lv_at hl 0 rfl) ?_
    refine va_get (D := (dC, dI)) (ci := 5) (v := .int (nI lz)) (C := RX5) (T := TX5) (N := 6) hx hb hts i_X5 hown hK hP 2 rfl rfl 0 (by decide) k_324 (fun _ h9 => h9) rfl dX9_event_26 ?_
    refine lv_icmp_lt (tgt := 35) hx hb dX9_event_29 (by decide) (fun c_4 => False.elim (by exact he (by unfold eEvent; rw [if_neg (fun z9 => z9.elim c_1 (fun z9 => z9 c_3)), if_neg (fun z9 => z9 c_4)]))) (fun c_4 => ?_)
    refine lv_bipush (v := (-5)) hx hb dX9_event_32 (by decide) ?_
    exact W.iret (v := (-5)) hx hb hr (fun t ht hW => ⟨_, rfl, (show (-5) = eEvent bk wh lz from (by unfold eEvent; rw [if_neg (fun z9 => z9.elim c_1 (fun z9 => z9 c_3)), if_pos c_4])), ht⟩) (fun q h => by cases h) dX9_event_34
  subst hr_2
  refine xr_ifn0 (tgt := 16) hx hb (by decide) dX9_event_10 (by decide) ?_
  refine lv_bipush (v := (-2)) hx hb dX9_event_13 (by decide) ?_
  exact W.iret (v := (-2)) hx hb hr (fun t ht hW => ⟨_, rfl, (show (-2) = eEvent bk wh lz from (by unfold eEvent; rw [if_pos (Or.inr c_3)])), ht⟩) (fun q h => by cases h) dX9_event_15
set_option maxHeartbeats 4000000 in
set_option maxRecDepth 100000 in
theorem c_X9_events (l : Launch) (dC : Nat → ClassId) (dI : Nat → Nat → Nat) (cI cF cC cZ cQ cS : ClassId) (x0 : Nat) (o0 : Nat) (x0_snapshot : Value) (x0_trial : Value) (x0_history : Value) (x0_filling : Value) (x0_delivery : Value) (x0_text : Value) (x0_textLength : Value) (x0_hasSnapshot : Value) (o0_goods : Value) (o0_batches : Value) (o0_orders : Value) (o0_stages : Value) (o34 : Nat) (o0_settings : Value) (o0_rebate : Value) (o0_day : Value) (lz : Nat) (nx : Nat) (o35 : Nat) (o36 : Nat) (o37 : Nat) (o38 : Nat) (kd : Nat → Int32) (lb : Nat → Int32) (lu : Nat → Int32) (ld : Nat → Int32) (bk : Nat) (wh : Int32) (hnx : nx < 10) (hlz : lz ≤ 10) (hbk : bk < lz) (hw : nI 0 ≤ wh ∧ wh ≤ nI 3) : Met l yX9_event wsX9_event ({ frames := 2, cells := 0, slots := 0, locals := 43 }) (xPre (dC, dI) vwCl [.ref x0, .int (nI bk), .int wh] (xtys cI cF cC cZ cQ cS) [(x0, .inr (9, [.ref o0, x0_snapshot, x0_trial, x0_history, x0_filling, x0_delivery, x0_text, x0_textLength, x0_hasSnapshot])), (o0, .inr (8, [o0_goods, o0_batches, o0_orders, o0_stages, .ref o34, o0_settings, o0_rebate, o0_day])), (o34, .inr (5, [.int (nI lz), .int (nI nx), .ref o35, .ref o36, .ref o37, .ref o38])), (o35, .inl (cI, 10, .inl kd)), (o36, .inl (cI, 10, .inl lb)), (o37, .inl (cI, 10, .inl lu)), (o38, .inl (cI, 10, .inl ld))]) (vp_Si (fun r0 => r0 = tEvent wh (kd ((nx + 9 - bk) % 10)) (lb ((nx + 9 - bk) % 10)) (lu ((nx + 9 - bk) % 10)) (ld ((nx + 9 - bk) % 10)))) 0 0 (fun _ => False) := by
  refine Met.ofW (cc := cX9_event) (maxL := 5) (ret := (some .int)) (by decide) rfl ?_
  intro p e s m args below meth c s₁ B hml hv
  obtain ⟨rfl, hP, hK, hD0, hN⟩ := hv
  have hx := B.exec
  have hb := B.bytes
  have hr := B.returns
  have hts := atoms_spec (ws := wsX9_event) B.pre
  have hown : s.vm.findClass RX9 = some m.cls := findClass_of_methodNamed B.named
  have hlocks := B.notSynchronized
  have k_12 := hts (Cond.fieldLink RX9 12 "ShelfStages" "now" "LShelfStages$State;") (by decide +kernel)
  have k_320 := hts (Cond.fieldLink RX9 320 "ShelfStages$State" "log" "LShelfStages$Log;") (by decide +kernel)
  have k_324 := hts (Cond.fieldLink RX9 324 "ShelfStages$Log" "size" "I") (by decide +kernel)
  have k_330 := hts (Cond.fieldLink RX9 330 "ShelfStages$Log" "kind" "[I") (by decide +kernel)
  have k_333 := hts (Cond.fieldLink RX9 333 "ShelfStages$Log" "batch" "[I") (by decide +kernel)
  have k_336 := hts (Cond.fieldLink RX9 336 "ShelfStages$Log" "units" "[I") (by decide +kernel)
  have k_339 := hts (Cond.fieldLink RX9 339 "ShelfStages$Log" "day" "[I") (by decide +kernel)
  have i_X5 : ∀ w ∈ wsX50, w ∈ wsX9_event := by decide +kernel
  have i_X8 : ∀ w ∈ wsX80, w ∈ wsX9_event := by decide +kernel
  have i_X9 : ∀ w ∈ wsX90, w ∈ wsX9_event := by decide +kernel
  have hD := hD0
  have hl := lv_entry ([.ref x0, .int (nI bk), .int wh]) (n := 5) (Nat.le_of_ble_eq_true rfl)
  rw [lg_entry_eq]
  generalize (lg_sl ([.ref x0, .int (nI bk), .int wh]) ++ List.replicate (5 - (lg_sl ([.ref x0, .int (nI bk), .int wh])).length) Slot.unset).toArray = ls at hl ⊢
  have hl : lv_has ls 5 [(0, .ref x0), (1, .int (nI bk)), (2, .int wh)] := hl
  refine lv_iload_n hx hb dX9_event_0 rfl (lv_at hl 1 rfl) ?_
  refine xr_zlt_n (tgt := 13) hx hb (by omega) dX9_event_1 (by decide) ?_
  refine lv_iload_n hx hb dX9_event_4 rfl (lv_at hl 2 rfl) ?_
  refine lv_iconst (v := nI 0) hx hb dX9_event_5 (by decide) ?_
  refine lv_iconst (v := nI 3) hx hb dX9_event_6 (by decide) ?_
  refine xkRi (xSs (Ws' := ([] : List Cond)) (As := [.int wh, .int (nI 0), .int (nI 3)]) (rest := []) (wc := []) hx hb hml hown hts (c_X9_within l dC dI cI cF cC cZ cQ cS wh (nI 0) (nI 3)) 3 (fun hR => va_cwS 3 hts gX9_event_X9_within rfl rfl rfl hdN_X9_within hR) ⟨Nat.le_of_ble_eq_true rfl, Nat.le_of_ble_eq_true rfl⟩ hN hK hP hD [] rfl rfl rfl hl.1 rfl (Nat.le_of_ble_eq_true rfl) dX9_event_7 ⟨Nat.zero_le _, Nat.zero_le _⟩) (fun r_1 hr_1 => ?_)
  have hr_1 : r_1 = (if (nI 0) ≤ wh ∧ wh ≤ (nI 3) then nI 1 else nI 0) := hr_1
  obtain rfl : r_1 = nI 1 := hr_1.trans (if_pos hw)
  refine xr_ifn1 (tgt := 16) hx hb (by decide) dX9_event_10 (by decide) ?_
  refine lv_aload_n hx hb dX9_event_16 rfl (lv_at hl 0 rfl) ?_
  refine va_get (D := (dC, dI)) (ci := 9) (v := .ref o0) (C := RX9) (T := TX9) (N := 9) hx hb hts i_X9 hown hK hP 0 rfl rfl 0 (by decide) k_12 (fun _ h9 => h9) rfl dX9_event_17 ?_
  refine va_get (D := (dC, dI)) (ci := 8) (v := .ref o34) (C := RX8) (T := TX8) (N := 8) hx hb hts i_X8 hown hK hP 1 rfl rfl 4 (by decide) k_320 (fun _ h9 => h9) rfl dX9_event_20 ?_
  refine lv_astore_n (lv' := [(3, .ref o34), (0, .ref x0), (1, .int (nI bk)), (2, .int wh)]) hx hb dX9_event_23 rfl hl (by decide) rfl (fun ls hl => ?_)
  refine lv_iload_n hx hb dX9_event_24 rfl (lv_at hl 2 rfl) ?_
  refine lv_aload_n hx hb dX9_event_25 rfl (lv_at hl 0 rfl) ?_
  refine va_get (D := (dC, dI)) (ci := 5) (v := .int (nI lz)) (C := RX5) (T := TX5) (N := 6) hx hb hts i_X5 hown hK hP 2 rfl rfl 0 (by decide) k_324 (fun _ h9 => h9) rfl dX9_event_26 ?_
  refine xr_lt_n (tgt := 35) hx hb (by omega) (by omega) dX9_event_29 (by decide) (fun c_2 => ?_) (fun c_2 => False.elim (by omega))
  refine lv_aload_n hx hb dX9_event_35 rfl (lv_at hl 0 rfl) ?_
  refine lv_iload_n hx hb dX9_event_36 rfl (lv_at hl 2 rfl) ?_
  refine xkRi (xV (As := [.int (nI bk)]) (rest := []) (wc := [(o34, .inr (5, [.int (nI lz), .int (nI nx), .ref o35, .ref o36, .ref o37, .ref o38]))]) hx hb hml hown hts (c_X5_placeOf l dC dI cI cF cC cZ cQ cS o34 (.int (nI lz)) (.ref o35) (.ref o36) (.ref o37) (.ref o38) nx bk (by omega) (by omega)) 1 gX9_event_X5_placeOf rfl rfl rfl hdV_X5_placeOf ⟨Nat.le_of_ble_eq_true rfl, Nat.le_of_ble_eq_true rfl⟩ hN hK hP hD [2] rfl rfl 5 2 rfl rfl rfl hl.1 rfl (Nat.le_of_ble_eq_true rfl) dX9_event_37 ⟨Nat.zero_le _, Nat.zero_le _⟩) (fun r_3 hr_3 => ?_)
  obtain rfl : r_3 = nI ((nx + 9 - bk) % 10) := hr_3
  refine lv_istore (lv' := [(4, .int (nI ((nx + 9 - bk) % 10))), (3, .ref o34), (0, .ref x0), (1, .int (nI bk)), (2, .int wh)]) hx hb dX9_event_40 hl (by decide) rfl (fun ls hl => ?_)
  refine lv_iload_n hx hb dX9_event_42 rfl (lv_at hl 4 rfl) ?_
  by_cases cs_4 : wh = nI 0
  · skip
    refine lv_tableIn (tgt := 68) hx hb dX9_event_43 (by rw [cs_4]; decide) (by rw [cs_4]; decide) (by rw [cs_4]; rfl) (by decide) ?_
    refine lv_aload_n hx hb dX9_event_68 rfl (lv_at hl 1 rfl) ?_
    refine va_get (D := (dC, dI)) (ci := 5) (v := .ref o35) (C := RX5) (T := TX5) (N := 6) hx hb hts i_X5 hown hK hP 2 rfl rfl 2 (by decide) k_330 (fun _ h9 => h9) rfl dX9_event_69 ?_
    refine lv_iload hx hb dX9_event_72 (lv_at hl 0 rfl) ?_
    refine xr_iald hx hb hK hP 3 0 rfl rfl (i := (nx + 9 - bk) % 10) (by omega) (by decide) dX9_event_74 ?_
    exact W.iret (v := kd ((nx + 9 - bk) % 10)) hx hb hr (fun t ht hW => ⟨_, rfl, (show kd ((nx + 9 - bk) % 10) = tEvent wh (kd ((nx + 9 - bk) % 10)) (lb ((nx + 9 - bk) % 10)) (lu ((nx + 9 - bk) % 10)) (ld ((nx + 9 - bk) % 10)) from (by unfold tEvent; rw [if_pos cs_4])), ht⟩) (fun q h => by cases h) dX9_event_75
  by_cases cs_5 : wh = nI 1
  · skip
    refine lv_tableIn (tgt := 76) hx hb dX9_event_43 (by rw [cs_5]; decide) (by rw [cs_5]; decide) (by rw [cs_5]; rfl) (by decide) ?_
    refine lv_aload_n hx hb dX9_event_76 rfl (lv_at hl 1 rfl) ?_
    refine va_get (D := (dC, dI)) (ci := 5) (v := .ref o36) (C := RX5) (T := TX5) (N := 6) hx hb hts i_X5 hown hK hP 2 rfl rfl 3 (by decide) k_333 (fun _ h9 => h9) rfl dX9_event_77 ?_
    refine lv_iload hx hb dX9_event_80 (lv_at hl 0 rfl) ?_
    refine xr_iald hx hb hK hP 4 0 rfl rfl (i := (nx + 9 - bk) % 10) (by omega) (by decide) dX9_event_82 ?_
    exact W.iret (v := lb ((nx + 9 - bk) % 10)) hx hb hr (fun t ht hW => ⟨_, rfl, (show lb ((nx + 9 - bk) % 10) = tEvent wh (kd ((nx + 9 - bk) % 10)) (lb ((nx + 9 - bk) % 10)) (lu ((nx + 9 - bk) % 10)) (ld ((nx + 9 - bk) % 10)) from (by unfold tEvent; rw [if_neg cs_4, if_pos cs_5])), ht⟩) (fun q h => by cases h) dX9_event_83
  by_cases cs_6 : wh = nI 2
  · skip
    refine lv_tableIn (tgt := 84) hx hb dX9_event_43 (by rw [cs_6]; decide) (by rw [cs_6]; decide) (by rw [cs_6]; rfl) (by decide) ?_
    refine lv_aload_n hx hb dX9_event_84 rfl (lv_at hl 1 rfl) ?_
    refine va_get (D := (dC, dI)) (ci := 5) (v := .ref o37) (C := RX5) (T := TX5) (N := 6) hx hb hts i_X5 hown hK hP 2 rfl rfl 4 (by decide) k_336 (fun _ h9 => h9) rfl dX9_event_85 ?_
    refine lv_iload hx hb dX9_event_88 (lv_at hl 0 rfl) ?_
    refine xr_iald hx hb hK hP 5 0 rfl rfl (i := (nx + 9 - bk) % 10) (by omega) (by decide) dX9_event_90 ?_
    exact W.iret (v := lu ((nx + 9 - bk) % 10)) hx hb hr (fun t ht hW => ⟨_, rfl, (show lu ((nx + 9 - bk) % 10) = tEvent wh (kd ((nx + 9 - bk) % 10)) (lb ((nx + 9 - bk) % 10)) (lu ((nx + 9 - bk) % 10)) (ld ((nx + 9 - bk) % 10)) from (by unfold tEvent; rw [if_neg cs_4, if_neg cs_5, if_pos cs_6])), ht⟩) (fun q h => by cases h) dX9_event_91
  refine lv_tableOut (tgt := 92) hx hb dX9_event_43 (xsw_out 3 (by decide) (fun j hj => by
      rcases (show j = 0 ∨ j = 1 ∨ j = 2 by omega) with rfl | rfl | rfl
      · exact cs_4
      · exact cs_5
      · exact cs_6)) (by decide) ?_
  refine lv_aload_n hx hb dX9_event_92 rfl (lv_at hl 1 rfl) ?_
  refine va_get (D := (dC, dI)) (ci := 5) (v := .ref o38) (C := RX5) (T := TX5) (N := 6) hx hb hts i_X5 hown hK hP 2 rfl rfl 5 (by decide) k_339 (fun _ h9 => h9) rfl dX9_event_93 ?_
  refine lv_iload hx hb dX9_event_96 (lv_at hl 0 rfl) ?_
  refine xr_iald hx hb hK hP 6 0 rfl rfl (i := (nx + 9 - bk) % 10) (by omega) (by decide) dX9_event_98 ?_
  exact W.iret (v := ld ((nx + 9 - bk) % 10)) hx hb hr (fun t ht hW => ⟨_, rfl, (show ld ((nx + 9 - bk) % 10) = tEvent wh (kd ((nx + 9 - bk) % 10)) (lb ((nx + 9 - bk) % 10)) (lu ((nx + 9 - bk) % 10)) (ld ((nx + 9 - bk) % 10)) from (by unfold tEvent; rw [if_neg cs_4, if_neg cs_5, if_neg cs_6])), ht⟩) (fun q h => by cases h) dX9_event_99