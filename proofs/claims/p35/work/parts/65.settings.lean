theorem xfl_upd (f : Nat → Int32) (k : Nat) (b : Int32) : vf_upd (xfl f) k (xf1 b) = xfl (upd f k b) := by
  funext j
  unfold vf_upd xfl upd xf1
  split <;> rfl
theorem nI_ne5 {k : Nat} (h : k < 2 ^ 31) : ¬ nI k = (-5) := fun q => by
  have e := congrArg Int32.toInt q
  rw [nI_toInt h, show (-5 : Int32).toInt = -5 from rfl] at e
  omega
theorem hdV_X9_setRebate : yX9_setRebate.cls = RX9 ∧ yX9_setRebate.cls ≠ "java/lang/invoke/MethodHandle" ∧ yX9_setRebate.cls ≠ "java/lang/invoke/VarHandle" ∧ (parseMethodDescriptor yX9_setRebate.desc).map (fun d => d.parameters.length) = some 1 := by decide +kernel
set_option maxHeartbeats 4000000 in
set_option maxRecDepth 100000 in
theorem c_X9_setRebateb (l : Launch) (dC : Nat → ClassId) (dI : Nat → Nat → Nat) (cI cF cC cZ cQ cS : ClassId) (x0 : Nat) (x0_now : Value) (x0_snapshot : Value) (x0_trial : Value) (x0_history : Value) (x0_filling : Value) (x0_delivery : Value) (x0_text : Value) (x0_textLength : Value) (x0_hasSnapshot : Value) (mk : Int32) (hw : ¬ (nI 0 ≤ mk ∧ mk ≤ nI 1106247680)) : Met l yX9_setRebate wsX9_setRebate ({ frames := 1, cells := 0, slots := 0, locals := 22 }) (xPre (dC, dI) vwCl [.ref x0, .int mk] (xtys cI cF cC cZ cQ cS) [(x0, .inr (9, [x0_now, x0_snapshot, x0_trial, x0_history, x0_filling, x0_delivery, x0_text, x0_textLength, x0_hasSnapshot]))]) (vp_Si (fun r0 => r0 = (-2))) 0 0 (fun _ => False) := by
  refine Met.ofW (cc := cX9_setRebate) (maxL := 3) (ret := (some .int)) (by decide) rfl ?_
  intro p e s m args below meth c s₁ B hml hv
  obtain ⟨rfl, hP, hK, hD0, hN⟩ := hv
  have hx := B.exec
  have hb := B.bytes
  have hr := B.returns
  have hts := atoms_spec (ws := wsX9_setRebate) B.pre
  have hown : s.vm.findClass RX9 = some m.cls := findClass_of_methodNamed B.named
  have hlocks := B.notSynchronized
  have kc_121 := hts (Cond.constant RX9 121 (1106247680)) (by decide +kernel)
  have hD := hD0
  have hl := lv_entry ([.ref x0, .int mk]) (n := 3) (Nat.le_of_ble_eq_true rfl)
  rw [lg_entry_eq]
  generalize (lg_sl ([.ref x0, .int mk]) ++ List.replicate (3 - (lg_sl ([.ref x0, .int mk])).length) Slot.unset).toArray = ls at hl ⊢
  have hl : lv_has ls 3 [(0, .ref x0), (1, .int mk)] := hl
  refine lv_iload_n hx hb dX9_setRebate_0 rfl (lv_at hl 1 rfl) ?_
  refine lv_iconst (v := nI 0) hx hb dX9_setRebate_1 (by decide) ?_
  refine lv_ldc hx hb hown kc_121 dX9_setRebate_2 ?_
  refine xr_top (show (1106247680 : Int32) = nI 1106247680 from rfl) ?_
  refine xkRi (xSs (Ws' := ([] : List Cond)) (As := [.int mk, .int (nI 0), .int (nI 1106247680)]) (rest := []) (wc := []) hx hb hml hown hts (c_X9_within l dC dI cI cF cC cZ cQ cS mk (nI 0) (nI 1106247680)) 3 (fun hR => va_cwS 3 hts gX9_setRebate_X9_within rfl rfl rfl hdN_X9_within hR) ⟨Nat.le_of_ble_eq_true rfl, Nat.le_of_ble_eq_true rfl⟩ hN hK hP hD [] rfl rfl rfl hl.1 rfl (Nat.le_of_ble_eq_true rfl) dX9_setRebate_4 ⟨Nat.zero_le _, Nat.zero_le _⟩) (fun r_1 hr_1 => ?_)
  have hr_1 : r_1 = (if (nI 0) ≤ mk ∧ mk ≤ (nI 1106247680) then nI 1 else nI 0) := hr_1
  obtain rfl : r_1 = nI 0 := hr_1.trans (if_neg hw)
  refine xr_ifn0 (tgt := 13) hx hb (by decide) dX9_setRebate_7 (by decide) ?_
  refine lv_bipush (v := (-2)) hx hb dX9_setRebate_10 (by decide) ?_
  exact W.iret (v := (-2)) hx hb hr (fun t ht hW => ⟨_, rfl, (show (-2) = (-2) from rfl), ht⟩) (fun q h => by cases h) dX9_setRebate_12
set_option maxHeartbeats 4000000 in
set_option maxRecDepth 100000 in
theorem c_X9_setRebatee (l : Launch) (dC : Nat → ClassId) (dI : Nat → Nat → Nat) (cI cF cC cZ cQ cS : ClassId) (x0 : Nat) (o0 : Nat) (x0_snapshot : Value) (x0_trial : Value) (x0_history : Value) (x0_filling : Value) (x0_delivery : Value) (x0_text : Value) (x0_textLength : Value) (x0_hasSnapshot : Value) (rb : Int32) (o0_goods : Value) (o0_batches : Value) (o0_orders : Value) (o0_stages : Value) (o0_log : Value) (o0_settings : Value) (o0_day : Value) (mb : Nat) (ob : Nat) (hw : nI 0 ≤ nI mb ∧ nI mb ≤ nI 1106247680) (hmb : mb ≤ 1120403456) (hob : ob ≤ 1120403456) (hro : rb = nI ob) (hbb : ob = mb) : Met l yX9_setRebate wsX9_setRebate ({ frames := 1, cells := 0, slots := 0, locals := 24 }) (xPre (dC, dI) vwCl [.ref x0, .int (nI mb)] (xtys cI cF cC cZ cQ cS) [(x0, .inr (9, [.ref o0, x0_snapshot, x0_trial, x0_history, x0_filling, x0_delivery, x0_text, x0_textLength, x0_hasSnapshot])), (o0, .inr (8, [o0_goods, o0_batches, o0_orders, o0_stages, o0_log, o0_settings, .float (xf1 rb), o0_day]))]) (vp_Si (fun r0 => r0 = (-5))) 0 0 (fun _ => False) := by
  refine Met.ofW (cc := cX9_setRebate) (maxL := 3) (ret := (some .int)) (by decide) rfl ?_
  intro p e s m args below meth c s₁ B hml hv
  obtain ⟨rfl, hP, hK, hD0, hN⟩ := hv
  have hx := B.exec
  have hb := B.bytes
  have hr := B.returns
  have hts := atoms_spec (ws := wsX9_setRebate) B.pre
  have hown : s.vm.findClass RX9 = some m.cls := findClass_of_methodNamed B.named
  have hlocks := B.notSynchronized
  have k_12 := hts (Cond.fieldLink RX9 12 "ShelfStages" "now" "LShelfStages$State;") (by decide +kernel)
  have k_122 := hts (Cond.fieldLink RX9 122 "ShelfStages$State" "rebate" "F") (by decide +kernel)
  have kc_121 := hts (Cond.constant RX9 121 (1106247680)) (by decide +kernel)
  have i_X8 : ∀ w ∈ wsX80, w ∈ wsX9_setRebate := by decide +kernel
  have i_X9 : ∀ w ∈ wsX90, w ∈ wsX9_setRebate := by decide +kernel
  have hD := hD0
  have hl := lv_entry ([.ref x0, .int (nI mb)]) (n := 3) (Nat.le_of_ble_eq_true rfl)
  rw [lg_entry_eq]
  generalize (lg_sl ([.ref x0, .int (nI mb)]) ++ List.replicate (3 - (lg_sl ([.ref x0, .int (nI mb)])).length) Slot.unset).toArray = ls at hl ⊢
  have hl : lv_has ls 3 [(0, .ref x0), (1, .int (nI mb))] := hl
  refine lv_iload_n hx hb dX9_setRebate_0 rfl (lv_at hl 1 rfl) ?_
  refine lv_iconst (v := nI 0) hx hb dX9_setRebate_1 (by decide) ?_
  refine lv_ldc hx hb hown kc_121 dX9_setRebate_2 ?_
  refine xr_top (show (1106247680 : Int32) = nI 1106247680 from rfl) ?_
  refine xkRi (xSs (Ws' := ([] : List Cond)) (As := [.int (nI mb), .int (nI 0), .int (nI 1106247680)]) (rest := []) (wc := []) hx hb hml hown hts (c_X9_within l dC dI cI cF cC cZ cQ cS (nI mb) (nI 0) (nI 1106247680)) 3 (fun hR => va_cwS 3 hts gX9_setRebate_X9_within rfl rfl rfl hdN_X9_within hR) ⟨Nat.le_of_ble_eq_true rfl, Nat.le_of_ble_eq_true rfl⟩ hN hK hP hD [] rfl rfl rfl hl.1 rfl (Nat.le_of_ble_eq_true rfl) dX9_setRebate_4 ⟨Nat.zero_le _, Nat.zero_le _⟩) (fun r_1 hr_1 => ?_)
  have hr_1 : r_1 = (if (nI 0) ≤ (nI mb) ∧ (nI mb) ≤ (nI 1106247680) then nI 1 else nI 0) := hr_1
  obtain rfl : r_1 = nI 1 := hr_1.trans (if_pos hw)
  refine xr_ifn1 (tgt := 13) hx hb (by decide) dX9_setRebate_7 (by decide) ?_
  refine lv_iload_n hx hb dX9_setRebate_13 rfl (lv_at hl 1 rfl) ?_
  refine xkRf (xSs (Ws' := ([] : List Cond)) (As := [.int (nI mb)]) (rest := []) (wc := []) hx hb hml hown hts (c_X9_floatOfBits l dC dI cI cF cC cZ cQ cS mb hmb) 1 (fun hR => va_cwS 1 hts gX9_setRebate_X9_floatOfBits rfl rfl rfl hdN_X9_floatOfBits hR) ⟨Nat.le_of_ble_eq_true rfl, Nat.le_of_ble_eq_true rfl⟩ hN hK hP hD [] rfl rfl rfl hl.1 rfl (Nat.le_of_ble_eq_true rfl) dX9_setRebate_14 ⟨Nat.zero_le _, Nat.zero_le _⟩) (fun r_2 hr_2 => ?_)
  obtain rfl : r_2 = xf1 (nI mb) := hr_2
  refine lv_fstore_n (lv' := [(2, .float (xf1 (nI mb))), (0, .ref x0), (1, .int (nI mb))]) hx hb dX9_setRebate_17 rfl hl (by decide) rfl (fun ls hl => ?_)
  refine lv_aload_n hx hb dX9_setRebate_18 rfl (lv_at hl 1 rfl) ?_
  refine va_get (D := (dC, dI)) (ci := 9) (v := .ref o0) (C := RX9) (T := TX9) (N := 9) hx hb hts i_X9 hown hK hP 0 rfl rfl 0 (by decide) k_12 (fun _ h9 => h9) rfl dX9_setRebate_19 ?_
  refine va_get (D := (dC, dI)) (ci := 8) (v := .float (xf1 rb)) (C := RX8) (T := TX8) (N := 8) hx hb hts i_X8 hown hK hP 1 rfl rfl 6 (by decide) k_122 (fun _ h9 => h9) rfl dX9_setRebate_22 ?_
  refine xr_topf (show xf1 rb = xf1 (nI ob) from (by rw [hro])) ?_
  refine lv_fload_n hx hb dX9_setRebate_25 rfl (lv_at hl 0 rfl) ?_
  refine lv_fcmp hx hb dX9_setRebate_26 ?_
  refine lv_if_ne (tgt := 33) hx hb dX9_setRebate_27 (by decide) (fun c_3 => False.elim (by exact c_3 ((xfcmp_eq hob hmb).mpr hbb))) (fun c_3 => ?_)
  refine lv_bipush (v := (-5)) hx hb dX9_setRebate_30 (by decide) ?_
  exact W.iret (v := (-5)) hx hb hr (fun t ht hW => ⟨_, rfl, (show (-5) = (-5) from rfl), ht⟩) (fun q h => by cases h) dX9_setRebate_32
set_option maxHeartbeats 4000000 in
set_option maxRecDepth 100000 in
theorem c_X9_setRebates (l : Launch) (dC : Nat → ClassId) (dI : Nat → Nat → Nat) (cI cF cC cZ cQ cS : ClassId) (x0 : Nat) (o : Nat → Nat) (x0_snapshot : Value) (x0_trial : Value) (hh : Nat) (x0_filling : Value) (x0_delivery : Value) (x0_text : Value) (x0_textLength : Value) (x0_hasSnapshot : Value) (hs : Nat) (ad : Nat → Nat → Nat) (ol : Nat) (sz : Nat) (S : Nat → Nat → Nat → Int32) (T : Nat → Nat → Int32) (mb : Nat) (ob : Nat) (hol : ol < 4) (hsz : sz ≤ 4) (hw : nI 0 ≤ nI mb ∧ nI mb ≤ nI 1106247680) (hmb : mb ≤ 1120403456) (hob : ob ≤ 1120403456) (hro : T 39 0 = nI ob) (hbb : ¬ ob = mb) : Met l yX9_setRebate wsX9_setRebate ({ frames := 5, cells := 0, slots := 0, locals := 125 }) (xPre (dC, dI) vwCl [.ref x0, .int (nI mb)] (xtys cI cF cC cZ cQ cS) (([(x0, .inr (9, [.ref (o 0), x0_snapshot, x0_trial, .ref hh, x0_filling, x0_delivery, x0_text, x0_textLength, x0_hasSnapshot])), (hh, .inr (4, [.ref hs, .int (nI ol), .int (nI sz)])), (hs, .inl (cS, 4, .inr (.inr (.inr (.inr (xsa ad))))))] ++ stW cI cF cQ o T) ++ hiW cI cF cQ ad S)) (xWi (dC, dI) vwCl (([(x0, .inr (9, [.ref (o 0), x0_snapshot, x0_trial, .ref hh, x0_filling, x0_delivery, x0_text, x0_textLength, x0_hasSnapshot])), (hh, .inr (4, [.ref hs, .int (nI ol), .int (nI sz)])), (hs, .inl (cS, 4, .inr (.inr (.inr (.inr (xsa ad))))))] ++ stW cI cF cQ o T) ++ hiW cI cF cQ ad S) (fun r0 w0 => r0 = nI 1 ∧ w0 = (([(x0, .inr (9, [.ref (o 0), x0_snapshot, x0_trial, .ref hh, x0_filling, x0_delivery, x0_text, x0_textLength, x0_hasSnapshot])), (hh, .inr (4, [.ref hs, .int (nI (xol ol sz)), .int (nI (xsz sz))])), (hs, .inl (cS, 4, .inr (.inr (.inr (.inr (xsa ad))))))] ++ stW cI cF cQ o (xT T 39 (fun _ => (nI mb)))) ++ hiW cI cF cQ ad (xupS S ((ol + sz) % 4) T)))) 0 0 (va_B (([(x0, .inr (9, [.ref (o 0), x0_snapshot, x0_trial, .ref hh, x0_filling, x0_delivery, x0_text, x0_textLength, x0_hasSnapshot])), (hh, .inr (4, [.ref hs, .int (nI ol), .int (nI sz)])), (hs, .inl (cS, 4, .inr (.inr (.inr (.inr (xsa ad))))))] ++ stW cI cF cQ o T) ++ hiW cI cF cQ ad S)) := by
  refine Met.ofW (cc := cX9_setRebate) (maxL := 3) (ret := (some .int)) (by decide) rfl ?_
  intro p e s m args below meth c s₁ B hml hv
  obtain ⟨rfl, hP, hK, hD0, hN⟩ := hv
  have hx := B.exec
  have hb := B.bytes
  have hr := B.returns
  have hts := atoms_spec (ws := wsX9_setRebate) B.pre
  have hown : s.vm.findClass RX9 = some m.cls := findClass_of_methodNamed B.named
  have hlocks := B.notSynchronized
  have k_12 := hts (Cond.fieldLink RX9 12 "ShelfStages" "now" "LShelfStages$State;") (by decide +kernel)
  have k_122 := hts (Cond.fieldLink RX9 122 "ShelfStages$State" "rebate" "F") (by decide +kernel)
  have k_25 := hts (Cond.fieldLink RX9 25 "ShelfStages" "history" "LShelfStages$History;") (by decide +kernel)
  have kc_121 := hts (Cond.constant RX9 121 (1106247680)) (by decide +kernel)
  have i_X8 : ∀ w ∈ wsX80, w ∈ wsX9_setRebate := by decide +kernel
  have i_X9 : ∀ w ∈ wsX90, w ∈ wsX9_setRebate := by decide +kernel
  obtain ⟨A, hA⟩ : ∃ A, A = va_B (([(x0, .inr (9, [.ref (o 0), x0_snapshot, x0_trial, .ref hh, x0_filling, x0_delivery, x0_text, x0_textLength, x0_hasSnapshot])), (hh, .inr (4, [.ref hs, .int (nI ol), .int (nI sz)])), (hs, .inl (cS, 4, .inr (.inr (.inr (.inr (xsa ad))))))] ++ stW cI cF cQ o T) ++ hiW cI cF cQ ad S) := ⟨_, rfl⟩
  have hD : va_D A (([(x0, .inr (9, [.ref (o 0), x0_snapshot, x0_trial, .ref hh, x0_filling, x0_delivery, x0_text, x0_textLength, x0_hasSnapshot])), (hh, .inr (4, [.ref hs, .int (nI ol), .int (nI sz)])), (hs, .inl (cS, 4, .inr (.inr (.inr (.inr (xsa ad))))))] ++ stW cI cF cQ o T) ++ hiW cI cF cQ ad S) := hA ▸ hD0.own
  have hS : va_S A s.heap s.heap [] := va_S.rf
  have hl := lv_entry ([.ref x0, .int (nI mb)]) (n := 3) (Nat.le_of_ble_eq_true rfl)
  rw [lg_entry_eq]
  generalize (lg_sl ([.ref x0, .int (nI mb)]) ++ List.replicate (3 - (lg_sl ([.ref x0, .int (nI mb)])).length) Slot.unset).toArray = ls at hl ⊢
  have hl : lv_has ls 3 [(0, .ref x0), (1, .int (nI mb))] := hl
  refine lv_iload_n hx hb dX9_setRebate_0 rfl (lv_at hl 1 rfl) ?_
  refine lv_iconst (v := nI 0) hx hb dX9_setRebate_1 (by decide) ?_
  refine lv_ldc hx hb hown kc_121 dX9_setRebate_2 ?_
  refine xr_top (show (1106247680 : Int32) = nI 1106247680 from rfl) ?_
  refine xkRi (xSs (Ws' := ([] : List Cond)) (As := [.int (nI mb), .int (nI 0), .int (nI 1106247680)]) (rest := []) (wc := []) hx hb hml hown hts (c_X9_within l dC dI cI cF cC cZ cQ cS (nI mb) (nI 0) (nI 1106247680)) 3 (fun hR => va_cwS 3 hts gX9_setRebate_X9_within rfl rfl rfl hdN_X9_within hR) ⟨Nat.le_of_ble_eq_true rfl, Nat.le_of_ble_eq_true rfl⟩ hN hK hP hD [] rfl rfl rfl hl.1 rfl (Nat.le_of_ble_eq_true rfl) dX9_setRebate_4 ⟨Nat.zero_le _, Nat.zero_le _⟩) (fun r_1 hr_1 => ?_)
  have hr_1 : r_1 = (if (nI 0) ≤ (nI mb) ∧ (nI mb) ≤ (nI 1106247680) then nI 1 else nI 0) := hr_1
  obtain rfl : r_1 = nI 1 := hr_1.trans (if_pos hw)
  refine xr_ifn1 (tgt := 13) hx hb (by decide) dX9_setRebate_7 (by decide) ?_
  refine lv_iload_n hx hb dX9_setRebate_13 rfl (lv_at hl 1 rfl) ?_
  refine xkRf (xSs (Ws' := ([] : List Cond)) (As := [.int (nI mb)]) (rest := []) (wc := []) hx hb hml hown hts (c_X9_floatOfBits l dC dI cI cF cC cZ cQ cS mb hmb) 1 (fun hR => va_cwS 1 hts gX9_setRebate_X9_floatOfBits rfl rfl rfl hdN_X9_floatOfBits hR) ⟨Nat.le_of_ble_eq_true rfl, Nat.le_of_ble_eq_true rfl⟩ hN hK hP hD [] rfl rfl rfl hl.1 rfl (Nat.le_of_ble_eq_true rfl) dX9_setRebate_14 ⟨Nat.zero_le _, Nat.zero_le _⟩) (fun r_2 hr_2 => ?_)
  obtain rfl : r_2 = xf1 (nI mb) := hr_2
  refine lv_fstore_n (lv' := [(2, .float (xf1 (nI mb))), (0, .ref x0), (1, .int (nI mb))]) hx hb dX9_setRebate_17 rfl hl (by decide) rfl (fun ls hl => ?_)
  refine lv_aload_n hx hb dX9_setRebate_18 rfl (lv_at hl 1 rfl) ?_
  refine va_get (D := (dC, dI)) (ci := 9) (v := .ref (o 0)) (C := RX9) (T := TX9) (N := 9) hx hb hts i_X9 hown hK hP 0 rfl rfl 0 (by decide) k_12 (fun _ h9 => h9) rfl dX9_setRebate_19 ?_
  refine va_get (D := (dC, dI)) (ci := 8) (v := .float (xf1 (T 39 0))) (C := RX8) (T := TX8) (N := 8) hx hb hts i_X8 hown hK hP 3 rfl rfl 6 (by decide) k_122 (fun _ h9 => h9) rfl dX9_setRebate_22 ?_
  refine xr_topf (show xf1 (T 39 0) = xf1 (nI ob) from (by rw [hro])) ?_
  refine lv_fload_n hx hb dX9_setRebate_25 rfl (lv_at hl 0 rfl) ?_
  refine lv_fcmp hx hb dX9_setRebate_26 ?_
  refine lv_if_ne (tgt := 33) hx hb dX9_setRebate_27 (by decide) (fun c_3 => ?_) (fun c_3 => False.elim (by exact hbb ((xfcmp_eq hob hmb).mp c_3)))
  refine lv_aload_n hx hb dX9_setRebate_33 rfl (lv_at hl 1 rfl) ?_
  refine va_get (D := (dC, dI)) (ci := 9) (v := .ref hh) (C := RX9) (T := TX9) (N := 9) hx hb hts i_X9 hown hK hP 0 rfl rfl 3 (by decide) k_25 (fun _ h9 => h9) rfl dX9_setRebate_34 ?_
  refine lv_aload_n hx hb dX9_setRebate_37 rfl (lv_at hl 1 rfl) ?_
  refine va_get (D := (dC, dI)) (ci := 9) (v := .ref (o 0)) (C := RX9) (T := TX9) (N := 9) hx hb hts i_X9 hown hK hP 0 rfl rfl 0 (by decide) k_12 (fun _ h9 => h9) rfl dX9_setRebate_38 ?_
  have hPF : va_P (dC, dI) vwCl ([(x0, .inr (9, [.ref (o 0), x0_snapshot, x0_trial, .ref hh, x0_filling, x0_delivery, x0_text, x0_textLength, x0_hasSnapshot]))] ++ (([(hh, .inr (4, [.ref hs, .int (nI ol), .int (nI sz)])), (hs, .inl (cS, 4, .inr (.inr (.inr (.inr (xsa ad))))))] ++ stW cI cF cQ o T) ++ hiW cI cF cQ ad S)) s.heap := hP
  have hDF : va_D A ([(x0, .inr (9, [.ref (o 0), x0_snapshot, x0_trial, .ref hh, x0_filling, x0_delivery, x0_text, x0_textLength, x0_hasSnapshot]))] ++ (([(hh, .inr (4, [.ref hs, .int (nI ol), .int (nI sz)])), (hs, .inl (cS, 4, .inr (.inr (.inr (.inr (xsa ad))))))] ++ stW cI cF cQ o T) ++ hiW cI cF cQ ad S)) := hD
  have hPc := xP_r hPF
  have hDc := xD_r hDF
  refine xkV3 (xVg (As := [.ref (o 0)]) (rest := []) (W0 := (([(hh, .inr (4, [.ref hs, .int (nI ol), .int (nI sz)])), (hs, .inl (cS, 4, .inr (.inr (.inr (.inr (xsa ad))))))] ++ stW cI cF cQ o T) ++ hiW cI cF cQ ad S)) hx hb hml hown hts (c_X4_push l dC dI cI cF cC cZ cQ cS hh hs ad ol sz o S T hol hsz) 1 gX9_setRebate_X4_push rfl rfl rfl hdV_X4_push ⟨Nat.le_of_ble_eq_true rfl, Nat.le_of_ble_eq_true rfl⟩ hN hK hPc hPc hDc 4 0 rfl rfl rfl hl.1 rfl (Nat.le_of_ble_eq_true rfl) dX9_setRebate_41 ⟨Nat.zero_le _, Nat.zero_le _⟩) hS (xB_of hDc) (fun H locs hk9 hP1 hS => ?_)
  obtain ⟨hP, hD⟩ := xback hPF hDF (by exact xh_adr rfl) hk9 hP1
  obtain ⟨S1, hS1⟩ : ∃ x, x = xupS S ((ol + sz) % 4) T := ⟨_, rfl⟩
  rw [← hS1] at hP hD
  have hP : va_P (dC, dI) vwCl (([(x0, .inr (9, [.ref (o 0), x0_snapshot, x0_trial, .ref hh, x0_filling, x0_delivery, x0_text, x0_textLength, x0_hasSnapshot])), (hh, .inr (4, [.ref hs, .int (nI (xol ol sz)), .int (nI (xsz sz))])), (hs, .inl (cS, 4, .inr (.inr (.inr (.inr (xsa ad))))))] ++ stW cI cF cQ o T) ++ hiW cI cF cQ ad S1) H := hP
  have hD : va_D A (([(x0, .inr (9, [.ref (o 0), x0_snapshot, x0_trial, .ref hh, x0_filling, x0_delivery, x0_text, x0_textLength, x0_hasSnapshot])), (hh, .inr (4, [.ref hs, .int (nI (xol ol sz)), .int (nI (xsz sz))])), (hs, .inl (cS, 4, .inr (.inr (.inr (.inr (xsa ad))))))] ++ stW cI cF cQ o T) ++ hiW cI cF cQ ad S1) := hD
  refine lv_aload_n hx hb dX9_setRebate_44 rfl (lv_at hl 1 rfl) ?_
  refine va_get (D := (dC, dI)) (ci := 9) (v := .ref (o 0)) (C := RX9) (T := TX9) (N := 9) hx hb hts i_X9 hown hK hP 0 rfl rfl 0 (by decide) k_12 (fun _ h9 => h9) rfl dX9_setRebate_45 ?_
  refine lv_fload_n hx hb dX9_setRebate_48 rfl (lv_at hl 0 rfl) ?_
  refine va_put (D := (dC, dI)) (ci := 8) (v := .float (xf1 (nI mb))) (ty := .float) (C := RX8) (T := TX8) (N := 8) hx hb hts i_X8 tyX8 tyX8_ok nmX8 hown hK hP hD hS 3 rfl rfl 6 (by decide) k_122 (fun _ h9 => h9) rfl (by decide +kernel) rfl rfl (Nat.le_of_ble_eq_true rfl) dX9_setRebate_49 (fun H locs hP hD hS => ?_)
  have hP : va_P (dC, dI) vwCl (([(x0, .inr (9, [.ref (o 0), x0_snapshot, x0_trial, .ref hh, x0_filling, x0_delivery, x0_text, x0_textLength, x0_hasSnapshot])), (hh, .inr (4, [.ref hs, .int (nI (xol ol sz)), .int (nI (xsz sz))])), (hs, .inl (cS, 4, .inr (.inr (.inr (.inr (xsa ad))))))] ++ stW cI cF cQ o (xT T 39 (fun _ => (nI mb)))) ++ hiW cI cF cQ ad S1) H := hP
  have hD : va_D A (([(x0, .inr (9, [.ref (o 0), x0_snapshot, x0_trial, .ref hh, x0_filling, x0_delivery, x0_text, x0_textLength, x0_hasSnapshot])), (hh, .inr (4, [.ref hs, .int (nI (xol ol sz)), .int (nI (xsz sz))])), (hs, .inl (cS, 4, .inr (.inr (.inr (.inr (xsa ad))))))] ++ stW cI cF cQ o (xT T 39 (fun _ => (nI mb)))) ++ hiW cI cF cQ ad S1) := hD
  refine lv_iconst (v := nI 1) hx hb dX9_setRebate_52 (by decide) ?_
  subst hS1
  have hP9 : va_P (dC, dI) vwCl (([(x0, .inr (9, [.ref (o 0), x0_snapshot, x0_trial, .ref hh, x0_filling, x0_delivery, x0_text, x0_textLength, x0_hasSnapshot])), (hh, .inr (4, [.ref hs, .int (nI (xol ol sz)), .int (nI (xsz sz))])), (hs, .inl (cS, 4, .inr (.inr (.inr (.inr (xsa ad))))))] ++ stW cI cF cQ o (xT T 39 (fun _ => (nI mb)))) ++ hiW cI cF cQ ad (xupS S ((ol + sz) % 4) T)) H := hP
  have hS9 : va_S (va_B (([(x0, .inr (9, [.ref (o 0), x0_snapshot, x0_trial, .ref hh, x0_filling, x0_delivery, x0_text, x0_textLength, x0_hasSnapshot])), (hh, .inr (4, [.ref hs, .int (nI ol), .int (nI sz)])), (hs, .inl (cS, 4, .inr (.inr (.inr (.inr (xsa ad))))))] ++ stW cI cF cQ o T) ++ hiW cI cF cQ ad S)) s.heap H locs := by rw [← hA]; exact hS
  exact W.iret (v := nI 1) hx hb hr (fun t ht hW => ⟨⟨_, _, rfl, ⟨(show nI 1 = nI 1 from rfl), rfl⟩, by rw [ht]; exact hP9⟩, hS9.X ht⟩) hS9.2.2 dX9_setRebate_53
theorem hdV_X9_unitPrice : yX9_unitPrice.cls = RX9 ∧ yX9_unitPrice.cls ≠ "java/lang/invoke/MethodHandle" ∧ yX9_unitPrice.cls ≠ "java/lang/invoke/VarHandle" ∧ (parseMethodDescriptor yX9_unitPrice.desc).map (fun d => d.parameters.length) = some 1 := by decide +kernel
set_option maxHeartbeats 4000000 in
set_option maxRecDepth 100000 in
theorem c_X9_unitPriceu (l : Launch) (dC : Nat → ClassId) (dI : Nat → Nat → Nat) (cI cF cC cZ cQ cS : ClassId) (x0 : Nat) (o0 : Nat) (x0_snapshot : Value) (x0_trial : Value) (x0_history : Value) (x0_filling : Value) (x0_delivery : Value) (x0_text : Value) (x0_textLength : Value) (x0_hasSnapshot : Value) (o0_goods : Value) (o6 : Nat) (o0_orders : Value) (o0_stages : Value) (o0_log : Value) (o0_settings : Value) (o0_rebate : Value) (o0_day : Value) (bz : Nat) (o6_good : Value) (o6_came : Value) (o6_left : Value) (o6_shelf : Value) (o6_sold : Value) (o6_given : Value) (o6_cents : Value) (o6_wasted : Value) (bq : Int32) (hbz : bz ≤ 40) (hg : ¬ xhas bq bz) : Met l yX9_unitPrice wsX9_unitPrice ({ frames := 2, cells := 0, slots := 0, locals := 43 }) (xPre (dC, dI) vwCl [.ref x0, .int bq] (xtys cI cF cC cZ cQ cS) [(x0, .inr (9, [.ref o0, x0_snapshot, x0_trial, x0_history, x0_filling, x0_delivery, x0_text, x0_textLength, x0_hasSnapshot])), (o0, .inr (8, [o0_goods, .ref o6, o0_orders, o0_stages, o0_log, o0_settings, o0_rebate, o0_day])), (o6, .inr (0, [.int (nI bz), o6_good, o6_came, o6_left, o6_shelf, o6_sold, o6_given, o6_cents, o6_wasted]))]) (vp_Sf (fun r0 => r0 = 2143289344)) 0 0 (fun _ => False) := by
  refine Met.ofW (cc := cX9_unitPrice) (maxL := 2) (ret := (some .float)) (by decide) rfl ?_
  intro p e s m args below meth c s₁ B hml hv
  obtain ⟨rfl, hP, hK, hD0, hN⟩ := hv
  have hx := B.exec
  have hb := B.bytes
  have hr := B.returns
  have hts := atoms_spec (ws := wsX9_unitPrice) B.pre
  have hown : s.vm.findClass RX9 = some m.cls := findClass_of_methodNamed B.named
  have hlocks := B.notSynchronized
  have hD := hD0
  have hl := lv_entry ([.ref x0, .int bq]) (n := 2) (Nat.le_of_ble_eq_true rfl)
  rw [lg_entry_eq]
  generalize (lg_sl ([.ref x0, .int bq]) ++ List.replicate (2 - (lg_sl ([.ref x0, .int bq])).length) Slot.unset).toArray = ls at hl ⊢
  have hl : lv_has ls 2 [(0, .ref x0), (1, .int bq)] := hl
  refine lv_aload_n hx hb dX9_unitPrice_0 rfl (lv_at hl 0 rfl) ?_
  refine lv_iload_n hx hb dX9_unitPrice_1 rfl (lv_at hl 1 rfl) ?_
  refine xkRi (xV (As := [.int bq]) (rest := []) (wc := [(x0, .inr (9, [.ref o0, x0_snapshot, x0_trial, x0_history, x0_filling, x0_delivery, x0_text, x0_textLength, x0_hasSnapshot])), (o0, .inr (8, [o0_goods, .ref o6, o0_orders, o0_stages, o0_log, o0_settings, o0_rebate, o0_day])), (o6, .inr (0, [.int (nI bz), o6_good, o6_came, o6_left, o6_shelf, o6_sold, o6_given, o6_cents, o6_wasted]))]) hx hb hml hown hts (c_X9_hasBatch l dC dI cI cF cC cZ cQ cS x0 o0 x0_snapshot x0_trial x0_history x0_filling x0_delivery x0_text x0_textLength x0_hasSnapshot o0_goods o6 o0_orders o0_stages o0_log o0_settings o0_rebate o0_day bz o6_good o6_came o6_left o6_shelf o6_sold o6_given o6_cents o6_wasted bq (by omega)) 1 gX9_unitPrice_X9_hasBatch rfl rfl rfl hdV_X9_hasBatch ⟨Nat.le_of_ble_eq_true rfl, Nat.le_of_ble_eq_true rfl⟩ hN hK hP hD [0, 1, 2] rfl rfl 9 0 rfl rfl rfl hl.1 rfl (Nat.le_of_ble_eq_true rfl) dX9_unitPrice_2 ⟨Nat.zero_le _, Nat.zero_le _⟩) (fun r_1 hr_1 => ?_)
  have hr_1 : r_1 = (if xhas bq bz then nI 1 else nI 0) := hr_1
  obtain rfl : r_1 = nI 0 := hr_1.trans (if_neg hg)
  refine xr_ifn0 (tgt := 12) hx hb (by decide) dX9_unitPrice_5 (by decide) ?_
  refine xkRf (xSs (Ws' := ([] : List Cond)) (As := []) (rest := []) (wc := []) hx hb hml hown hts (c_X9_notANumber l dC dI cI cF cC cZ cQ cS) 0 (fun hR => va_cwS 0 hts gX9_unitPrice_X9_notANumber rfl rfl rfl hdN_X9_notANumber hR) ⟨Nat.le_of_ble_eq_true rfl, Nat.le_of_ble_eq_true rfl⟩ hN hK hP hD [] rfl rfl rfl hl.1 rfl (Nat.le_of_ble_eq_true rfl) dX9_unitPrice_8 ⟨Nat.zero_le _, Nat.zero_le _⟩) (fun r_2 hr_2 => ?_)
  obtain rfl : r_2 = 2143289344 := hr_2
  exact W.fret (v := 2143289344) hx hb hr (fun t ht hW => ⟨_, rfl, (show 2143289344 = 2143289344 from rfl), ht⟩) (fun q h => by cases h) dX9_unitPrice_11
set_option maxHeartbeats 4000000 in
set_option maxRecDepth 100000 in
theorem c_X9_unitPrices (l : Launch) (dC : Nat → ClassId) (dI : Nat → Nat → Nat) (cI cF cC cZ cQ cS : ClassId) (x0 : Nat) (o0 : Nat) (x0_snapshot : Value) (x0_trial : Value) (x0_history : Value) (x0_filling : Value) (x0_delivery : Value) (x0_text : Value) (x0_textLength : Value) (x0_hasSnapshot : Value) (o1 : Nat) (o6 : Nat) (o0_orders : Value) (o31 : Nat) (o0_log : Value) (o0_settings : Value) (o0_rebate : Value) (o0_day : Value) (o1_size : Value) (o2 : Nat) (o3 : Nat) (o1_listed : Value) (o1_list : Value) (price : Nat → Int32) (life : Nat → Int32) (bz : Nat) (o7 : Nat) (o6_came : Value) (o9 : Nat) (o6_shelf : Value) (o6_sold : Value) (o6_given : Value) (o6_cents : Value) (o6_wasted : Value) (good : Nat → Int32) (left : Nat → Int32) (o32 : Nat) (o33 : Nat) (share : Nat → Int32) (md : Nat → Int32) (kb : Nat) (hbz : bz ≤ 40) (hk : kb < bz) (hgb : (good kb).toNatClampNeg < 12 ∧ good kb = nI (good kb).toNatClampNeg) (hmd : ∀ j, j < 4 → xmd (xfl md j)) : Met l yX9_unitPrice wsX9_unitPrice ({ frames := 3, cells := 0, slots := 0, locals := 66 }) (xPre (dC, dI) vwCl [.ref x0, .int (nI kb)] (xtys cI cF cC cZ cQ cS) [(x0, .inr (9, [.ref o0, x0_snapshot, x0_trial, x0_history, x0_filling, x0_delivery, x0_text, x0_textLength, x0_hasSnapshot])), (o0, .inr (8, [.ref o1, .ref o6, o0_orders, .ref o31, o0_log, o0_settings, o0_rebate, o0_day])), (o1, .inr (3, [o1_size, .ref o2, .ref o3, o1_listed, o1_list])), (o2, .inl (cI, 12, .inl price)), (o3, .inl (cI, 12, .inl life)), (o6, .inr (0, [.int (nI bz), .ref o7, o6_came, .ref o9, o6_shelf, o6_sold, o6_given, o6_cents, o6_wasted])), (o7, .inl (cI, 40, .inl good)), (o9, .inl (cI, 40, .inl left)), (o31, .inr (7, [.ref o32, .ref o33])), (o32, .inl (cI, 4, .inl share)), (o33, .inl (cF, 4, .inr (.inr (.inl (xfl md)))))]) (vp_Sf (fun r0 => r0 = xprice (price (good kb).toNatClampNeg) (xfl md (xstg share left life good kb)))) 0 0 (fun _ => False) := by
  refine Met.ofW (cc := cX9_unitPrice) (maxL := 2) (ret := (some .float)) (by decide) rfl ?_
  intro p e s m args below meth c s₁ B hml hv
  obtain ⟨rfl, hP, hK, hD0, hN⟩ := hv
  have hx := B.exec
  have hb := B.bytes
  have hr := B.returns
  have hts := atoms_spec (ws := wsX9_unitPrice) B.pre
  have hown : s.vm.findClass RX9 = some m.cls := findClass_of_methodNamed B.named
  have hlocks := B.notSynchronized
  have k_12 := hts (Cond.fieldLink RX9 12 "ShelfStages" "now" "LShelfStages$State;") (by decide +kernel)
  have i_X9 : ∀ w ∈ wsX90, w ∈ wsX9_unitPrice := by decide +kernel
  have hD := hD0
  have hl := lv_entry ([.ref x0, .int (nI kb)]) (n := 2) (Nat.le_of_ble_eq_true rfl)
  rw [lg_entry_eq]
  generalize (lg_sl ([.ref x0, .int (nI kb)]) ++ List.replicate (2 - (lg_sl ([.ref x0, .int (nI kb)])).length) Slot.unset).toArray = ls at hl ⊢
  have hl : lv_has ls 2 [(0, .ref x0), (1, .int (nI kb))] := hl
  refine lv_aload_n hx hb dX9_unitPrice_0 rfl (lv_at hl 0 rfl) ?_
  refine lv_iload_n hx hb dX9_unitPrice_1 rfl (lv_at hl 1 rfl) ?_
  refine xkRi (xV (As := [.int (nI kb)]) (rest := []) (wc := [(x0, .inr (9, [.ref o0, x0_snapshot, x0_trial, x0_history, x0_filling, x0_delivery, x0_text, x0_textLength, x0_hasSnapshot])), (o0, .inr (8, [.ref o1, .ref o6, o0_orders, .ref o31, o0_log, o0_settings, o0_rebate, o0_day])), (o6, .inr (0, [.int (nI bz), .ref o7, o6_came, .ref o9, o6_shelf, o6_sold, o6_given, o6_cents, o6_wasted]))]) hx hb hml hown hts (c_X9_hasBatch l dC dI cI cF cC cZ cQ cS x0 o0 x0_snapshot x0_trial x0_history x0_filling x0_delivery x0_text x0_textLength x0_hasSnapshot (.ref o1) o6 o0_orders (.ref o31) o0_log o0_settings o0_rebate o0_day bz (.ref o7) o6_came (.ref o9) o6_shelf o6_sold o6_given o6_cents o6_wasted (nI kb) (by omega)) 1 gX9_unitPrice_X9_hasBatch rfl rfl rfl hdV_X9_hasBatch ⟨Nat.le_of_ble_eq_true rfl, Nat.le_of_ble_eq_true rfl⟩ hN hK hP hD [0, 1, 5] rfl rfl 9 0 rfl rfl rfl hl.1 rfl (Nat.le_of_ble_eq_true rfl) dX9_unitPrice_2 ⟨Nat.zero_le _, Nat.zero_le _⟩) (fun r_1 hr_1 => ?_)
  have hr_1 : r_1 = (if xhas (nI kb) bz then nI 1 else nI 0) := hr_1
  obtain rfl : r_1 = nI 1 := hr_1.trans (if_pos (xhas_of hk (by omega)))
  refine xr_ifn1 (tgt := 12) hx hb (by decide) dX9_unitPrice_5 (by decide) ?_
  refine lv_aload_n hx hb dX9_unitPrice_12 rfl (lv_at hl 0 rfl) ?_
  refine va_get (D := (dC, dI)) (ci := 9) (v := .ref o0) (C := RX9) (T := TX9) (N := 9) hx hb hts i_X9 hown hK hP 0 rfl rfl 0 (by decide) k_12 (fun _ h9 => h9) rfl dX9_unitPrice_13 ?_
  refine lv_iload_n hx hb dX9_unitPrice_16 rfl (lv_at hl 1 rfl) ?_
  refine xkRf (xV (As := [.int (nI kb)]) (rest := []) (wc := [(o0, .inr (8, [.ref o1, .ref o6, o0_orders, .ref o31, o0_log, o0_settings, o0_rebate, o0_day])), (o6, .inr (0, [.int (nI bz), .ref o7, o6_came, .ref o9, o6_shelf, o6_sold, o6_given, o6_cents, o6_wasted])), (o9, .inl (cI, 40, .inl left)), (o7, .inl (cI, 40, .inl good)), (o1, .inr (3, [o1_size, .ref o2, .ref o3, o1_listed, o1_list])), (o3, .inl (cI, 12, .inl life)), (o2, .inl (cI, 12, .inl price)), (o31, .inr (7, [.ref o32, .ref o33])), (o32, .inl (cI, 4, .inl share)), (o33, .inl (cF, 4, .inr (.inr (.inl (xfl md)))))]) hx hb hml hown hts (c_X8_priceOfUnit l dC dI cI cF cC cZ cQ cS o0 o1 o6 o0_orders o31 o0_log o0_settings o0_rebate o0_day (.int (nI bz)) o7 o6_came o9 o6_shelf o6_sold o6_given o6_cents o6_wasted left good o1_size o2 o3 o1_listed o1_list life price o32 o33 share (xfl md) kb (by omega) hgb hmd) 1 gX9_unitPrice_X8_priceOfUnit rfl rfl rfl hdV_X8_priceOfUnit ⟨Nat.le_of_ble_eq_true rfl, Nat.le_of_ble_eq_true rfl⟩ hN hK hP hD [1, 5, 7, 6, 2, 4, 3, 8, 9, 10] rfl rfl 8 1 rfl rfl rfl hl.1 rfl (Nat.le_of_ble_eq_true rfl) dX9_unitPrice_17 ⟨Nat.zero_le _, Nat.zero_le _⟩) (fun r_2 hr_2 => ?_)
  obtain rfl : r_2 = xprice (price (good kb).toNatClampNeg) ((xfl md) (xstg share left life good kb)) := hr_2
  exact W.fret (v := xprice (price (good kb).toNatClampNeg) ((xfl md) (xstg share left life good kb))) hx hb hr (fun t ht hW => ⟨_, rfl, (show xprice (price (good kb).toNatClampNeg) ((xfl md) (xstg share left life good kb)) = xprice (price (good kb).toNatClampNeg) (xfl md (xstg share left life good kb)) from rfl), ht⟩) (fun q h => by cases h) dX9_unitPrice_20
theorem hdV_X9_markdown : yX9_markdown.cls = RX9 ∧ yX9_markdown.cls ≠ "java/lang/invoke/MethodHandle" ∧ yX9_markdown.cls ≠ "java/lang/invoke/VarHandle" ∧ (parseMethodDescriptor yX9_markdown.desc).map (fun d => d.parameters.length) = some 1 := by decide +kernel
set_option maxHeartbeats 4000000 in
set_option maxRecDepth 100000 in
theorem c_X9_markdownu (l : Launch) (dC : Nat → ClassId) (dI : Nat → Nat → Nat) (cI cF cC cZ cQ cS : ClassId) (x0 : Nat) (x0_now : Value) (x0_snapshot : Value) (x0_trial : Value) (x0_history : Value) (x0_filling : Value) (x0_delivery : Value) (x0_text : Value) (x0_textLength : Value) (x0_hasSnapshot : Value) (sq : Int32) (hg : ¬ xhas sq 4) : Met l yX9_markdown wsX9_markdown ({ frames := 2, cells := 0, slots := 0, locals := 42 }) (xPre (dC, dI) vwCl [.ref x0, .int sq] (xtys cI cF cC cZ cQ cS) [(x0, .inr (9, [x0_now, x0_snapshot, x0_trial, x0_history, x0_filling, x0_delivery, x0_text, x0_textLength, x0_hasSnapshot]))]) (vp_Sf (fun r0 => r0 = 2143289344)) 0 0 (fun _ => False) := by
  refine Met.ofW (cc := cX9_markdown) (maxL := 2) (ret := (some .float)) (by decide) rfl ?_
  intro p e s m args below meth c s₁ B hml hv
  obtain ⟨rfl, hP, hK, hD0, hN⟩ := hv
  have hx := B.exec
  have hb := B.bytes
  have hr := B.returns
  have hts := atoms_spec (ws := wsX9_markdown) B.pre
  have hown : s.vm.findClass RX9 = some m.cls := findClass_of_methodNamed B.named
  have hlocks := B.notSynchronized
  have hD := hD0
  have hl := lv_entry ([.ref x0, .int sq]) (n := 2) (Nat.le_of_ble_eq_true rfl)
  rw [lg_entry_eq]
  generalize (lg_sl ([.ref x0, .int sq]) ++ List.replicate (2 - (lg_sl ([.ref x0, .int sq])).length) Slot.unset).toArray = ls at hl ⊢
  have hl : lv_has ls 2 [(0, .ref x0), (1, .int sq)] := hl
  refine lv_iload_n hx hb dX9_markdown_0 rfl (lv_at hl 1 rfl) ?_
  refine xkRi (xSs (Ws' := ([] : List Cond)) (As := [.int sq]) (rest := []) (wc := []) hx hb hml hown hts (c_X9_isStage l dC dI cI cF cC cZ cQ cS sq) 1 (fun hR => va_cwS 1 hts gX9_markdown_X9_isStage rfl rfl rfl hdN_X9_isStage hR) ⟨Nat.le_of_ble_eq_true rfl, Nat.le_of_ble_eq_true rfl⟩ hN hK hP hD [] rfl rfl rfl hl.1 rfl (Nat.le_of_ble_eq_true rfl) dX9_markdown_1 ⟨Nat.zero_le _, Nat.zero_le _⟩) (fun r_1 hr_1 => ?_)
  have hr_1 : r_1 = (if xhas sq 4 then nI 1 else nI 0) := hr_1
  obtain rfl : r_1 = nI 0 := hr_1.trans (if_neg hg)
  refine xr_ifn0 (tgt := 11) hx hb (by decide) dX9_markdown_4 (by decide) ?_
  refine xkRf (xSs (Ws' := ([] : List Cond)) (As := []) (rest := []) (wc := []) hx hb hml hown hts (c_X9_notANumber l dC dI cI cF cC cZ cQ cS) 0 (fun hR => va_cwS 0 hts gX9_markdown_X9_notANumber rfl rfl rfl hdN_X9_notANumber hR) ⟨Nat.le_of_ble_eq_true rfl, Nat.le_of_ble_eq_true rfl⟩ hN hK hP hD [] rfl rfl rfl hl.1 rfl (Nat.le_of_ble_eq_true rfl) dX9_markdown_7 ⟨Nat.zero_le _, Nat.zero_le _⟩) (fun r_2 hr_2 => ?_)
  obtain rfl : r_2 = 2143289344 := hr_2
  exact W.fret (v := 2143289344) hx hb hr (fun t ht hW => ⟨_, rfl, (show 2143289344 = 2143289344 from rfl), ht⟩) (fun q h => by cases h) dX9_markdown_10
set_option maxHeartbeats 4000000 in
set_option maxRecDepth 100000 in
theorem c_X9_markdowns (l : Launch) (dC : Nat → ClassId) (dI : Nat → Nat → Nat) (cI cF cC cZ cQ cS : ClassId) (x0 : Nat) (o0 : Nat) (x0_snapshot : Value) (x0_trial : Value) (x0_history : Value) (x0_filling : Value) (x0_delivery : Value) (x0_text : Value) (x0_textLength : Value) (x0_hasSnapshot : Value) (o0_goods : Value) (o0_batches : Value) (o0_orders : Value) (o31 : Nat) (o0_log : Value) (o0_settings : Value) (o0_rebate : Value) (o0_day : Value) (o32 : Nat) (o33 : Nat) (share : Nat → Int32) (md : Nat → Int32) (sn : Nat) (hsn : sn < 4) : Met l yX9_markdown wsX9_markdown ({ frames := 2, cells := 0, slots := 0, locals := 42 }) (xPre (dC, dI) vwCl [.ref x0, .int (nI sn)] (xtys cI cF cC cZ cQ cS) [(x0, .inr (9, [.ref o0, x0_snapshot, x0_trial, x0_history, x0_filling, x0_delivery, x0_text, x0_textLength, x0_hasSnapshot])), (o0, .inr (8, [o0_goods, o0_batches, o0_orders, .ref o31, o0_log, o0_settings, o0_rebate, o0_day])), (o31, .inr (7, [.ref o32, .ref o33])), (o32, .inl (cI, 4, .inl share)), (o33, .inl (cF, 4, .inr (.inr (.inl (xfl md)))))]) (vp_Sf (fun r0 => r0 = xf1 (md sn))) 0 0 (fun _ => False) := by
  refine Met.ofW (cc := cX9_markdown) (maxL := 2) (ret := (some .float)) (by decide) rfl ?_
  intro p e s m args below meth c s₁ B hml hv
  obtain ⟨rfl, hP, hK, hD0, hN⟩ := hv
  have hx := B.exec
  have hb := B.bytes
  have hr := B.returns
  have hts := atoms_spec (ws := wsX9_markdown) B.pre
  have hown : s.vm.findClass RX9 = some m.cls := findClass_of_methodNamed B.named
  have hlocks := B.notSynchronized
  have k_111 := hts (Cond.fieldLink RX9 111 "ShelfStages$Stages" "markdown" "[F") (by decide +kernel)
  have k_12 := hts (Cond.fieldLink RX9 12 "ShelfStages" "now" "LShelfStages$State;") (by decide +kernel)
  have k_94 := hts (Cond.fieldLink RX9 94 "ShelfStages$State" "stages" "LShelfStages$Stages;") (by decide +kernel)
  have i_X7 : ∀ w ∈ wsX70, w ∈ wsX9_markdown := by decide +kernel
  have i_X8 : ∀ w ∈ wsX80, w ∈ wsX9_markdown := by decide +kernel
  have i_X9 : ∀ w ∈ wsX90, w ∈ wsX9_markdown := by decide +kernel
  have hD := hD0
  have hl := lv_entry ([.ref x0, .int (nI sn)]) (n := 2) (Nat.le_of_ble_eq_true rfl)
  rw [lg_entry_eq]
  generalize (lg_sl ([.ref x0, .int (nI sn)]) ++ List.replicate (2 - (lg_sl ([.ref x0, .int (nI sn)])).length) Slot.unset).toArray = ls at hl ⊢
  have hl : lv_has ls 2 [(0, .ref x0), (1, .int (nI sn))] := hl
  refine lv_iload_n hx hb dX9_markdown_0 rfl (lv_at hl 1 rfl) ?_
  refine xkRi (xSs (Ws' := ([] : List Cond)) (As := [.int (nI sn)]) (rest := []) (wc := []) hx hb hml hown hts (c_X9_isStage l dC dI cI cF cC cZ cQ cS (nI sn)) 1 (fun hR => va_cwS 1 hts gX9_markdown_X9_isStage rfl rfl rfl hdN_X9_isStage hR) ⟨Nat.le_of_ble_eq_true rfl, Nat.le_of_ble_eq_true rfl⟩ hN hK hP hD [] rfl rfl rfl hl.1 rfl (Nat.le_of_ble_eq_true rfl) dX9_markdown_1 ⟨Nat.zero_le _, Nat.zero_le _⟩) (fun r_1 hr_1 => ?_)
  have hr_1 : r_1 = (if xhas (nI sn) 4 then nI 1 else nI 0) := hr_1
  obtain rfl : r_1 = nI 1 := hr_1.trans (if_pos (xhas_of hsn (by decide)))
  refine xr_ifn1 (tgt := 11) hx hb (by decide) dX9_markdown_4 (by decide) ?_
  refine lv_aload_n hx hb dX9_markdown_11 rfl (lv_at hl 0 rfl) ?_
  refine va_get (D := (dC, dI)) (ci := 9) (v := .ref o0) (C := RX9) (T := TX9) (N := 9) hx hb hts i_X9 hown hK hP 0 rfl rfl 0 (by decide) k_12 (fun _ h9 => h9) rfl dX9_markdown_12 ?_
  refine va_get (D := (dC, dI)) (ci := 8) (v := .ref o31) (C := RX8) (T := TX8) (N := 8) hx hb hts i_X8 hown hK hP 1 rfl rfl 3 (by decide) k_94 (fun _ h9 => h9) rfl dX9_markdown_15 ?_
  refine va_get (D := (dC, dI)) (ci := 7) (v := .ref o33) (C := RX7) (T := TX7) (N := 2) hx hb hts i_X7 hown hK hP 2 rfl rfl 1 (by decide) k_111 (fun _ h9 => h9) rfl dX9_markdown_18 ?_
  refine lv_iload_n hx hb dX9_markdown_21 rfl (lv_at hl 1 rfl) ?_
  refine xr_fald hx hb hK hP 4 1 rfl rfl (i := sn) (by omega) (by decide) dX9_markdown_22 ?_
  exact W.fret (v := (xfl md) sn) hx hb hr (fun t ht hW => ⟨_, rfl, (show (xfl md) sn = xf1 (md sn) from rfl), ht⟩) (fun q h => by cases h) dX9_markdown_23
