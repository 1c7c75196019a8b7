theorem hdV_X9_substitute : yX9_substitute.cls = RX9 ∧ yX9_substitute.cls ≠ "java/lang/invoke/MethodHandle" ∧ yX9_substitute.cls ≠ "java/lang/invoke/VarHandle" ∧ (parseMethodDescriptor yX9_substitute.desc).map (fun d => d.parameters.length) = some 2 := by decide +kernel
set_option maxHeartbeats 4000000 in
set_option maxRecDepth 100000 in
theorem c_X9_substituteu (l : Launch) (dC : Nat → ClassId) (dI : Nat → Nat → Nat) (cI cF cC cZ cQ cS : ClassId) (x0 : Nat) (o0 : Nat) (x0_snapshot : Value) (x0_trial : Value) (x0_history : Value) (x0_filling : Value) (x0_delivery : Value) (x0_text : Value) (x0_textLength : Value) (x0_hasSnapshot : Value) (o1 : Nat) (o0_batches : Value) (o0_orders : Value) (o0_stages : Value) (o0_log : Value) (o0_settings : Value) (o0_rebate : Value) (o0_day : Value) (gz : Nat) (o1_price : Value) (o1_life : Value) (o4 : Nat) (o1_list : Value) (listed : Nat → Int32) (gq : Int32) (v : Int32) (hgz : gz ≤ 12) (hg : ¬ xhas gq gz) : Met l yX9_substitute wsX9_substitute ({ frames := 3, cells := 0, slots := 0, locals := 65 }) (xPre (dC, dI) vwCl [.ref x0, .int gq, .int v] (xtys cI cF cC cZ cQ cS) [(x0, .inr (9, [.ref o0, x0_snapshot, x0_trial, x0_history, x0_filling, x0_delivery, x0_text, x0_textLength, x0_hasSnapshot])), (o0, .inr (8, [.ref o1, o0_batches, o0_orders, o0_stages, o0_log, o0_settings, o0_rebate, o0_day])), (o1, .inr (3, [.int (nI gz), o1_price, o1_life, .ref o4, o1_list])), (o4, .inl (cI, 12, .inl listed))]) (vp_Si (fun r0 => r0 = (-1))) 0 0 (fun _ => False) := by
  refine Met.ofW (cc := cX9_substitute) (maxL := 4) (ret := (some .int)) (by decide) rfl ?_
  intro p e s m args below meth c s₁ B hml hv
  obtain ⟨rfl, hP, hK, hD0, hN⟩ := hv
  have hx := B.exec
  have hb := B.bytes
  have hr := B.returns
  have hts := atoms_spec (ws := wsX9_substitute) B.pre
  have hown : s.vm.findClass RX9 = some m.cls := findClass_of_methodNamed B.named
  have hlocks := B.notSynchronized
  have hD := hD0
  have hl := lv_entry ([.ref x0, .int gq, .int v]) (n := 4) (Nat.le_of_ble_eq_true rfl)
  rw [lg_entry_eq]
  generalize (lg_sl ([.ref x0, .int gq, .int v]) ++ List.replicate (4 - (lg_sl ([.ref x0, .int gq, .int v])).length) Slot.unset).toArray = ls at hl ⊢
  have hl : lv_has ls 4 [(0, .ref x0), (1, .int gq), (2, .int v)] := hl
  refine lv_aload_n hx hb dX9_substitute_0 rfl (lv_at hl 0 rfl) ?_
  refine lv_iload_n hx hb dX9_substitute_1 rfl (lv_at hl 1 rfl) ?_
  refine lv_iload_n hx hb dX9_substitute_2 rfl (lv_at hl 2 rfl) ?_
  refine xkRi (xV (As := [.int gq, .int v]) (rest := []) (wc := [(x0, .inr (9, [.ref o0, x0_snapshot, x0_trial, x0_history, x0_filling, x0_delivery, x0_text, x0_textLength, x0_hasSnapshot])), (o0, .inr (8, [.ref o1, o0_batches, o0_orders, o0_stages, o0_log, o0_settings, o0_rebate, o0_day])), (o1, .inr (3, [.int (nI gz), o1_price, o1_life, .ref o4, o1_list])), (o4, .inl (cI, 12, .inl listed))]) hx hb hml hown hts (c_X9_placeError l dC dI cI cF cC cZ cQ cS x0 o0 x0_snapshot x0_trial x0_history x0_filling x0_delivery x0_text x0_textLength x0_hasSnapshot o1 o0_batches o0_orders o0_stages o0_log o0_settings o0_rebate o0_day gz o1_price o1_life o4 o1_list listed gq v (by omega)) 2 gX9_substitute_X9_placeError rfl rfl rfl hdV_X9_placeError ⟨Nat.le_of_ble_eq_true rfl, Nat.le_of_ble_eq_true rfl⟩ hN hK hP hD [0, 1, 2, 3] rfl rfl 9 0 rfl rfl rfl hl.1 rfl (Nat.le_of_ble_eq_true rfl) dX9_substitute_3 ⟨Nat.zero_le _, Nat.zero_le _⟩) (fun r_1 hr_1 => ?_)
  obtain rfl : r_1 = xplerr gq v gz listed := hr_1
  refine xr_top (show xplerr gq v gz listed = (-1) from (xpl_unknown hg)) ?_
  refine lv_istore_n (lv' := [(3, .int (-1)), (0, .ref x0), (1, .int gq), (2, .int v)]) hx hb dX9_substitute_6 rfl hl (by decide) rfl (fun ls hl => ?_)
  refine lv_iload_n hx hb dX9_substitute_7 rfl (lv_at hl 0 rfl) ?_
  refine lv_if_eq (tgt := 13) hx hb dX9_substitute_8 (by decide) (fun c_2 => False.elim (by exact absurd c_2 (by decide))) (fun c_2 => ?_)
  refine lv_iload_n hx hb dX9_substitute_11 rfl (lv_at hl 0 rfl) ?_
  exact W.iret (v := (-1)) hx hb hr (fun t ht hW => ⟨_, rfl, (show (-1) = (-1) from rfl), ht⟩) (fun q h => by cases h) dX9_substitute_12
set_option maxHeartbeats 4000000 in
set_option maxRecDepth 100000 in
theorem c_X9_substitutee (l : Launch) (dC : Nat → ClassId) (dI : Nat → Nat → Nat) (cI cF cC cZ cQ cS : ClassId) (x0 : Nat) (o0 : Nat) (x0_snapshot : Value) (x0_trial : Value) (x0_history : Value) (x0_filling : Value) (x0_delivery : Value) (x0_text : Value) (x0_textLength : Value) (x0_hasSnapshot : Value) (o1 : Nat) (o0_batches : Value) (o0_orders : Value) (o0_stages : Value) (o0_log : Value) (o0_settings : Value) (o0_rebate : Value) (o0_day : Value) (gz : Nat) (o1_price : Value) (o1_life : Value) (o4 : Nat) (o1_list : Value) (listed : Nat → Int32) (kg : Nat) (v : Int32) (hgz : gz ≤ 12) (hk : kg < gz) (he : ¬ ePl v (listed kg) = 0) : Met l yX9_substitute wsX9_substitute ({ frames := 3, cells := 0, slots := 0, locals := 65 }) (xPre (dC, dI) vwCl [.ref x0, .int (nI kg), .int v] (xtys cI cF cC cZ cQ cS) [(x0, .inr (9, [.ref o0, x0_snapshot, x0_trial, x0_history, x0_filling, x0_delivery, x0_text, x0_textLength, x0_hasSnapshot])), (o0, .inr (8, [.ref o1, o0_batches, o0_orders, o0_stages, o0_log, o0_settings, o0_rebate, o0_day])), (o1, .inr (3, [.int (nI gz), o1_price, o1_life, .ref o4, o1_list])), (o4, .inl (cI, 12, .inl listed))]) (vp_Si (fun r0 => r0 = ePl v (listed kg))) 0 0 (fun _ => False) := by
  refine Met.ofW (cc := cX9_substitute) (maxL := 4) (ret := (some .int)) (by decide) rfl ?_
  intro p e s m args below meth c s₁ B hml hv
  obtain ⟨rfl, hP, hK, hD0, hN⟩ := hv
  have hx := B.exec
  have hb := B.bytes
  have hr := B.returns
  have hts := atoms_spec (ws := wsX9_substitute) B.pre
  have hown : s.vm.findClass RX9 = some m.cls := findClass_of_methodNamed B.named
  have hlocks := B.notSynchronized
  have hD := hD0
  have hl := lv_entry ([.ref x0, .int (nI kg), .int v]) (n := 4) (Nat.le_of_ble_eq_true rfl)
  rw [lg_entry_eq]
  generalize (lg_sl ([.ref x0, .int (nI kg), .int v]) ++ List.replicate (4 - (lg_sl ([.ref x0, .int (nI kg), .int v])).length) Slot.unset).toArray = ls at hl ⊢
  have hl : lv_has ls 4 [(0, .ref x0), (1, .int (nI kg)), (2, .int v)] := hl
  refine lv_aload_n hx hb dX9_substitute_0 rfl (lv_at hl 0 rfl) ?_
  refine lv_iload_n hx hb dX9_substitute_1 rfl (lv_at hl 1 rfl) ?_
  refine lv_iload_n hx hb dX9_substitute_2 rfl (lv_at hl 2 rfl) ?_
  refine xkRi (xV (As := [.int (nI kg), .int v]) (rest := []) (wc := [(x0, .inr (9, [.ref o0, x0_snapshot, x0_trial, x0_history, x0_filling, x0_delivery, x0_text, x0_textLength, x0_hasSnapshot])), (o0, .inr (8, [.ref o1, o0_batches, o0_orders, o0_stages, o0_log, o0_settings, o0_rebate, o0_day])), (o1, .inr (3, [.int (nI gz), o1_price, o1_life, .ref o4, o1_list])), (o4, .inl (cI, 12, .inl listed))]) hx hb hml hown hts (c_X9_placeError l dC dI cI cF cC cZ cQ cS x0 o0 x0_snapshot x0_trial x0_history x0_filling x0_delivery x0_text x0_textLength x0_hasSnapshot o1 o0_batches o0_orders o0_stages o0_log o0_settings o0_rebate o0_day gz o1_price o1_life o4 o1_list listed (nI kg) v (by omega)) 2 gX9_substitute_X9_placeError rfl rfl rfl hdV_X9_placeError ⟨Nat.le_of_ble_eq_true rfl, Nat.le_of_ble_eq_true rfl⟩ hN hK hP hD [0, 1, 2, 3] rfl rfl 9 0 rfl rfl rfl hl.1 rfl (Nat.le_of_ble_eq_true rfl) dX9_substitute_3 ⟨Nat.zero_le _, Nat.zero_le _⟩) (fun r_1 hr_1 => ?_)
  obtain rfl : r_1 = xplerr (nI kg) v gz listed := hr_1
  refine xr_top (show xplerr (nI kg) v gz listed = ePl v (listed kg) from (xpl_known hk hgz)) ?_
  refine lv_istore_n (lv' := [(3, .int (ePl v (listed kg))), (0, .ref x0), (1, .int (nI kg)), (2, .int v)]) hx hb dX9_substitute_6 rfl hl (by decide) rfl (fun ls hl => ?_)
  refine lv_iload_n hx hb dX9_substitute_7 rfl (lv_at hl 0 rfl) ?_
  refine lv_if_eq (tgt := 13) hx hb dX9_substitute_8 (by decide) (fun c_2 => False.elim (by exact he c_2)) (fun c_2 => ?_)
  refine lv_iload_n hx hb dX9_substitute_11 rfl (lv_at hl 0 rfl) ?_
  exact W.iret (v := ePl v (listed kg)) hx hb hr (fun t ht hW => ⟨_, rfl, (show ePl v (listed kg) = ePl v (listed kg) from rfl), ht⟩) (fun q h => by cases h) dX9_substitute_12
theorem hdV_X10_substitute : yX10_substitute.cls = RX10 ∧ yX10_substitute.cls ≠ "java/lang/invoke/MethodHandle" ∧ yX10_substitute.cls ≠ "java/lang/invoke/VarHandle" ∧ (parseMethodDescriptor yX10_substitute.desc).map (fun d => d.parameters.length) = some 2 := by decide +kernel
set_option maxHeartbeats 4000000 in
set_option maxRecDepth 100000 in
theorem c_X10_substituteu (l : Launch) (dC : Nat → ClassId) (dI : Nat → Nat → Nat) (cI cF cC cZ cQ cS : ClassId) (h0 : Nat) (zq : Nat) (h0_past : Value) (h0_kept : Value) (h0_spare : Value) (h0_pastMany : Value) (h0_isKept : Value) (h0_text : Value) (h0_typed : Value) (h0_isUsed : Value) (h0_planBatch : Value) (h0_planUnits : Value) (h0_planCents : Value) (h0_planMany : Value) (h0_planGot : Value) (h0_planSubstitutes : Value) (h0_at : Value) (h0_fault : Value) (h0_entries : Value) (h0_entry : Value) (z : Nat → Int32) (gz : Nat) (gq : Int32) (v : Int32) (hz1 : z 1 = nI gz) (hgz : gz ≤ 12) (hg : ¬ xhas gq gz) : Met l yX10_substitute wsX10_substitute ({ frames := 1, cells := 0, slots := 0, locals := 21 }) (xPre (dC, dI) vwCl [.ref h0, .int gq, .int v] (xtys cI cF cC cZ cQ cS) [(h0, .inr (10, [.ref zq, h0_past, h0_kept, h0_spare, h0_pastMany, h0_isKept, h0_text, h0_typed, h0_isUsed, h0_planBatch, h0_planUnits, h0_planCents, h0_planMany, h0_planGot, h0_planSubstitutes, h0_at, h0_fault, h0_entries, h0_entry])), (zq, .inl (cI, 1002, .inl z))]) (vp_Si (fun r0 => r0 = (-1))) 0 0 (fun _ => False) := by
  refine Met.ofW (cc := cX10_substitute) (maxL := 3) (ret := (some .int)) (by decide) rfl ?_
  intro p e s m args below meth c s₁ B hml hv
  obtain ⟨rfl, hP, hK, hD0, hN⟩ := hv
  have hx := B.exec
  have hb := B.bytes
  have hr := B.returns
  have hts := atoms_spec (ws := wsX10_substitute) B.pre
  have hown : s.vm.findClass RX10 = some m.cls := findClass_of_methodNamed B.named
  have hlocks := B.notSynchronized
  have hD := hD0
  have hl := lv_entry ([.ref h0, .int gq, .int v]) (n := 3) (Nat.le_of_ble_eq_true rfl)
  rw [lg_entry_eq]
  generalize (lg_sl ([.ref h0, .int gq, .int v]) ++ List.replicate (3 - (lg_sl ([.ref h0, .int gq, .int v])).length) Slot.unset).toArray = ls at hl ⊢
  have hl : lv_has ls 3 [(0, .ref h0), (1, .int gq), (2, .int v)] := hl
  refine lv_aload_n hx hb dX10_substitute_0 rfl (lv_at hl 0 rfl) ?_
  refine lv_iload_n hx hb dX10_substitute_1 rfl (lv_at hl 1 rfl) ?_
  refine xkRi (xV (As := [.int gq]) (rest := []) (wc := [(h0, .inr (10, [.ref zq, h0_past, h0_kept, h0_spare, h0_pastMany, h0_isKept, h0_text, h0_typed, h0_isUsed, h0_planBatch, h0_planUnits, h0_planCents, h0_planMany, h0_planGot, h0_planSubstitutes, h0_at, h0_fault, h0_entries, h0_entry])), (zq, .inl (cI, 1002, .inl z))]) hx hb hml hown hts (c_X10_isGood l dC dI cI cF cC cZ cQ cS h0 zq h0_past h0_kept h0_spare h0_pastMany h0_isKept h0_text h0_typed h0_isUsed h0_planBatch h0_planUnits h0_planCents h0_planMany h0_planGot h0_planSubstitutes h0_at h0_fault h0_entries h0_entry z gq gz (by omega) (by omega)) 1 gX10_substitute_X10_isGood rfl rfl rfl hdV_X10_isGood ⟨Nat.le_of_ble_eq_true rfl, Nat.le_of_ble_eq_true rfl⟩ hN hK hP hD [0, 1] rfl rfl 10 0 rfl rfl rfl hl.1 rfl (Nat.le_of_ble_eq_true rfl) dX10_substitute_2 ⟨Nat.zero_le _, Nat.zero_le _⟩) (fun r_1 hr_1 => ?_)
  have hr_1 : r_1 = (if xhas gq gz then nI 1 else nI 0) := hr_1
  obtain rfl : r_1 = nI 0 := hr_1.trans (if_neg hg)
  refine xr_ifn0 (tgt := 10) hx hb (by decide) dX10_substitute_5 (by decide) ?_
  refine lv_iconst (v := (-1)) hx hb dX10_substitute_8 (by decide) ?_
  exact W.iret (v := (-1)) hx hb hr (fun t ht hW => ⟨_, rfl, (show (-1) = (-1) from rfl), ht⟩) (fun q h => by cases h) dX10_substitute_9
set_option maxHeartbeats 4000000 in
set_option maxRecDepth 100000 in
theorem c_X10_substitutee (l : Launch) (dC : Nat → ClassId) (dI : Nat → Nat → Nat) (cI cF cC cZ cQ cS : ClassId) (h0 : Nat) (zq : Nat) (h0_past : Value) (h0_kept : Value) (h0_spare : Value) (h0_pastMany : Value) (h0_isKept : Value) (h0_text : Value) (h0_typed : Value) (h0_isUsed : Value) (h0_planBatch : Value) (h0_planUnits : Value) (h0_planCents : Value) (h0_planMany : Value) (h0_planGot : Value) (h0_planSubstitutes : Value) (h0_at : Value) (h0_fault : Value) (h0_entries : Value) (h0_entry : Value) (z : Nat → Int32) (gz : Nat) (kg : Nat) (v : Int32) (hz1 : z 1 = nI gz) (hgz : gz ≤ 12) (hk : kg < gz) (he : ¬ ePl v (zG z kg 2) = nI 0) : Met l yX10_substitute wsX10_substitute ({ frames := 1, cells := 0, slots := 0, locals := 22 }) (xPre (dC, dI) vwCl [.ref h0, .int (nI kg), .int v] (xtys cI cF cC cZ cQ cS) [(h0, .inr (10, [.ref zq, h0_past, h0_kept, h0_spare, h0_pastMany, h0_isKept, h0_text, h0_typed, h0_isUsed, h0_planBatch, h0_planUnits, h0_planCents, h0_planMany, h0_planGot, h0_planSubstitutes, h0_at, h0_fault, h0_entries, h0_entry])), (zq, .inl (cI, 1002, .inl z))]) (vp_Si (fun r0 => r0 = ePl v (zG z kg 2))) 0 0 (fun _ => False) := by
  refine Met.ofW (cc := cX10_substitute) (maxL := 3) (ret := (some .int)) (by decide) rfl ?_
  intro p e s m args below meth c s₁ B hml hv
  obtain ⟨rfl, hP, hK, hD0, hN⟩ := hv
  have hx := B.exec
  have hb := B.bytes
  have hr := B.returns
  have hts := atoms_spec (ws := wsX10_substitute) B.pre
  have hown : s.vm.findClass RX10 = some m.cls := findClass_of_methodNamed B.named
  have hlocks := B.notSynchronized
  have hD := hD0
  have hl := lv_entry ([.ref h0, .int (nI kg), .int v]) (n := 3) (Nat.le_of_ble_eq_true rfl)
  rw [lg_entry_eq]
  generalize (lg_sl ([.ref h0, .int (nI kg), .int v]) ++ List.replicate (3 - (lg_sl ([.ref h0, .int (nI kg), .int v])).length) Slot.unset).toArray = ls at hl ⊢
  have hl : lv_has ls 3 [(0, .ref h0), (1, .int (nI kg)), (2, .int v)] := hl
  refine lv_aload_n hx hb dX10_substitute_0 rfl (lv_at hl 0 rfl) ?_
  refine lv_iload_n hx hb dX10_substitute_1 rfl (lv_at hl 1 rfl) ?_
  refine xkRi (xV (As := [.int (nI kg)]) (rest := []) (wc := [(h0, .inr (10, [.ref zq, h0_past, h0_kept, h0_spare, h0_pastMany, h0_isKept, h0_text, h0_typed, h0_isUsed, h0_planBatch, h0_planUnits, h0_planCents, h0_planMany, h0_planGot, h0_planSubstitutes, h0_at, h0_fault, h0_entries, h0_entry])), (zq, .inl (cI, 1002, .inl z))]) hx hb hml hown hts (c_X10_isGood l dC dI cI cF cC cZ cQ cS h0 zq h0_past h0_kept h0_spare h0_pastMany h0_isKept h0_text h0_typed h0_isUsed h0_planBatch h0_planUnits h0_planCents h0_planMany h0_planGot h0_planSubstitutes h0_at h0_fault h0_entries h0_entry z (nI kg) gz (by omega) (by omega)) 1 gX10_substitute_X10_isGood rfl rfl rfl hdV_X10_isGood ⟨Nat.le_of_ble_eq_true rfl, Nat.le_of_ble_eq_true rfl⟩ hN hK hP hD [0, 1] rfl rfl 10 0 rfl rfl rfl hl.1 rfl (Nat.le_of_ble_eq_true rfl) dX10_substitute_2 ⟨Nat.zero_le _, Nat.zero_le _⟩) (fun r_1 hr_1 => ?_)
  have hr_1 : r_1 = (if xhas (nI kg) gz then nI 1 else nI 0) := hr_1
  obtain rfl : r_1 = nI 1 := hr_1.trans (if_pos (xhas_of hk (by omega)))
  refine xr_ifn1 (tgt := 10) hx hb (by decide) dX10_substitute_5 (by decide) ?_
  refine lv_iload_n hx hb dX10_substitute_10 rfl (lv_at hl 2 rfl) ?_
  refine lv_if_ge (tgt := 17) hx hb dX10_substitute_11 (by decide) (fun c_2 => ?_) (fun c_2 => ?_)
  · skip
    refine lv_iload_n hx hb dX10_substitute_17 rfl (lv_at hl 2 rfl) ?_
    refine lv_aload_n hx hb dX10_substitute_18 rfl (lv_at hl 0 rfl) ?_
    refine lv_iload_n hx hb dX10_substitute_19 rfl (lv_at hl 1 rfl) ?_
    refine lv_iconst (v := nI 2) hx hb dX10_substitute_20 (by decide) ?_
    refine xkRi (xV (As := [.int (nI kg), .int (nI 2)]) (rest := [.int v]) (wc := [(h0, .inr (10, [.ref zq, h0_past, h0_kept, h0_spare, h0_pastMany, h0_isKept, h0_text, h0_typed, h0_isUsed, h0_planBatch, h0_planUnits, h0_planCents, h0_planMany, h0_planGot, h0_planSubstitutes, h0_at, h0_fault, h0_entries, h0_entry])), (zq, .inl (cI, 1002, .inl z))]) hx hb hml hown hts (c_X10_ofGood l dC dI cI cF cC cZ cQ cS h0 zq h0_past h0_kept h0_spare h0_pastMany h0_isKept h0_text h0_typed h0_isUsed h0_planBatch h0_planUnits h0_planCents h0_planMany h0_planGot h0_planSubstitutes h0_at h0_fault h0_entries h0_entry z kg 2 (by omega) (by omega)) 2 gX10_substitute_X10_ofGood rfl rfl rfl hdV_X10_ofGood ⟨Nat.le_of_ble_eq_true rfl, Nat.le_of_ble_eq_true rfl⟩ hN hK hP hD [0, 1] rfl rfl 10 0 rfl rfl rfl hl.1 rfl (Nat.le_of_ble_eq_true rfl) dX10_substitute_21 ⟨Nat.zero_le _, Nat.zero_le _⟩) (fun r_3 hr_3 => ?_)
    obtain rfl : r_3 = zG z kg 2 := hr_3
    refine lv_icmp_ge (tgt := 38) hx hb dX10_substitute_24 (by decide) (fun c_4 => ?_) (fun c_4 => False.elim (by exact he (by unfold ePl; rw [if_neg (Int32.not_lt.mpr c_2), if_neg c_4])))
    refine lv_bipush (v := (-5)) hx hb dX10_substitute_38 (by decide) ?_
    exact W.iret (v := (-5)) hx hb hr (fun t ht hW => ⟨_, rfl, (show (-5) = ePl v (zG z kg 2) from (by unfold ePl; rw [if_neg (Int32.not_lt.mpr c_2), if_pos c_4])), ht⟩) (fun q h => by cases h) dX10_substitute_40
  refine lv_bipush (v := (-2)) hx hb dX10_substitute_14 (by decide) ?_
  exact W.iret (v := (-2)) hx hb hr (fun t ht hW => ⟨_, rfl, (show (-2) = ePl v (zG z kg 2) from (by unfold ePl; rw [if_pos (Int32.not_le.mp c_2)])), ht⟩) (fun q h => by cases h) dX10_substitute_16
theorem hdV_X9_removeSubstitute : yX9_removeSubstitute.cls = RX9 ∧ yX9_removeSubstitute.cls ≠ "java/lang/invoke/MethodHandle" ∧ yX9_removeSubstitute.cls ≠ "java/lang/invoke/VarHandle" ∧ (parseMethodDescriptor yX9_removeSubstitute.desc).map (fun d => d.parameters.length) = some 2 := by decide +kernel
set_option maxHeartbeats 4000000 in
set_option maxRecDepth 100000 in
theorem c_X9_removeSubstituteu (l : Launch) (dC : Nat → ClassId) (dI : Nat → Nat → Nat) (cI cF cC cZ cQ cS : ClassId) (x0 : Nat) (o0 : Nat) (x0_snapshot : Value) (x0_trial : Value) (x0_history : Value) (x0_filling : Value) (x0_delivery : Value) (x0_text : Value) (x0_textLength : Value) (x0_hasSnapshot : Value) (o1 : Nat) (o0_batches : Value) (o0_orders : Value) (o0_stages : Value) (o0_log : Value) (o0_settings : Value) (o0_rebate : Value) (o0_day : Value) (gz : Nat) (o1_price : Value) (o1_life : Value) (o4 : Nat) (o1_list : Value) (listed : Nat → Int32) (gq : Int32) (v : Int32) (hgz : gz ≤ 12) (hg : ¬ xhas gq gz) : Met l yX9_removeSubstitute wsX9_removeSubstitute ({ frames := 3, cells := 0, slots := 0, locals := 65 }) (xPre (dC, dI) vwCl [.ref x0, .int gq, .int v] (xtys cI cF cC cZ cQ cS) [(x0, .inr (9, [.ref o0, x0_snapshot, x0_trial, x0_history, x0_filling, x0_delivery, x0_text, x0_textLength, x0_hasSnapshot])), (o0, .inr (8, [.ref o1, o0_batches, o0_orders, o0_stages, o0_log, o0_settings, o0_rebate, o0_day])), (o1, .inr (3, [.int (nI gz), o1_price, o1_life, .ref o4, o1_list])), (o4, .inl (cI, 12, .inl listed))]) (vp_Si (fun r0 => r0 = (-1))) 0 0 (fun _ => False) := by
  refine Met.ofW (cc := cX9_removeSubstitute) (maxL := 4) (ret := (some .int)) (by decide) rfl ?_
  intro p e s m args below meth c s₁ B hml hv
  obtain ⟨rfl, hP, hK, hD0, hN⟩ := hv
  have hx := B.exec
  have hb := B.bytes
  have hr := B.returns
  have hts := atoms_spec (ws := wsX9_removeSubstitute) B.pre
  have hown : s.vm.findClass RX9 = some m.cls := findClass_of_methodNamed B.named
  have hlocks := B.notSynchronized
  have hD := hD0
  have hl := lv_entry ([.ref x0, .int gq, .int v]) (n := 4) (Nat.le_of_ble_eq_true rfl)
  rw [lg_entry_eq]
  generalize (lg_sl ([.ref x0, .int gq, .int v]) ++ List.replicate (4 - (lg_sl ([.ref x0, .int gq, .int v])).length) Slot.unset).toArray = ls at hl ⊢
  have hl : lv_has ls 4 [(0, .ref x0), (1, .int gq), (2, .int v)] := hl
  refine lv_aload_n hx hb dX9_removeSubstitute_0 rfl (lv_at hl 0 rfl) ?_
  refine lv_iload_n hx hb dX9_removeSubstitute_1 rfl (lv_at hl 1 rfl) ?_
  refine lv_iload_n hx hb dX9_removeSubstitute_2 rfl (lv_at hl 2 rfl) ?_
  refine xkRi (xV (As := [.int gq, .int v]) (rest := []) (wc := [(x0, .inr (9, [.ref o0, x0_snapshot, x0_trial, x0_history, x0_filling, x0_delivery, x0_text, x0_textLength, x0_hasSnapshot])), (o0, .inr (8, [.ref o1, o0_batches, o0_orders, o0_stages, o0_log, o0_settings, o0_rebate, o0_day])), (o1, .inr (3, [.int (nI gz), o1_price, o1_life, .ref o4, o1_list])), (o4, .inl (cI, 12, .inl listed))]) hx hb hml hown hts (c_X9_placeError l dC dI cI cF cC cZ cQ cS x0 o0 x0_snapshot x0_trial x0_history x0_filling x0_delivery x0_text x0_textLength x0_hasSnapshot o1 o0_batches o0_orders o0_stages o0_log o0_settings o0_rebate o0_day gz o1_price o1_life o4 o1_list listed gq v (by omega)) 2 gX9_removeSubstitute_X9_placeError rfl rfl rfl hdV_X9_placeError ⟨Nat.le_of_ble_eq_true rfl, Nat.le_of_ble_eq_true rfl⟩ hN hK hP hD [0, 1, 2, 3] rfl rfl 9 0 rfl rfl rfl hl.1 rfl (Nat.le_of_ble_eq_true rfl) dX9_removeSubstitute_3 ⟨Nat.zero_le _, Nat.zero_le _⟩) (fun r_1 hr_1 => ?_)
  obtain rfl : r_1 = xplerr gq v gz listed := hr_1
  refine xr_top (show xplerr gq v gz listed = (-1) from (xpl_unknown hg)) ?_
  refine lv_istore_n (lv' := [(3, .int (-1)), (0, .ref x0), (1, .int gq), (2, .int v)]) hx hb dX9_removeSubstitute_6 rfl hl (by decide) rfl (fun ls hl => ?_)
  refine lv_iload_n hx hb dX9_removeSubstitute_7 rfl (lv_at hl 0 rfl) ?_
  refine lv_if_eq (tgt := 13) hx hb dX9_removeSubstitute_8 (by decide) (fun c_2 => False.elim (by exact absurd c_2 (by decide))) (fun c_2 => ?_)
  refine lv_iload_n hx hb dX9_removeSubstitute_11 rfl (lv_at hl 0 rfl) ?_
  exact W.iret (v := (-1)) hx hb hr (fun t ht hW => ⟨_, rfl, (show (-1) = (-1) from rfl), ht⟩) (fun q h => by cases h) dX9_removeSubstitute_12
set_option maxHeartbeats 4000000 in
set_option maxRecDepth 100000 in
theorem c_X9_removeSubstitutee (l : Launch) (dC : Nat → ClassId) (dI : Nat → Nat → Nat) (cI cF cC cZ cQ cS : ClassId) (x0 : Nat) (o0 : Nat) (x0_snapshot : Value) (x0_trial : Value) (x0_history : Value) (x0_filling : Value) (x0_delivery : Value) (x0_text : Value) (x0_textLength : Value) (x0_hasSnapshot : Value) (o1 : Nat) (o0_batches : Value) (o0_orders : Value) (o0_stages : Value) (o0_log : Value) (o0_settings : Value) (o0_rebate : Value) (o0_day : Value) (gz : Nat) (o1_price : Value) (o1_life : Value) (o4 : Nat) (o1_list : Value) (listed : Nat → Int32) (kg : Nat) (v : Int32) (hgz : gz ≤ 12) (hk : kg < gz) (he : ¬ ePl v (listed kg) = 0) : Met l yX9_removeSubstitute wsX9_removeSubstitute ({ frames := 3, cells := 0, slots := 0, locals := 65 }) (xPre (dC, dI) vwCl [.ref x0, .int (nI kg), .int v] (xtys cI cF cC cZ cQ cS) [(x0, .inr (9, [.ref o0, x0_snapshot, x0_trial, x0_history, x0_filling, x0_delivery, x0_text, x0_textLength, x0_hasSnapshot])), (o0, .inr (8, [.ref o1, o0_batches, o0_orders, o0_stages, o0_log, o0_settings, o0_rebate, o0_day])), (o1, .inr (3, [.int (nI gz), o1_price, o1_life, .ref o4, o1_list])), (o4, .inl (cI, 12, .inl listed))]) (vp_Si (fun r0 => r0 = ePl v (listed kg))) 0 0 (fun _ => False) := by
  refine Met.ofW (cc := cX9_removeSubstitute) (maxL := 4) (ret := (some .int)) (by decide) rfl ?_
  intro p e s m args below meth c s₁ B hml hv
  obtain ⟨rfl, hP, hK, hD0, hN⟩ := hv
  have hx := B.exec
  have hb := B.bytes
  have hr := B.returns
  have hts := atoms_spec (ws := wsX9_removeSubstitute) B.pre
  have hown : s.vm.findClass RX9 = some m.cls := findClass_of_methodNamed B.named
  have hlocks := B.notSynchronized
  have hD := hD0
  have hl := lv_entry ([.ref x0, .int (nI kg), .int v]) (n := 4) (Nat.le_of_ble_eq_true rfl)
  rw [lg_entry_eq]
  generalize (lg_sl ([.ref x0, .int (nI kg), .int v]) ++ List.replicate (4 - (lg_sl ([.ref x0, .int (nI kg), .int v])).length) Slot.unset).toArray = ls at hl ⊢
  have hl : lv_has ls 4 [(0, .ref x0), (1, .int (nI kg)), (2, .int v)] := hl
  refine lv_aload_n hx hb dX9_removeSubstitute_0 rfl (lv_at hl 0 rfl) ?_
  refine lv_iload_n hx hb dX9_removeSubstitute_1 rfl (lv_at hl 1 rfl) ?_
  refine lv_iload_n hx hb dX9_removeSubstitute_2 rfl (lv_at hl 2 rfl) ?_
  refine xkRi (xV (As := [.int (nI kg), .int v]) (rest := []) (wc := [(x0, .inr (9, [.ref o0, x0_snapshot, x0_trial, x0_history, x0_filling, x0_delivery, x0_text, x0_textLength, x0_hasSnapshot])), (o0, .inr (8, [.ref o1, o0_batches, o0_orders, o0_stages, o0_log, o0_settings, o0_rebate, o0_day])), (o1, .inr (3, [.int (nI gz), o1_price, o1_life, .ref o4, o1_list])), (o4, .inl (cI, 12, .inl listed))]) hx hb hml hown hts (c_X9_placeError l dC dI cI cF cC cZ cQ cS x0 o0 x0_snapshot x0_trial x0_history x0_filling x0_delivery x0_text x0_textLength x0_hasSnapshot o1 o0_batches o0_orders o0_stages o0_log o0_settings o0_rebate o0_day gz o1_price o1_life o4 o1_list listed (nI kg) v (by omega)) 2 gX9_removeSubstitute_X9_placeError rfl rfl rfl hdV_X9_placeError ⟨Nat.le_of_ble_eq_true rfl, Nat.le_of_ble_eq_true rfl⟩ hN hK hP hD [0, 1, 2, 3] rfl rfl 9 0 rfl rfl rfl hl.1 rfl (Nat.le_of_ble_eq_true rfl) dX9_removeSubstitute_3 ⟨Nat.zero_le _, Nat.zero_le _⟩) (fun r_1 hr_1 => ?_)
  obtain rfl : r_1 = xplerr (nI kg) v gz listed := hr_1
  refine xr_top (show xplerr (nI kg) v gz listed = ePl v (listed kg) from (xpl_known hk hgz)) ?_
  refine lv_istore_n (lv' := [(3, .int (ePl v (listed kg))), (0, .ref x0), (1, .int (nI kg)), (2, .int v)]) hx hb dX9_removeSubstitute_6 rfl hl (by decide) rfl (fun ls hl => ?_)
  refine lv_iload_n hx hb dX9_removeSubstitute_7 rfl (lv_at hl 0 rfl) ?_
  refine lv_if_eq (tgt := 13) hx hb dX9_removeSubstitute_8 (by decide) (fun c_2 => False.elim (by exact he c_2)) (fun c_2 => ?_)
  refine lv_iload_n hx hb dX9_removeSubstitute_11 rfl (lv_at hl 0 rfl) ?_
  exact W.iret (v := ePl v (listed kg)) hx hb hr (fun t ht hW => ⟨_, rfl, (show ePl v (listed kg) = ePl v (listed kg) from rfl), ht⟩) (fun q h => by cases h) dX9_removeSubstitute_12
theorem hdV_X10_removeSubstitute : yX10_removeSubstitute.cls = RX10 ∧ yX10_removeSubstitute.cls ≠ "java/lang/invoke/MethodHandle" ∧ yX10_removeSubstitute.cls ≠ "java/lang/invoke/VarHandle" ∧ (parseMethodDescriptor yX10_removeSubstitute.desc).map (fun d => d.parameters.length) = some 2 := by decide +kernel
set_option maxHeartbeats 4000000 in
set_option maxRecDepth 100000 in
theorem c_X10_removeSubstituteu (l : Launch) (dC : Nat → ClassId) (dI : Nat → Nat → Nat) (cI cF cC cZ cQ cS : ClassId) (h0 : Nat) (zq : Nat) (h0_past : Value) (h0_kept : Value) (h0_spare : Value) (h0_pastMany : Value) (h0_isKept : Value) (h0_text : Value) (h0_typed : Value) (h0_isUsed : Value) (h0_planBatch : Value) (h0_planUnits : Value) (h0_planCents : Value) (h0_planMany : Value) (h0_planGot : Value) (h0_planSubstitutes : Value) (h0_at : Value) (h0_fault : Value) (h0_entries : Value) (h0_entry : Value) (z : Nat → Int32) (gz : Nat) (gq : Int32) (v : Int32) (hz1 : z 1 = nI gz) (hgz : gz ≤ 12) (hg : ¬ xhas gq gz) : Met l yX10_removeSubstitute wsX10_removeSubstitute ({ frames := 1, cells := 0, slots := 0, locals := 21 }) (xPre (dC, dI) vwCl [.ref h0, .int gq, .int v] (xtys cI cF cC cZ cQ cS) [(h0, .inr (10, [.ref zq, h0_past, h0_kept, h0_spare, h0_pastMany, h0_isKept, h0_text, h0_typed, h0_isUsed, h0_planBatch, h0_planUnits, h0_planCents, h0_planMany, h0_planGot, h0_planSubstitutes, h0_at, h0_fault, h0_entries, h0_entry])), (zq, .inl (cI, 1002, .inl z))]) (vp_Si (fun r0 => r0 = (-1))) 0 0 (fun _ => False) := by
  refine Met.ofW (cc := cX10_removeSubstitute) (maxL := 7) (ret := (some .int)) (by decide) rfl ?_
  intro p e s m args below meth c s₁ B hml hv
  obtain ⟨rfl, hP, hK, hD0, hN⟩ := hv
  have hx := B.exec
  have hb := B.bytes
  have hr := B.returns
  have hts := atoms_spec (ws := wsX10_removeSubstitute) B.pre
  have hown : s.vm.findClass RX10 = some m.cls := findClass_of_methodNamed B.named
  have hlocks := B.notSynchronized
  have hD := hD0
  have hl := lv_entry ([.ref h0, .int gq, .int v]) (n := 7) (Nat.le_of_ble_eq_true rfl)
  rw [lg_entry_eq]
  generalize (lg_sl ([.ref h0, .int gq, .int v]) ++ List.replicate (7 - (lg_sl ([.ref h0, .int gq, .int v])).length) Slot.unset).toArray = ls at hl ⊢
  have hl : lv_has ls 7 [(0, .ref h0), (1, .int gq), (2, .int v)] := hl
  refine lv_aload_n hx hb dX10_removeSubstitute_0 rfl (lv_at hl 0 rfl) ?_
  refine lv_iload_n hx hb dX10_removeSubstitute_1 rfl (lv_at hl 1 rfl) ?_
  refine xkRi (xV (As := [.int gq]) (rest := []) (wc := [(h0, .inr (10, [.ref zq, h0_past, h0_kept, h0_spare, h0_pastMany, h0_isKept, h0_text, h0_typed, h0_isUsed, h0_planBatch, h0_planUnits, h0_planCents, h0_planMany, h0_planGot, h0_planSubstitutes, h0_at, h0_fault, h0_entries, h0_entry])), (zq, .inl (cI, 1002, .inl z))]) hx hb hml hown hts (c_X10_isGood l dC dI cI cF cC cZ cQ cS h0 zq h0_past h0_kept h0_spare h0_pastMany h0_isKept h0_text h0_typed h0_isUsed h0_planBatch h0_planUnits h0_planCents h0_planMany h0_planGot h0_planSubstitutes h0_at h0_fault h0_entries h0_entry z gq gz (by omega) (by omega)) 1 gX10_removeSubstitute_X10_isGood rfl rfl rfl hdV_X10_isGood ⟨Nat.le_of_ble_eq_true rfl, Nat.le_of_ble_eq_true rfl⟩ hN hK hP hD [0, 1] rfl rfl 10 0 rfl rfl rfl hl.1 rfl (Nat.le_of_ble_eq_true rfl) dX10_removeSubstitute_2 ⟨Nat.zero_le _, Nat.zero_le _⟩) (fun r_1 hr_1 => ?_)
  have hr_1 : r_1 = (if xhas gq gz then nI 1 else nI 0) := hr_1
  obtain rfl : r_1 = nI 0 := hr_1.trans (if_neg hg)
  refine xr_ifn0 (tgt := 10) hx hb (by decide) dX10_removeSubstitute_5 (by decide) ?_
  refine lv_iconst (v := (-1)) hx hb dX10_removeSubstitute_8 (by decide) ?_
  exact W.iret (v := (-1)) hx hb hr (fun t ht hW => ⟨_, rfl, (show (-1) = (-1) from rfl), ht⟩) (fun q h => by cases h) dX10_removeSubstitute_9
set_option maxHeartbeats 4000000 in
set_option maxRecDepth 100000 in
theorem c_X10_removeSubstitutee (l : Launch) (dC : Nat → ClassId) (dI : Nat → Nat → Nat) (cI cF cC cZ cQ cS : ClassId) (h0 : Nat) (zq : Nat) (h0_past : Value) (h0_kept : Value) (h0_spare : Value) (h0_pastMany : Value) (h0_isKept : Value) (h0_text : Value) (h0_typed : Value) (h0_isUsed : Value) (h0_planBatch : Value) (h0_planUnits : Value) (h0_planCents : Value) (h0_planMany : Value) (h0_planGot : Value) (h0_planSubstitutes : Value) (h0_at : Value) (h0_fault : Value) (h0_entries : Value) (h0_entry : Value) (z : Nat → Int32) (gz : Nat) (kg : Nat) (v : Int32) (hz1 : z 1 = nI gz) (hgz : gz ≤ 12) (hk : kg < gz) (he : ¬ ePl v (zG z kg 2) = nI 0) : Met l yX10_removeSubstitute wsX10_removeSubstitute ({ frames := 1, cells := 0, slots := 0, locals := 22 }) (xPre (dC, dI) vwCl [.ref h0, .int (nI kg), .int v] (xtys cI cF cC cZ cQ cS) [(h0, .inr (10, [.ref zq, h0_past, h0_kept, h0_spare, h0_pastMany, h0_isKept, h0_text, h0_typed, h0_isUsed, h0_planBatch, h0_planUnits, h0_planCents, h0_planMany, h0_planGot, h0_planSubstitutes, h0_at, h0_fault, h0_entries, h0_entry])), (zq, .inl (cI, 1002, .inl z))]) (vp_Si (fun r0 => r0 = ePl v (zG z kg 2))) 0 0 (fun _ => False) := by
  refine Met.ofW (cc := cX10_removeSubstitute) (maxL := 7) (ret := (some .int)) (by decide) rfl ?_
  intro p e s m args below meth c s₁ B hml hv
  obtain ⟨rfl, hP, hK, hD0, hN⟩ := hv
  have hx := B.exec
  have hb := B.bytes
  have hr := B.returns
  have hts := atoms_spec (ws := wsX10_removeSubstitute) B.pre
  have hown : s.vm.findClass RX10 = some m.cls := findClass_of_methodNamed B.named
  have hlocks := B.notSynchronized
  have hD := hD0
  have hl := lv_entry ([.ref h0, .int (nI kg), .int v]) (n := 7) (Nat.le_of_ble_eq_true rfl)
  rw [lg_entry_eq]
  generalize (lg_sl ([.ref h0, .int (nI kg), .int v]) ++ List.replicate (7 - (lg_sl ([.ref h0, .int (nI kg), .int v])).length) Slot.unset).toArray = ls at hl ⊢
  have hl : lv_has ls 7 [(0, .ref h0), (1, .int (nI kg)), (2, .int v)] := hl
  refine lv_aload_n hx hb dX10_removeSubstitute_0 rfl (lv_at hl 0 rfl) ?_
  refine lv_iload_n hx hb dX10_removeSubstitute_1 rfl (lv_at hl 1 rfl) ?_
  refine xkRi (xV (As := [.int (nI kg)]) (rest := []) (wc := [(h0, .inr (10, [.ref zq, h0_past, h0_kept, h0_spare, h0_pastMany, h0_isKept, h0_text, h0_typed, h0_isUsed, h0_planBatch, h0_planUnits, h0_planCents, h0_planMany, h0_planGot, h0_planSubstitutes, h0_at, h0_fault, h0_entries, h0_entry])), (zq, .inl (cI, 1002, .inl z))]) hx hb hml hown hts (c_X10_isGood l dC dI cI cF cC cZ cQ cS h0 zq h0_past h0_kept h0_spare h0_pastMany h0_isKept h0_text h0_typed h0_isUsed h0_planBatch h0_planUnits h0_planCents h0_planMany h0_planGot h0_planSubstitutes h0_at h0_fault h0_entries h0_entry z (nI kg) gz (by omega) (by omega)) 1 gX10_removeSubstitute_X10_isGood rfl rfl rfl hdV_X10_isGood ⟨Nat.le_of_ble_eq_true rfl, Nat.le_of_ble_eq_true rfl⟩ hN hK hP hD [0, 1] rfl rfl 10 0 rfl rfl rfl hl.1 rfl (Nat.le_of_ble_eq_true rfl) dX10_removeSubstitute_2 ⟨Nat.zero_le _, Nat.zero_le _⟩) (fun r_1 hr_1 => ?_)
  have hr_1 : r_1 = (if xhas (nI kg) gz then nI 1 else nI 0) := hr_1
  obtain rfl : r_1 = nI 1 := hr_1.trans (if_pos (xhas_of hk (by omega)))
  refine xr_ifn1 (tgt := 10) hx hb (by decide) dX10_removeSubstitute_5 (by decide) ?_
  refine lv_iload_n hx hb dX10_removeSubstitute_10 rfl (lv_at hl 2 rfl) ?_
  refine lv_if_ge (tgt := 17) hx hb dX10_removeSubstitute_11 (by decide) (fun c_2 => ?_) (fun c_2 => ?_)
  · skip
    refine lv_aload_n hx hb dX10_removeSubstitute_17 rfl (lv_at hl 0 rfl) ?_
    refine lv_iload_n hx hb dX10_removeSubstitute_18 rfl (lv_at hl 1 rfl) ?_
    refine lv_iconst (v := nI 2) hx hb dX10_removeSubstitute_19 (by decide) ?_
    refine xkRi (xV (As := [.int (nI kg), .int (nI 2)]) (rest := []) (wc := [(h0, .inr (10, [.ref zq, h0_past, h0_kept, h0_spare, h0_pastMany, h0_isKept, h0_text, h0_typed, h0_isUsed, h0_planBatch, h0_planUnits, h0_planCents, h0_planMany, h0_planGot, h0_planSubstitutes, h0_at, h0_fault, h0_entries, h0_entry])), (zq, .inl (cI, 1002, .inl z))]) hx hb hml hown hts (c_X10_ofGood l dC dI cI cF cC cZ cQ cS h0 zq h0_past h0_kept h0_spare h0_pastMany h0_isKept h0_text h0_typed h0_isUsed h0_planBatch h0_planUnits h0_planCents h0_planMany h0_planGot h0_planSubstitutes h0_at h0_fault h0_entries h0_entry z kg 2 (by omega) (by omega)) 2 gX10_removeSubstitute_X10_ofGood rfl rfl rfl hdV_X10_ofGood ⟨Nat.le_of_ble_eq_true rfl, Nat.le_of_ble_eq_true rfl⟩ hN hK hP hD [0, 1] rfl rfl 10 0 rfl rfl rfl hl.1 rfl (Nat.le_of_ble_eq_true rfl) dX10_removeSubstitute_20 ⟨Nat.zero_le _, Nat.zero_le _⟩) (fun r_3 hr_3 => ?_)
    obtain rfl : r_3 = zG z kg 2 := hr_3
    refine lv_istore_n (lv' := [(3, .int (zG z kg 2)), (0, .ref h0), (1, .int (nI kg)), (2, .int v)]) hx hb dX10_removeSubstitute_23 rfl hl (by decide) rfl (fun ls hl => ?_)
    refine lv_iload_n hx hb dX10_removeSubstitute_24 rfl (lv_at hl 3 rfl) ?_
    refine lv_iload_n hx hb dX10_removeSubstitute_25 rfl (lv_at hl 0 rfl) ?_
    refine lv_icmp_lt (tgt := 32) hx hb dX10_removeSubstitute_26 (by decide) (fun c_4 => False.elim (by exact he (by unfold ePl; rw [if_neg (Int32.not_lt.mpr c_2), if_neg (Int32.not_le.mpr c_4)]))) (fun c_4 => ?_)
    refine lv_bipush (v := (-5)) hx hb dX10_removeSubstitute_29 (by decide) ?_
    exact W.iret (v := (-5)) hx hb hr (fun t ht hW => ⟨_, rfl, (show (-5) = ePl v (zG z kg 2) from (by unfold ePl; rw [if_neg (Int32.not_lt.mpr c_2), if_pos (Int32.not_lt.mp c_4)])), ht⟩) (fun q h => by cases h) dX10_removeSubstitute_31
  refine lv_bipush (v := (-2)) hx hb dX10_removeSubstitute_14 (by decide) ?_
  exact W.iret (v := (-2)) hx hb hr (fun t ht hW => ⟨_, rfl, (show (-2) = ePl v (zG z kg 2) from (by unfold ePl; rw [if_pos (Int32.not_le.mp c_2)])), ht⟩) (fun q h => by cases h) dX10_removeSubstitute_16
set_option maxHeartbeats 4000000 in
set_option maxRecDepth 100000 in
theorem c_X9_substitutes (l : Launch) (dC : Nat → ClassId) (dI : Nat → Nat → Nat) (cI cF cC cZ cQ cS : ClassId) (x0 : Nat) (o0 : Nat) (x0_snapshot : Value) (x0_trial : Value) (x0_history : Value) (x0_filling : Value) (x0_delivery : Value) (x0_text : Value) (x0_textLength : Value) (x0_hasSnapshot : Value) (o1 : Nat) (o0_batches : Value) (o0_orders : Value) (o0_stages : Value) (o0_log : Value) (o0_settings : Value) (o0_rebate : Value) (o0_day : Value) (gz : Nat) (o1_price : Value) (o1_life : Value) (o4 : Nat) (o5 : Nat) (listed : Nat → Int32) (list : Nat → Int32) (kg : Nat) (lm : Nat) (pl : Nat) (hgz : gz ≤ 12) (hk : kg < gz) (hls : listed kg = nI lm) (hl4 : lm ≤ 4) (hpl : pl < lm) : Met l yX9_substitute wsX9_substitute ({ frames := 3, cells := 0, slots := 0, locals := 65 }) (xPre (dC, dI) vwCl [.ref x0, .int (nI kg), .int (nI pl)] (xtys cI cF cC cZ cQ cS) [(x0, .inr (9, [.ref o0, x0_snapshot, x0_trial, x0_history, x0_filling, x0_delivery, x0_text, x0_textLength, x0_hasSnapshot])), (o0, .inr (8, [.ref o1, o0_batches, o0_orders, o0_stages, o0_log, o0_settings, o0_rebate, o0_day])), (o1, .inr (3, [.int (nI gz), o1_price, o1_life, .ref o4, .ref o5])), (o4, .inl (cI, 12, .inl listed)), (o5, .inl (cI, 48, .inl list))]) (vp_Si (fun r0 => r0 = list (kg * 4 + pl))) 0 0 (fun _ => False) := by
  refine Met.ofW (cc := cX9_substitute) (maxL := 4) (ret := (some .int)) (by decide) rfl ?_
  intro p e s m args below meth c s₁ B hml hv
  obtain ⟨rfl, hP, hK, hD0, hN⟩ := hv
  have hx := B.exec
  have hb := B.bytes
  have hr := B.returns
  have hts := atoms_spec (ws := wsX9_substitute) B.pre
  have hown : s.vm.findClass RX9 = some m.cls := findClass_of_methodNamed B.named
  have hlocks := B.notSynchronized
  have k_12 := hts (Cond.fieldLink RX9 12 "ShelfStages" "now" "LShelfStages$State;") (by decide +kernel)
  have k_51 := hts (Cond.fieldLink RX9 51 "ShelfStages$State" "goods" "LShelfStages$Goods;") (by decide +kernel)
  have i_X8 : ∀ w ∈ wsX80, w ∈ wsX9_substitute := by decide +kernel
  have i_X9 : ∀ w ∈ wsX90, w ∈ wsX9_substitute := by decide +kernel
  have hD := hD0
  have hl := lv_entry ([.ref x0, .int (nI kg), .int (nI pl)]) (n := 4) (Nat.le_of_ble_eq_true rfl)
  rw [lg_entry_eq]
  generalize (lg_sl ([.ref x0, .int (nI kg), .int (nI pl)]) ++ List.replicate (4 - (lg_sl ([.ref x0, .int (nI kg), .int (nI pl)])).length) Slot.unset).toArray = ls at hl ⊢
  have hl : lv_has ls 4 [(0, .ref x0), (1, .int (nI kg)), (2, .int (nI pl))] := hl
  refine lv_aload_n hx hb dX9_substitute_0 rfl (lv_at hl 0 rfl) ?_
  refine lv_iload_n hx hb dX9_substitute_1 rfl (lv_at hl 1 rfl) ?_
  refine lv_iload_n hx hb dX9_substitute_2 rfl (lv_at hl 2 rfl) ?_
  refine xkRi (xV (As := [.int (nI kg), .int (nI pl)]) (rest := []) (wc := [(x0, .inr (9, [.ref o0, x0_snapshot, x0_trial, x0_history, x0_filling, x0_delivery, x0_text, x0_textLength, x0_hasSnapshot])), (o0, .inr (8, [.ref o1, o0_batches, o0_orders, o0_stages, o0_log, o0_settings, o0_rebate, o0_day])), (o1, .inr (3, [.int (nI gz), o1_price, o1_life, .ref o4, .ref o5])), (o4, .inl (cI, 12, .inl listed))]) hx hb hml hown hts (c_X9_placeError l dC dI cI cF cC cZ cQ cS x0 o0 x0_snapshot x0_trial x0_history x0_filling x0_delivery x0_text x0_textLength x0_hasSnapshot o1 o0_batches o0_orders o0_stages o0_log o0_settings o0_rebate o0_day gz o1_price o1_life o4 (.ref o5) listed (nI kg) (nI pl) (by omega)) 2 gX9_substitute_X9_placeError rfl rfl rfl hdV_X9_placeError ⟨Nat.le_of_ble_eq_true rfl, Nat.le_of_ble_eq_true rfl⟩ hN hK hP hD [0, 1, 2, 3] rfl rfl 9 0 rfl rfl rfl hl.1 rfl (Nat.le_of_ble_eq_true rfl) dX9_substitute_3 ⟨Nat.zero_le _, Nat.zero_le _⟩) (fun r_1 hr_1 => ?_)
  obtain rfl : r_1 = xplerr (nI kg) (nI pl) gz listed := hr_1
  refine xr_top (show xplerr (nI kg) (nI pl) gz listed = nI 0 from ((xpl_known hk hgz).trans (by rw [hls]; exact ePl_ok hpl hl4))) ?_
  refine lv_istore_n (lv' := [(3, .int (nI 0)), (0, .ref x0), (1, .int (nI kg)), (2, .int (nI pl))]) hx hb dX9_substitute_6 rfl hl (by decide) rfl (fun ls hl => ?_)
  refine lv_iload_n hx hb dX9_substitute_7 rfl (lv_at hl 0 rfl) ?_
  refine xr_if0 (tgt := 13) hx hb (by decide) dX9_substitute_8 (by decide) ?_
  refine lv_aload_n hx hb dX9_substitute_13 rfl (lv_at hl 1 rfl) ?_
  refine va_get (D := (dC, dI)) (ci := 9) (v := .ref o0) (C := RX9) (T := TX9) (N := 9) hx hb hts i_X9 hown hK hP 0 rfl rfl 0 (by decide) k_12 (fun _ h9 => h9) rfl dX9_substitute_14 ?_
  refine va_get (D := (dC, dI)) (ci := 8) (v := .ref o1) (C := RX8) (T := TX8) (N := 8) hx hb hts i_X8 hown hK hP 1 rfl rfl 0 (by decide) k_51 (fun _ h9 => h9) rfl dX9_substitute_17 ?_
  refine lv_iload_n hx hb dX9_substitute_20 rfl (lv_at hl 2 rfl) ?_
  refine lv_iload_n hx hb dX9_substitute_21 rfl (lv_at hl 3 rfl) ?_
  refine xkRi (xV (As := [.int (nI kg), .int (nI pl)]) (rest := []) (wc := [(o1, .inr (3, [.int (nI gz), o1_price, o1_life, .ref o4, .ref o5])), (o5, .inl (cI, 48, .inl list))]) hx hb hml hown hts (c_X3_listedAt l dC dI cI cF cC cZ cQ cS o1 (.int (nI gz)) o1_price o1_life (.ref o4) o5 list kg pl (by omega)) 2 gX9_substitute_X3_listedAt rfl rfl rfl hdV_X3_listedAt ⟨Nat.le_of_ble_eq_true rfl, Nat.le_of_ble_eq_true rfl⟩ hN hK hP hD [2, 4] rfl rfl 3 2 rfl rfl rfl hl.1 rfl (Nat.le_of_ble_eq_true rfl) dX9_substitute_22 ⟨Nat.zero_le _, Nat.zero_le _⟩) (fun r_2 hr_2 => ?_)
  obtain rfl : r_2 = list (kg * 4 + pl) := hr_2
  exact W.iret (v := list (kg * 4 + pl)) hx hb hr (fun t ht hW => ⟨_, rfl, (show list (kg * 4 + pl) = list (kg * 4 + pl) from rfl), ht⟩) (fun q h => by cases h) dX9_substitute_25
set_option maxHeartbeats 4000000 in
set_option maxRecDepth 100000 in
theorem c_X10_substitutes (l : Launch) (dC : Nat → ClassId) (dI : Nat → Nat → Nat) (cI cF cC cZ cQ cS : ClassId) (h0 : Nat) (zq : Nat) (h0_past : Value) (h0_kept : Value) (h0_spare : Value) (h0_pastMany : Value) (h0_isKept : Value) (h0_text : Value) (h0_typed : Value) (h0_isUsed : Value) (h0_planBatch : Value) (h0_planUnits : Value) (h0_planCents : Value) (h0_planMany : Value) (h0_planGot : Value) (h0_planSubstitutes : Value) (h0_at : Value) (h0_fault : Value) (h0_entries : Value) (h0_entry : Value) (z : Nat → Int32) (gz : Nat) (kg : Nat) (lm : Nat) (pl : Nat) (hz1 : z 1 = nI gz) (hgz : gz ≤ 12) (hk : kg < gz) (hls : zG z kg 2 = nI lm) (hl4 : lm ≤ 4) (hpl : pl < lm) : Met l yX10_substitute wsX10_substitute ({ frames := 1, cells := 0, slots := 0, locals := 22 }) (xPre (dC, dI) vwCl [.ref h0, .int (nI kg), .int (nI pl)] (xtys cI cF cC cZ cQ cS) [(h0, .inr (10, [.ref zq, h0_past, h0_kept, h0_spare, h0_pastMany, h0_isKept, h0_text, h0_typed, h0_isUsed, h0_planBatch, h0_planUnits, h0_planCents, h0_planMany, h0_planGot, h0_planSubstitutes, h0_at, h0_fault, h0_entries, h0_entry])), (zq, .inl (cI, 1002, .inl z))]) (vp_Si (fun r0 => r0 = zG z kg (3 + pl))) 0 0 (fun _ => False) := by
  refine Met.ofW (cc := cX10_substitute) (maxL := 3) (ret := (some .int)) (by decide) rfl ?_
  intro p e s m args below meth c s₁ B hml hv
  obtain ⟨rfl, hP, hK, hD0, hN⟩ := hv
  have hx := B.exec
  have hb := B.bytes
  have hr := B.returns
  have hts := atoms_spec (ws := wsX10_substitute) B.pre
  have hown : s.vm.findClass RX10 = some m.cls := findClass_of_methodNamed B.named
  have hlocks := B.notSynchronized
  have hD := hD0
  have hl := lv_entry ([.ref h0, .int (nI kg), .int (nI pl)]) (n := 3) (Nat.le_of_ble_eq_true rfl)
  rw [lg_entry_eq]
  generalize (lg_sl ([.ref h0, .int (nI kg), .int (nI pl)]) ++ List.replicate (3 - (lg_sl ([.ref h0, .int (nI kg), .int (nI pl)])).length) Slot.unset).toArray = ls at hl ⊢
  have hl : lv_has ls 3 [(0, .ref h0), (1, .int (nI kg)), (2, .int (nI pl))] := hl
  refine lv_aload_n hx hb dX10_substitute_0 rfl (lv_at hl 0 rfl) ?_
  refine lv_iload_n hx hb dX10_substitute_1 rfl (lv_at hl 1 rfl) ?_
  refine xkRi (xV (As := [.int (nI kg)]) (rest := []) (wc := [(h0, .inr (10, [.ref zq, h0_past, h0_kept, h0_spare, h0_pastMany, h0_isKept, h0_text, h0_typed, h0_isUsed, h0_planBatch, h0_planUnits, h0_planCents, h0_planMany, h0_planGot, h0_planSubstitutes, h0_at, h0_fault, h0_entries, h0_entry])), (zq, .inl (cI, 1002, .inl z))]) hx hb hml hown hts (c_X10_isGood l dC dI cI cF cC cZ cQ cS h0 zq h0_past h0_kept h0_spare h0_pastMany h0_isKept h0_text h0_typed h0_isUsed h0_planBatch h0_planUnits h0_planCents h0_planMany h0_planGot h0_planSubstitutes h0_at h0_fault h0_entries h0_entry z (nI kg) gz (by omega) (by omega)) 1 gX10_substitute_X10_isGood rfl rfl rfl hdV_X10_isGood ⟨Nat.le_of_ble_eq_true rfl, Nat.le_of_ble_eq_true rfl⟩ hN hK hP hD [0, 1] rfl rfl 10 0 rfl rfl rfl hl.1 rfl (Nat.le_of_ble_eq_true rfl) dX10_substitute_2 ⟨Nat.zero_le _, Nat.zero_le _⟩) (fun r_1 hr_1 => ?_)
  have hr_1 : r_1 = (if xhas (nI kg) gz then nI 1 else nI 0) := hr_1
  obtain rfl : r_1 = nI 1 := hr_1.trans (if_pos (xhas_of hk (by omega)))
  refine xr_ifn1 (tgt := 10) hx hb (by decide) dX10_substitute_5 (by decide) ?_
  refine lv_iload_n hx hb dX10_substitute_10 rfl (lv_at hl 2 rfl) ?_
  refine xr_zge_n (tgt := 17) hx hb (by omega) dX10_substitute_11 (by decide) ?_
  refine lv_iload_n hx hb dX10_substitute_17 rfl (lv_at hl 2 rfl) ?_
  refine lv_aload_n hx hb dX10_substitute_18 rfl (lv_at hl 0 rfl) ?_
  refine lv_iload_n hx hb dX10_substitute_19 rfl (lv_at hl 1 rfl) ?_
  refine lv_iconst (v := nI 2) hx hb dX10_substitute_20 (by decide) ?_
  refine xkRi (xV (As := [.int (nI kg), .int (nI 2)]) (rest := [.int (nI pl)]) (wc := [(h0, .inr (10, [.ref zq, h0_past, h0_kept, h0_spare, h0_pastMany, h0_isKept, h0_text, h0_typed, h0_isUsed, h0_planBatch, h0_planUnits, h0_planCents, h0_planMany, h0_planGot, h0_planSubstitutes, h0_at, h0_fault, h0_entries, h0_entry])), (zq, .inl (cI, 1002, .inl z))]) hx hb hml hown hts (c_X10_ofGood l dC dI cI cF cC cZ cQ cS h0 zq h0_past h0_kept h0_spare h0_pastMany h0_isKept h0_text h0_typed h0_isUsed h0_planBatch h0_planUnits h0_planCents h0_planMany h0_planGot h0_planSubstitutes h0_at h0_fault h0_entries h0_entry z kg 2 (by omega) (by omega)) 2 gX10_substitute_X10_ofGood rfl rfl rfl hdV_X10_ofGood ⟨Nat.le_of_ble_eq_true rfl, Nat.le_of_ble_eq_true rfl⟩ hN hK hP hD [0, 1] rfl rfl 10 0 rfl rfl rfl hl.1 rfl (Nat.le_of_ble_eq_true rfl) dX10_substitute_21 ⟨Nat.zero_le _, Nat.zero_le _⟩) (fun r_2 hr_2 => ?_)
  obtain rfl : r_2 = zG z kg 2 := hr_2
  refine xr_top (show zG z kg 2 = nI lm from hls) ?_
  refine xr_ge_n (tgt := 38) hx hb (by omega) (by omega) dX10_substitute_24 (by decide) (fun c_3 => False.elim (by omega)) (fun c_3 => ?_)
  refine lv_aload_n hx hb dX10_substitute_27 rfl (lv_at hl 0 rfl) ?_
  refine lv_iload_n hx hb dX10_substitute_28 rfl (lv_at hl 1 rfl) ?_
  refine lv_iconst (v := nI 3) hx hb dX10_substitute_29 (by decide) ?_
  refine lv_iload_n hx hb dX10_substitute_30 rfl (lv_at hl 2 rfl) ?_
  refine xr_iadd_n hx hb dX10_substitute_31 ?_
  refine xkRi (xV (As := [.int (nI kg), .int (nI (3 + pl))]) (rest := []) (wc := [(h0, .inr (10, [.ref zq, h0_past, h0_kept, h0_spare, h0_pastMany, h0_isKept, h0_text, h0_typed, h0_isUsed, h0_planBatch, h0_planUnits, h0_planCents, h0_planMany, h0_planGot, h0_planSubstitutes, h0_at, h0_fault, h0_entries, h0_entry])), (zq, .inl (cI, 1002, .inl z))]) hx hb hml hown hts (c_X10_ofGood l dC dI cI cF cC cZ cQ cS h0 zq h0_past h0_kept h0_spare h0_pastMany h0_isKept h0_text h0_typed h0_isUsed h0_planBatch h0_planUnits h0_planCents h0_planMany h0_planGot h0_planSubstitutes h0_at h0_fault h0_entries h0_entry z kg (3 + pl) (by omega) (by omega)) 2 gX10_substitute_X10_ofGood rfl rfl rfl hdV_X10_ofGood ⟨Nat.le_of_ble_eq_true rfl, Nat.le_of_ble_eq_true rfl⟩ hN hK hP hD [0, 1] rfl rfl 10 0 rfl rfl rfl hl.1 rfl (Nat.le_of_ble_eq_true rfl) dX10_substitute_32 ⟨Nat.zero_le _, Nat.zero_le _⟩) (fun r_4 hr_4 => ?_)
  obtain rfl : r_4 = zG z kg (3 + pl) := hr_4
  refine lv_goto (tgt := 40) hx hb dX10_substitute_35 (by decide) ?_
  exact W.iret (v := zG z kg (3 + pl)) hx hb hr (fun t ht hW => ⟨_, rfl, (show zG z kg (3 + pl) = zG z kg (3 + pl) from rfl), ht⟩) (fun q h => by cases h) dX10_substitute_40
