theorem hdV_X10_addGood : yX10_addGood.cls = RX10 ∧ yX10_addGood.cls ≠ "java/lang/invoke/MethodHandle" ∧ yX10_addGood.cls ≠ "java/lang/invoke/VarHandle" ∧ (parseMethodDescriptor yX10_addGood.desc).map (fun d => d.parameters.length) = some 2 := by decide +kernel
set_option maxHeartbeats 4000000 in
set_option maxRecDepth 100000 in
theorem c_X10_addGoode (l : Launch) (dC : Nat → ClassId) (dI : Nat → Nat → Nat) (cI cF cC cZ cQ cS : ClassId) (h0 : Nat) (zq : Nat) (h0_past : Value) (h0_kept : Value) (h0_spare : Value) (h0_pastMany : Value) (h0_isKept : Value) (h0_text : Value) (h0_typed : Value) (h0_isUsed : Value) (h0_planBatch : Value) (h0_planUnits : Value) (h0_planCents : Value) (h0_planMany : Value) (h0_planGot : Value) (h0_planSubstitutes : Value) (h0_at : Value) (h0_fault : Value) (h0_entries : Value) (h0_entry : Value) (z : Nat → Int32) (price : Int32) (life : Int32) (gz : Nat) (hz1 : z 1 = nI gz) (hgz : gz ≤ 12) (he : ¬ eAddGood price life gz = nI 0) : Met l yX10_addGood wsX10_addGood ({ frames := 1, cells := 0, slots := 0, locals := 22 }) (xPre (dC, dI) vwCl [.ref h0, .int price, .int life] (xtys cI cF cC cZ cQ cS) [(h0, .inr (10, [.ref zq, h0_past, h0_kept, h0_spare, h0_pastMany, h0_isKept, h0_text, h0_typed, h0_isUsed, h0_planBatch, h0_planUnits, h0_planCents, h0_planMany, h0_planGot, h0_planSubstitutes, h0_at, h0_fault, h0_entries, h0_entry])), (zq, .inl (cI, 1002, .inl z))]) (vp_Si (fun r0 => r0 = eAddGood price life gz)) 0 0 (fun _ => False) := by
  refine Met.ofW (cc := cX10_addGood) (maxL := 4) (ret := (some .int)) (by decide) rfl ?_
  intro p e s m args below meth c s₁ B hml hv
  obtain ⟨rfl, hP, hK, hD0, hN⟩ := hv
  have hx := B.exec
  have hb := B.bytes
  have hr := B.returns
  have hts := atoms_spec (ws := wsX10_addGood) B.pre
  have hown : s.vm.findClass RX10 = some m.cls := findClass_of_methodNamed B.named
  have hlocks := B.notSynchronized
  have k_7 := hts (Cond.fieldLink RX10 7 "ShelfStagesModel" "z" "[I") (by decide +kernel)
  have i_X10 : ∀ w ∈ wsX100, w ∈ wsX10_addGood := by decide +kernel
  have hD := hD0
  have hl := lv_entry ([.ref h0, .int price, .int life]) (n := 4) (Nat.le_of_ble_eq_true rfl)
  rw [lg_entry_eq]
  generalize (lg_sl ([.ref h0, .int price, .int life]) ++ List.replicate (4 - (lg_sl ([.ref h0, .int price, .int life])).length) Slot.unset).toArray = ls at hl ⊢
  have hl : lv_has ls 4 [(0, .ref h0), (1, .int price), (2, .int life)] := hl
  refine lv_iload_n hx hb dX10_addGood_0 rfl (lv_at hl 1 rfl) ?_
  refine lv_iconst (v := nI 1) hx hb dX10_addGood_1 (by decide) ?_
  refine lv_sipush (v := nI 9999) hx hb dX10_addGood_2 (by decide) ?_
  refine xkRi (xSs (Ws' := ([] : List Cond)) (As := [.int price, .int (nI 1), .int (nI 9999)]) (rest := []) (wc := []) hx hb hml hown hts (c_X10_in l dC dI cI cF cC cZ cQ cS price (nI 1) (nI 9999)) 3 (fun hR => va_cwS 3 hts gX10_addGood_X10_in rfl rfl rfl hdN_X10_in hR) ⟨Nat.le_of_ble_eq_true rfl, Nat.le_of_ble_eq_true rfl⟩ hN hK hP hD [] rfl rfl rfl hl.1 rfl (Nat.le_of_ble_eq_true rfl) dX10_addGood_5 ⟨Nat.zero_le _, Nat.zero_le _⟩) (fun r_1 hr_1 => ?_)
  have hr_1 : r_1 = (if (nI 1) ≤ price ∧ price ≤ (nI 9999) then nI 1 else nI 0) := hr_1
  rcases xi_ite inferInstance hr_1 with ⟨c_2, hr_1⟩ | ⟨c_2, hr_1⟩
  · subst hr_1
    refine xr_if1 (tgt := 21) hx hb (by decide) dX10_addGood_8 (by decide) ?_
    refine lv_iload_n hx hb dX10_addGood_11 rfl (lv_at hl 2 rfl) ?_
    refine lv_iconst (v := nI 1) hx hb dX10_addGood_12 (by decide) ?_
    refine lv_bipush (v := nI 60) hx hb dX10_addGood_13 (by decide) ?_
    refine xkRi (xSs (Ws' := ([] : List Cond)) (As := [.int life, .int (nI 1), .int (nI 60)]) (rest := []) (wc := []) hx hb hml hown hts (c_X10_in l dC dI cI cF cC cZ cQ cS life (nI 1) (nI 60)) 3 (fun hR => va_cwS 3 hts gX10_addGood_X10_in rfl rfl rfl hdN_X10_in hR) ⟨Nat.le_of_ble_eq_true rfl, Nat.le_of_ble_eq_true rfl⟩ hN hK hP hD [] rfl rfl rfl hl.1 rfl (Nat.le_of_ble_eq_true rfl) dX10_addGood_15 ⟨Nat.zero_le _, Nat.zero_le _⟩) (fun r_3 hr_3 => ?_)
    have hr_3 : r_3 = (if (nI 1) ≤ life ∧ life ≤ (nI 60) then nI 1 else nI 0) := hr_3
    rcases xi_ite inferInstance hr_3 with ⟨c_4, hr_3⟩ | ⟨c_4, hr_3⟩
    · subst hr_3
      refine xr_ifn1 (tgt := 24) hx hb (by decide) dX10_addGood_18 (by decide) ?_
      refine lv_aload_n hx hb dX10_addGood_24 rfl (lv_at hl 0 rfl) ?_
      refine va_get (D := (dC, dI)) (ci := 10) (v := .ref zq) (C := RX10) (T := TX10) (N := 19) hx hb hts i_X10 hown hK hP 0 rfl rfl 0 (by decide) k_7 (fun _ h9 => h9) rfl dX10_addGood_25 ?_
      refine lv_iconst (v := nI 1) hx hb dX10_addGood_28 (by decide) ?_
      refine xr_iald hx hb hK hP 1 0 rfl rfl (i := 1) (by omega) (by decide) dX10_addGood_29 ?_
      refine xr_top (show z 1 = nI gz from hz1) ?_
      refine lv_bipush (v := nI 12) hx hb dX10_addGood_30 (by decide) ?_
      refine xr_ne_n (tgt := 38) hx hb (by omega) (by omega) dX10_addGood_32 (by decide) (fun c_5 => False.elim (by exact he (by unfold eAddGood; rw [if_neg (fun z9 => z9.elim (fun z9 => z9 c_2) (fun z9 => z9 c_4)), if_neg (by omega)]))) (fun c_5 => ?_)
      refine lv_bipush (v := (-3)) hx hb dX10_addGood_35 (by decide) ?_
      exact W.iret (v := (-3)) hx hb hr (fun t ht hW => ⟨_, rfl, (show (-3) = eAddGood price life gz from (by unfold eAddGood; rw [if_neg (fun z9 => z9.elim (fun z9 => z9 c_2) (fun z9 => z9 c_4)), if_pos (by omega)])), ht⟩) (fun q h => by cases h) dX10_addGood_37
    subst hr_3
    refine xr_ifn0 (tgt := 24) hx hb (by decide) dX10_addGood_18 (by decide) ?_
    refine lv_bipush (v := (-2)) hx hb dX10_addGood_21 (by decide) ?_
    exact W.iret (v := (-2)) hx hb hr (fun t ht hW => ⟨_, rfl, (show (-2) = eAddGood price life gz from (by unfold eAddGood; rw [if_pos (Or.inr c_4)])), ht⟩) (fun q h => by cases h) dX10_addGood_23
  subst hr_1
  refine xr_if0 (tgt := 21) hx hb (by decide) dX10_addGood_8 (by decide) ?_
  refine lv_bipush (v := (-2)) hx hb dX10_addGood_21 (by decide) ?_
  exact W.iret (v := (-2)) hx hb hr (fun t ht hW => ⟨_, rfl, (show (-2) = eAddGood price life gz from (by unfold eAddGood; rw [if_pos (Or.inl c_2)])), ht⟩) (fun q h => by cases h) dX10_addGood_23
set_option maxHeartbeats 4000000 in
set_option maxRecDepth 100000 in
theorem c_X10_addGoods (l : Launch) (dC : Nat → ClassId) (dI : Nat → Nat → Nat) (cI cF cC cZ cQ cS : ClassId) (h0 : Nat) (zq : Nat) (pq : Nat) (h0_kept : Value) (h0_spare : Value) (h0_isKept : Value) (h0_text : Value) (h0_typed : Value) (h0_isUsed : Value) (h0_planBatch : Value) (h0_planUnits : Value) (h0_planCents : Value) (h0_planMany : Value) (h0_planGot : Value) (h0_planSubstitutes : Value) (h0_at : Value) (h0_fault : Value) (h0_entries : Value) (h0_entry : Value) (z : Nat → Int32) (past : Nat → Int32) (pm : Nat) (price : Int32) (life : Int32) (gz : Nat) (hz1 : z 1 = nI gz) (hgz : gz < 12) (hpm : pm ≤ 4) (hpr : nI 1 ≤ price ∧ price ≤ nI 9999) (hli : nI 1 ≤ life ∧ life ≤ nI 60) : Met l yX10_addGood wsX10_addGood ({ frames := 1, cells := 0, slots := 0, locals := 22 }) (xPre (dC, dI) vwCl [.ref h0, .int price, .int life] (xtys cI cF cC cZ cQ cS) [(h0, .inr (10, [.ref zq, .ref pq, h0_kept, h0_spare, .int (nI pm), h0_isKept, h0_text, h0_typed, h0_isUsed, h0_planBatch, h0_planUnits, h0_planCents, h0_planMany, h0_planGot, h0_planSubstitutes, h0_at, h0_fault, h0_entries, h0_entry])), (zq, .inl (cI, 1002, .inl z)), (pq, .inl (cI, 4008, .inl past))]) (xWi (dC, dI) vwCl [(h0, .inr (10, [.ref zq, .ref pq, h0_kept, h0_spare, .int (nI pm), h0_isKept, h0_text, h0_typed, h0_isUsed, h0_planBatch, h0_planUnits, h0_planCents, h0_planMany, h0_planGot, h0_planSubstitutes, h0_at, h0_fault, h0_entries, h0_entry])), (zq, .inl (cI, 1002, .inl z)), (pq, .inl (cI, 4008, .inl past))] (fun r0 w0 => r0 = nI gz ∧ w0 = [(h0, .inr (10, [.ref zq, .ref pq, h0_kept, h0_spare, .int (nI (if pm = 4 then 4 else pm + 1)), h0_isKept, h0_text, h0_typed, h0_isUsed, h0_planBatch, h0_planUnits, h0_planCents, h0_planMany, h0_planGot, h0_planSubstitutes, h0_at, h0_fault, h0_entries, h0_entry])), (zq, .inl (cI, 1002, .inl (zaddg z price life gz))), (pq, .inl (cI, 4008, .inl (zrec z past pm)))])) 0 0 (va_B [(h0, .inr (10, [.ref zq, .ref pq, h0_kept, h0_spare, .int (nI pm), h0_isKept, h0_text, h0_typed, h0_isUsed, h0_planBatch, h0_planUnits, h0_planCents, h0_planMany, h0_planGot, h0_planSubstitutes, h0_at, h0_fault, h0_entries, h0_entry])), (zq, .inl (cI, 1002, .inl z)), (pq, .inl (cI, 4008, .inl past))]) := by
  refine Met.ofW (cc := cX10_addGood) (maxL := 4) (ret := (some .int)) (by decide) rfl ?_
  intro p e s m args below meth c s₁ B hml hv
  obtain ⟨rfl, hP, hK, hD0, hN⟩ := hv
  have hx := B.exec
  have hb := B.bytes
  have hr := B.returns
  have hts := atoms_spec (ws := wsX10_addGood) B.pre
  have hown : s.vm.findClass RX10 = some m.cls := findClass_of_methodNamed B.named
  have hlocks := B.notSynchronized
  have k_7 := hts (Cond.fieldLink RX10 7 "ShelfStagesModel" "z" "[I") (by decide +kernel)
  have i_X10 : ∀ w ∈ wsX100, w ∈ wsX10_addGood := by decide +kernel
  obtain ⟨A, hA⟩ : ∃ A, A = va_B [(h0, .inr (10, [.ref zq, .ref pq, h0_kept, h0_spare, .int (nI pm), h0_isKept, h0_text, h0_typed, h0_isUsed, h0_planBatch, h0_planUnits, h0_planCents, h0_planMany, h0_planGot, h0_planSubstitutes, h0_at, h0_fault, h0_entries, h0_entry])), (zq, .inl (cI, 1002, .inl z)), (pq, .inl (cI, 4008, .inl past))] := ⟨_, rfl⟩
  have hD : va_D A [(h0, .inr (10, [.ref zq, .ref pq, h0_kept, h0_spare, .int (nI pm), h0_isKept, h0_text, h0_typed, h0_isUsed, h0_planBatch, h0_planUnits, h0_planCents, h0_planMany, h0_planGot, h0_planSubstitutes, h0_at, h0_fault, h0_entries, h0_entry])), (zq, .inl (cI, 1002, .inl z)), (pq, .inl (cI, 4008, .inl past))] := hA ▸ hD0.own
  have hS : va_S A s.heap s.heap [] := va_S.rf
  have hl := lv_entry ([.ref h0, .int price, .int life]) (n := 4) (Nat.le_of_ble_eq_true rfl)
  rw [lg_entry_eq]
  generalize (lg_sl ([.ref h0, .int price, .int life]) ++ List.replicate (4 - (lg_sl ([.ref h0, .int price, .int life])).length) Slot.unset).toArray = ls at hl ⊢
  have hl : lv_has ls 4 [(0, .ref h0), (1, .int price), (2, .int life)] := hl
  refine lv_iload_n hx hb dX10_addGood_0 rfl (lv_at hl 1 rfl) ?_
  refine lv_iconst (v := nI 1) hx hb dX10_addGood_1 (by decide) ?_
  refine lv_sipush (v := nI 9999) hx hb dX10_addGood_2 (by decide) ?_
  refine xkRi (xSs (Ws' := ([] : List Cond)) (As := [.int price, .int (nI 1), .int (nI 9999)]) (rest := []) (wc := []) hx hb hml hown hts (c_X10_in l dC dI cI cF cC cZ cQ cS price (nI 1) (nI 9999)) 3 (fun hR => va_cwS 3 hts gX10_addGood_X10_in rfl rfl rfl hdN_X10_in hR) ⟨Nat.le_of_ble_eq_true rfl, Nat.le_of_ble_eq_true rfl⟩ hN hK hP hD [] rfl rfl rfl hl.1 rfl (Nat.le_of_ble_eq_true rfl) dX10_addGood_5 ⟨Nat.zero_le _, Nat.zero_le _⟩) (fun r_1 hr_1 => ?_)
  have hr_1 : r_1 = (if (nI 1) ≤ price ∧ price ≤ (nI 9999) then nI 1 else nI 0) := hr_1
  obtain rfl : r_1 = nI 1 := hr_1.trans (if_pos hpr)
  refine xr_if1 (tgt := 21) hx hb (by decide) dX10_addGood_8 (by decide) ?_
  refine lv_iload_n hx hb dX10_addGood_11 rfl (lv_at hl 2 rfl) ?_
  refine lv_iconst (v := nI 1) hx hb dX10_addGood_12 (by decide) ?_
  refine lv_bipush (v := nI 60) hx hb dX10_addGood_13 (by decide) ?_
  refine xkRi (xSs (Ws' := ([] : List Cond)) (As := [.int life, .int (nI 1), .int (nI 60)]) (rest := []) (wc := []) hx hb hml hown hts (c_X10_in l dC dI cI cF cC cZ cQ cS life (nI 1) (nI 60)) 3 (fun hR => va_cwS 3 hts gX10_addGood_X10_in rfl rfl rfl hdN_X10_in hR) ⟨Nat.le_of_ble_eq_true rfl, Nat.le_of_ble_eq_true rfl⟩ hN hK hP hD [] rfl rfl rfl hl.1 rfl (Nat.le_of_ble_eq_true rfl) dX10_addGood_15 ⟨Nat.zero_le _, Nat.zero_le _⟩) (fun r_2 hr_2 => ?_)
  have hr_2 : r_2 = (if (nI 1) ≤ life ∧ life ≤ (nI 60) then nI 1 else nI 0) := hr_2
  obtain rfl : r_2 = nI 1 := hr_2.trans (if_pos hli)
  refine xr_ifn1 (tgt := 24) hx hb (by decide) dX10_addGood_18 (by decide) ?_
  refine lv_aload_n hx hb dX10_addGood_24 rfl (lv_at hl 0 rfl) ?_
  refine va_get (D := (dC, dI)) (ci := 10) (v := .ref zq) (C := RX10) (T := TX10) (N := 19) hx hb hts i_X10 hown hK hP 0 rfl rfl 0 (by decide) k_7 (fun _ h9 => h9) rfl dX10_addGood_25 ?_
  refine lv_iconst (v := nI 1) hx hb dX10_addGood_28 (by decide) ?_
  refine xr_iald hx hb hK hP 1 0 rfl rfl (i := 1) (by omega) (by decide) dX10_addGood_29 ?_
  refine xr_top (show z 1 = nI gz from hz1) ?_
  refine lv_bipush (v := nI 12) hx hb dX10_addGood_30 (by decide) ?_
  refine xr_ne_n (tgt := 38) hx hb (by omega) (by omega) dX10_addGood_32 (by decide) (fun c_3 => ?_) (fun c_3 => False.elim (by omega))
  refine lv_aload_n hx hb dX10_addGood_38 rfl (lv_at hl 0 rfl) ?_
  refine xkV2 (xV (As := []) (rest := []) (wc := [(h0, .inr (10, [.ref zq, .ref pq, h0_kept, h0_spare, .int (nI pm), h0_isKept, h0_text, h0_typed, h0_isUsed, h0_planBatch, h0_planUnits, h0_planCents, h0_planMany, h0_planGot, h0_planSubstitutes, h0_at, h0_fault, h0_entries, h0_entry])), (zq, .inl (cI, 1002, .inl z)), (pq, .inl (cI, 4008, .inl past))]) hx hb hml hown hts (c_X10_record l dC dI cI cF cC cZ cQ cS h0 zq pq h0_kept h0_spare h0_isKept h0_text h0_typed h0_isUsed h0_planBatch h0_planUnits h0_planCents h0_planMany h0_planGot h0_planSubstitutes h0_at h0_fault h0_entries h0_entry z past pm (by omega)) 0 gX10_addGood_X10_record rfl rfl rfl hdV_X10_record ⟨Nat.le_of_ble_eq_true rfl, Nat.le_of_ble_eq_true rfl⟩ hN hK hP hD [0, 1, 2] rfl rfl 10 0 rfl rfl rfl hl.1 rfl (Nat.le_of_ble_eq_true rfl) dX10_addGood_39 ⟨Nat.zero_le _, Nat.zero_le _⟩) hP hD hS [0, 1, 2] [0, 1, 2] rfl rfl 3 rfl (by decide +kernel) (fun H locs hP hD hS => ?_)
  have hP : va_P (dC, dI) vwCl [(h0, .inr (10, [.ref zq, .ref pq, h0_kept, h0_spare, .int (nI (if pm = 4 then 4 else pm + 1)), h0_isKept, h0_text, h0_typed, h0_isUsed, h0_planBatch, h0_planUnits, h0_planCents, h0_planMany, h0_planGot, h0_planSubstitutes, h0_at, h0_fault, h0_entries, h0_entry])), (zq, .inl (cI, 1002, .inl z)), (pq, .inl (cI, 4008, .inl (zrec z past pm)))] H := hP
  have hD : va_D A [(h0, .inr (10, [.ref zq, .ref pq, h0_kept, h0_spare, .int (nI (if pm = 4 then 4 else pm + 1)), h0_isKept, h0_text, h0_typed, h0_isUsed, h0_planBatch, h0_planUnits, h0_planCents, h0_planMany, h0_planGot, h0_planSubstitutes, h0_at, h0_fault, h0_entries, h0_entry])), (zq, .inl (cI, 1002, .inl z)), (pq, .inl (cI, 4008, .inl (zrec z past pm)))] := hD
  refine lv_aload_n hx hb dX10_addGood_42 rfl (lv_at hl 0 rfl) ?_
  refine va_get (D := (dC, dI)) (ci := 10) (v := .ref zq) (C := RX10) (T := TX10) (N := 19) hx hb hts i_X10 hown hK hP 0 rfl rfl 0 (by decide) k_7 (fun _ h9 => h9) rfl dX10_addGood_43 ?_
  refine lv_iconst (v := nI 1) hx hb dX10_addGood_46 (by decide) ?_
  refine xr_iald hx hb hK hP 1 0 rfl rfl (i := 1) (by omega) (by decide) dX10_addGood_47 ?_
  refine xr_top (show z 1 = nI gz from hz1) ?_
  refine lv_istore_n (lv' := [(3, .int (nI gz)), (0, .ref h0), (1, .int price), (2, .int life)]) hx hb dX10_addGood_48 rfl hl (by decide) rfl (fun ls hl => ?_)
  refine lv_aload_n hx hb dX10_addGood_49 rfl (lv_at hl 1 rfl) ?_
  refine va_get (D := (dC, dI)) (ci := 10) (v := .ref zq) (C := RX10) (T := TX10) (N := 19) hx hb hts i_X10 hown hK hP 0 rfl rfl 0 (by decide) k_7 (fun _ h9 => h9) rfl dX10_addGood_50 ?_
  refine lv_iconst (v := nI 1) hx hb dX10_addGood_53 (by decide) ?_
  refine lv_dup2_11 hx hb dX10_addGood_54 rfl rfl ?_
  refine xr_iald hx hb hK hP 1 0 rfl rfl (i := 1) (by omega) (by decide) dX10_addGood_55 ?_
  refine xr_top (show z 1 = nI gz from hz1) ?_
  refine lv_iconst (v := nI 1) hx hb dX10_addGood_56 (by decide) ?_
  refine xr_iadd_n hx hb dX10_addGood_57 ?_
  refine xr_iast hx hb hK hP hD hS 1 0 rfl rfl (i := 1) (by omega) (by decide) dX10_addGood_58 (fun H locs hP hD hS => ?_)
  have hP : va_P (dC, dI) vwCl [(h0, .inr (10, [.ref zq, .ref pq, h0_kept, h0_spare, .int (nI (if pm = 4 then 4 else pm + 1)), h0_isKept, h0_text, h0_typed, h0_isUsed, h0_planBatch, h0_planUnits, h0_planCents, h0_planMany, h0_planGot, h0_planSubstitutes, h0_at, h0_fault, h0_entries, h0_entry])), (zq, .inl (cI, 1002, .inl (upd z 1 (nI (gz + 1))))), (pq, .inl (cI, 4008, .inl (zrec z past pm)))] H := hP
  have hD : va_D A [(h0, .inr (10, [.ref zq, .ref pq, h0_kept, h0_spare, .int (nI (if pm = 4 then 4 else pm + 1)), h0_isKept, h0_text, h0_typed, h0_isUsed, h0_planBatch, h0_planUnits, h0_planCents, h0_planMany, h0_planGot, h0_planSubstitutes, h0_at, h0_fault, h0_entries, h0_entry])), (zq, .inl (cI, 1002, .inl (upd z 1 (nI (gz + 1))))), (pq, .inl (cI, 4008, .inl (zrec z past pm)))] := hD
  refine lv_aload_n hx hb dX10_addGood_59 rfl (lv_at hl 1 rfl) ?_
  refine va_get (D := (dC, dI)) (ci := 10) (v := .ref zq) (C := RX10) (T := TX10) (N := 19) hx hb hts i_X10 hown hK hP 0 rfl rfl 0 (by decide) k_7 (fun _ h9 => h9) rfl dX10_addGood_60 ?_
  refine lv_bipush (v := nI 10) hx hb dX10_addGood_63 (by decide) ?_
  refine lv_bipush (v := nI 7) hx hb dX10_addGood_65 (by decide) ?_
  refine lv_iload_n hx hb dX10_addGood_67 rfl (lv_at hl 0 rfl) ?_
  refine xr_imul_n hx hb dX10_addGood_68 ?_
  refine xr_iadd_n hx hb dX10_addGood_69 ?_
  refine lv_iconst (v := nI 0) hx hb dX10_addGood_70 (by decide) ?_
  refine xr_iadd_n hx hb dX10_addGood_71 ?_
  refine lv_iload_n hx hb dX10_addGood_72 rfl (lv_at hl 2 rfl) ?_
  refine xr_iast hx hb hK hP hD hS 1 0 rfl rfl (i := (10 + (7 * gz)) + 0) (by omega) (by decide) dX10_addGood_73 (fun H locs hP hD hS => ?_)
  have hP : va_P (dC, dI) vwCl [(h0, .inr (10, [.ref zq, .ref pq, h0_kept, h0_spare, .int (nI (if pm = 4 then 4 else pm + 1)), h0_isKept, h0_text, h0_typed, h0_isUsed, h0_planBatch, h0_planUnits, h0_planCents, h0_planMany, h0_planGot, h0_planSubstitutes, h0_at, h0_fault, h0_entries, h0_entry])), (zq, .inl (cI, 1002, .inl (upd (upd z 1 (nI (gz + 1))) ((10 + (7 * gz)) + 0) price))), (pq, .inl (cI, 4008, .inl (zrec z past pm)))] H := hP
  have hD : va_D A [(h0, .inr (10, [.ref zq, .ref pq, h0_kept, h0_spare, .int (nI (if pm = 4 then 4 else pm + 1)), h0_isKept, h0_text, h0_typed, h0_isUsed, h0_planBatch, h0_planUnits, h0_planCents, h0_planMany, h0_planGot, h0_planSubstitutes, h0_at, h0_fault, h0_entries, h0_entry])), (zq, .inl (cI, 1002, .inl (upd (upd z 1 (nI (gz + 1))) ((10 + (7 * gz)) + 0) price))), (pq, .inl (cI, 4008, .inl (zrec z past pm)))] := hD
  refine lv_aload_n hx hb dX10_addGood_74 rfl (lv_at hl 1 rfl) ?_
  refine va_get (D := (dC, dI)) (ci := 10) (v := .ref zq) (C := RX10) (T := TX10) (N := 19) hx hb hts i_X10 hown hK hP 0 rfl rfl 0 (by decide) k_7 (fun _ h9 => h9) rfl dX10_addGood_75 ?_
  refine lv_bipush (v := nI 10) hx hb dX10_addGood_78 (by decide) ?_
  refine lv_bipush (v := nI 7) hx hb dX10_addGood_80 (by decide) ?_
  refine lv_iload_n hx hb dX10_addGood_82 rfl (lv_at hl 0 rfl) ?_
  refine xr_imul_n hx hb dX10_addGood_83 ?_
  refine xr_iadd_n hx hb dX10_addGood_84 ?_
  refine lv_iconst (v := nI 1) hx hb dX10_addGood_85 (by decide) ?_
  refine xr_iadd_n hx hb dX10_addGood_86 ?_
  refine lv_iload_n hx hb dX10_addGood_87 rfl (lv_at hl 3 rfl) ?_
  refine xr_iast hx hb hK hP hD hS 1 0 rfl rfl (i := (10 + (7 * gz)) + 1) (by omega) (by decide) dX10_addGood_88 (fun H locs hP hD hS => ?_)
  have hP : va_P (dC, dI) vwCl [(h0, .inr (10, [.ref zq, .ref pq, h0_kept, h0_spare, .int (nI (if pm = 4 then 4 else pm + 1)), h0_isKept, h0_text, h0_typed, h0_isUsed, h0_planBatch, h0_planUnits, h0_planCents, h0_planMany, h0_planGot, h0_planSubstitutes, h0_at, h0_fault, h0_entries, h0_entry])), (zq, .inl (cI, 1002, .inl (upd (upd (upd z 1 (nI (gz + 1))) ((10 + (7 * gz)) + 0) price) ((10 + (7 * gz)) + 1) life))), (pq, .inl (cI, 4008, .inl (zrec z past pm)))] H := hP
  have hD : va_D A [(h0, .inr (10, [.ref zq, .ref pq, h0_kept, h0_spare, .int (nI (if pm = 4 then 4 else pm + 1)), h0_isKept, h0_text, h0_typed, h0_isUsed, h0_planBatch, h0_planUnits, h0_planCents, h0_planMany, h0_planGot, h0_planSubstitutes, h0_at, h0_fault, h0_entries, h0_entry])), (zq, .inl (cI, 1002, .inl (upd (upd (upd z 1 (nI (gz + 1))) ((10 + (7 * gz)) + 0) price) ((10 + (7 * gz)) + 1) life))), (pq, .inl (cI, 4008, .inl (zrec z past pm)))] := hD
  refine lv_iload_n hx hb dX10_addGood_89 rfl (lv_at hl 0 rfl) ?_
  have hP9 : va_P (dC, dI) vwCl [(h0, .inr (10, [.ref zq, .ref pq, h0_kept, h0_spare, .int (nI (if pm = 4 then 4 else pm + 1)), h0_isKept, h0_text, h0_typed, h0_isUsed, h0_planBatch, h0_planUnits, h0_planCents, h0_planMany, h0_planGot, h0_planSubstitutes, h0_at, h0_fault, h0_entries, h0_entry])), (zq, .inl (cI, 1002, .inl (zaddg z price life gz))), (pq, .inl (cI, 4008, .inl (zrec z past pm)))] H := hP
  have hS9 : va_S (va_B [(h0, .inr (10, [.ref zq, .ref pq, h0_kept, h0_spare, .int (nI pm), h0_isKept, h0_text, h0_typed, h0_isUsed, h0_planBatch, h0_planUnits, h0_planCents, h0_planMany, h0_planGot, h0_planSubstitutes, h0_at, h0_fault, h0_entries, h0_entry])), (zq, .inl (cI, 1002, .inl z)), (pq, .inl (cI, 4008, .inl past))]) s.heap H locs := by rw [← hA]; exact hS
  exact W.iret (v := nI gz) hx hb hr (fun t ht hW => ⟨⟨_, _, rfl, ⟨(show nI gz = nI gz from rfl), rfl⟩, by rw [ht]; exact hP9⟩, hS9.X ht⟩) hS9.2.2 dX10_addGood_90
