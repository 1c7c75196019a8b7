theorem hdV_X10_setStage : yX10_setStage.cls = RX10 ∧ yX10_setStage.cls ≠ "java/lang/invoke/MethodHandle" ∧ yX10_setStage.cls ≠ "java/lang/invoke/VarHandle" ∧ (parseMethodDescriptor yX10_setStage.desc).map (fun d => d.parameters.length) = some 3 := by decide +kernel
set_option maxHeartbeats 4000000 in
set_option maxRecDepth 100000 in
theorem c_X10_setStageu (l : Launch) (dC : Nat → ClassId) (dI : Nat → Nat → Nat) (cI cF cC cZ cQ cS : ClassId) (h0 : Nat) (zq : Nat) (h0_past : Value) (h0_kept : Value) (h0_spare : Value) (h0_pastMany : Value) (h0_isKept : Value) (h0_text : Value) (h0_typed : Value) (h0_isUsed : Value) (h0_planBatch : Value) (h0_planUnits : Value) (h0_planCents : Value) (h0_planMany : Value) (h0_planGot : Value) (h0_planSubstitutes : Value) (h0_at : Value) (h0_fault : Value) (h0_entries : Value) (h0_entry : Value) (z : Nat → Int32) (sq : Int32) (mq : Int32) (mk : Int32) (hw : ¬ (nI 1 ≤ sq ∧ sq ≤ nI 3)) : Met l yX10_setStage wsX10_setStage ({ frames := 1, cells := 0, slots := 0, locals := 22 }) (xPre (dC, dI) vwCl [.ref h0, .int sq, .int mq, .int mk] (xtys cI cF cC cZ cQ cS) [(h0, .inr (10, [.ref zq, h0_past, h0_kept, h0_spare, h0_pastMany, h0_isKept, h0_text, h0_typed, h0_isUsed, h0_planBatch, h0_planUnits, h0_planCents, h0_planMany, h0_planGot, h0_planSubstitutes, h0_at, h0_fault, h0_entries, h0_entry])), (zq, .inl (cI, 1002, .inl z))]) (vp_Si (fun r0 => r0 = (-1))) 0 0 (fun _ => False) := by
  refine Met.ofW (cc := cX10_setStage) (maxL := 6) (ret := (some .int)) (by decide) rfl ?_
  intro p e s m args below meth c s₁ B hml hv
  obtain ⟨rfl, hP, hK, hD0, hN⟩ := hv
  have hx := B.exec
  have hb := B.bytes
  have hr := B.returns
  have hts := atoms_spec (ws := wsX10_setStage) B.pre
  have hown : s.vm.findClass RX10 = some m.cls := findClass_of_methodNamed B.named
  have hlocks := B.notSynchronized
  have hD := hD0
  have hl := lv_entry ([.ref h0, .int sq, .int mq, .int mk]) (n := 6) (Nat.le_of_ble_eq_true rfl)
  rw [lg_entry_eq]
  generalize (lg_sl ([.ref h0, .int sq, .int mq, .int mk]) ++ List.replicate (6 - (lg_sl ([.ref h0, .int sq, .int mq, .int mk])).length) Slot.unset).toArray = ls at hl ⊢
  have hl : lv_has ls 6 [(0, .ref h0), (1, .int sq), (2, .int mq), (3, .int mk)] := hl
  refine lv_iload_n hx hb dX10_setStage_0 rfl (lv_at hl 1 rfl) ?_
  refine lv_iconst (v := nI 1) hx hb dX10_setStage_1 (by decide) ?_
  refine lv_iconst (v := nI 3) hx hb dX10_setStage_2 (by decide) ?_
  refine xkRi (xSs (Ws' := ([] : List Cond)) (As := [.int sq, .int (nI 1), .int (nI 3)]) (rest := []) (wc := []) hx hb hml hown hts (c_X10_in l dC dI cI cF cC cZ cQ cS sq (nI 1) (nI 3)) 3 (fun hR => va_cwS 3 hts gX10_setStage_X10_in rfl rfl rfl hdN_X10_in hR) ⟨Nat.le_of_ble_eq_true rfl, Nat.le_of_ble_eq_true rfl⟩ hN hK hP hD [] rfl rfl rfl hl.1 rfl (Nat.le_of_ble_eq_true rfl) dX10_setStage_3 ⟨Nat.zero_le _, Nat.zero_le _⟩) (fun r_1 hr_1 => ?_)
  have hr_1 : r_1 = (if (nI 1) ≤ sq ∧ sq ≤ (nI 3) then nI 1 else nI 0) := hr_1
  obtain rfl : r_1 = nI 0 := hr_1.trans (if_neg hw)
  refine xr_ifn0 (tgt := 11) hx hb (by decide) dX10_setStage_6 (by decide) ?_
  refine lv_iconst (v := (-1)) hx hb dX10_setStage_9 (by decide) ?_
  exact W.iret (v := (-1)) hx hb hr (fun t ht hW => ⟨_, rfl, (show (-1) = (-1) from rfl), ht⟩) (fun q h => by cases h) dX10_setStage_10
set_option maxHeartbeats 4000000 in
set_option maxRecDepth 100000 in
theorem c_X10_setStageb (l : Launch) (dC : Nat → ClassId) (dI : Nat → Nat → Nat) (cI cF cC cZ cQ cS : ClassId) (h0 : Nat) (zq : Nat) (h0_past : Value) (h0_kept : Value) (h0_spare : Value) (h0_pastMany : Value) (h0_isKept : Value) (h0_text : Value) (h0_typed : Value) (h0_isUsed : Value) (h0_planBatch : Value) (h0_planUnits : Value) (h0_planCents : Value) (h0_planMany : Value) (h0_planGot : Value) (h0_planSubstitutes : Value) (h0_at : Value) (h0_fault : Value) (h0_entries : Value) (h0_entry : Value) (z : Nat → Int32) (st : Nat) (mq : Int32) (mk : Int32) (hst : 1 ≤ st ∧ st ≤ 3) (hw : nI 1 ≤ nI st ∧ nI st ≤ nI 3) (hbad : ¬ (((if st = 3 then nI 0 else z (955 + st) + nI 1) ≤ mq ∧ mq ≤ z (954 + st - 1) - nI 1) ∧ nI 0 ≤ mk ∧ mk ≤ nI 1120403456)) : Met l yX10_setStage wsX10_setStage ({ frames := 1, cells := 0, slots := 0, locals := 22 }) (xPre (dC, dI) vwCl [.ref h0, .int (nI st), .int mq, .int mk] (xtys cI cF cC cZ cQ cS) [(h0, .inr (10, [.ref zq, h0_past, h0_kept, h0_spare, h0_pastMany, h0_isKept, h0_text, h0_typed, h0_isUsed, h0_planBatch, h0_planUnits, h0_planCents, h0_planMany, h0_planGot, h0_planSubstitutes, h0_at, h0_fault, h0_entries, h0_entry])), (zq, .inl (cI, 1002, .inl z))]) (vp_Si (fun r0 => r0 = (-2))) 0 0 (fun _ => False) := by
  refine Met.ofW (cc := cX10_setStage) (maxL := 6) (ret := (some .int)) (by decide) rfl ?_
  intro p e s m args below meth c s₁ B hml hv
  obtain ⟨rfl, hP, hK, hD0, hN⟩ := hv
  have hx := B.exec
  have hb := B.bytes
  have hr := B.returns
  have hts := atoms_spec (ws := wsX10_setStage) B.pre
  have hown : s.vm.findClass RX10 = some m.cls := findClass_of_methodNamed B.named
  have hlocks := B.notSynchronized
  have k_7 := hts (Cond.fieldLink RX10 7 "ShelfStagesModel" "z" "[I") (by decide +kernel)
  have kc_68 := hts (Cond.constant RX10 68 (1120403456)) (by decide +kernel)
  have i_X10 : ∀ w ∈ wsX100, w ∈ wsX10_setStage := by decide +kernel
  have hD := hD0
  have hl := lv_entry ([.ref h0, .int (nI st), .int mq, .int mk]) (n := 6) (Nat.le_of_ble_eq_true rfl)
  rw [lg_entry_eq]
  generalize (lg_sl ([.ref h0, .int (nI st), .int mq, .int mk]) ++ List.replicate (6 - (lg_sl ([.ref h0, .int (nI st), .int mq, .int mk])).length) Slot.unset).toArray = ls at hl ⊢
  have hl : lv_has ls 6 [(0, .ref h0), (1, .int (nI st)), (2, .int mq), (3, .int mk)] := hl
  refine lv_iload_n hx hb dX10_setStage_0 rfl (lv_at hl 1 rfl) ?_
  refine lv_iconst (v := nI 1) hx hb dX10_setStage_1 (by decide) ?_
  refine lv_iconst (v := nI 3) hx hb dX10_setStage_2 (by decide) ?_
  refine xkRi (xSs (Ws' := ([] : List Cond)) (As := [.int (nI st), .int (nI 1), .int (nI 3)]) (rest := []) (wc := []) hx hb hml hown hts (c_X10_in l dC dI cI cF cC cZ cQ cS (nI st) (nI 1) (nI 3)) 3 (fun hR => va_cwS 3 hts gX10_setStage_X10_in rfl rfl rfl hdN_X10_in hR) ⟨Nat.le_of_ble_eq_true rfl, Nat.le_of_ble_eq_true rfl⟩ hN hK hP hD [] rfl rfl rfl hl.1 rfl (Nat.le_of_ble_eq_true rfl) dX10_setStage_3 ⟨Nat.zero_le _, Nat.zero_le _⟩) (fun r_1 hr_1 => ?_)
  have hr_1 : r_1 = (if (nI 1) ≤ (nI st) ∧ (nI st) ≤ (nI 3) then nI 1 else nI 0) := hr_1
  obtain rfl : r_1 = nI 1 := hr_1.trans (if_pos hw)
  refine xr_ifn1 (tgt := 11) hx hb (by decide) dX10_setStage_6 (by decide) ?_
  refine xr_cut (g2 := F0 m 34 ls [.int (if st = 3 then nI 0 else z (955 + st) + nI 1)]) (fun kj_2 => ?_) ?_
  · skip
    refine lv_iload_n hx hb dX10_setStage_11 rfl (lv_at hl 1 rfl) ?_
    refine lv_iconst (v := nI 3) hx hb dX10_setStage_12 (by decide) ?_
    refine xr_ne_n (tgt := 20) hx hb (by omega) (by omega) dX10_setStage_13 (by decide) (fun c_3 => ?_) (fun c_3 => ?_)
    · skip
      refine lv_aload_n hx hb dX10_setStage_20 rfl (lv_at hl 0 rfl) ?_
      refine va_get (D := (dC, dI)) (ci := 10) (v := .ref zq) (C := RX10) (T := TX10) (N := 19) hx hb hts i_X10 hown hK hP 0 rfl rfl 0 (by decide) k_7 (fun _ h9 => h9) rfl dX10_setStage_21 ?_
      refine lv_sipush (v := nI 954) hx hb dX10_setStage_24 (by decide) ?_
      refine lv_iload_n hx hb dX10_setStage_27 rfl (lv_at hl 1 rfl) ?_
      refine xr_iadd_n hx hb dX10_setStage_28 ?_
      refine lv_iconst (v := nI 1) hx hb dX10_setStage_29 (by decide) ?_
      refine xr_iadd_n hx hb dX10_setStage_30 ?_
      refine xr_iald hx hb hK hP 1 0 rfl rfl (i := (954 + st) + 1) (by omega) (by decide) dX10_setStage_31 ?_
      refine lv_iconst (v := nI 1) hx hb dX10_setStage_32 (by decide) ?_
      refine lv_iadd hx hb dX10_setStage_33 ?_
      refine xr_top (show (z ((954 + st) + 1)) + (nI 1) = if st = 3 then nI 0 else z (955 + st) + nI 1 from ((congrArg (fun q => z q + nI 1) (show 954 + st + 1 = 955 + st from by omega)).trans (if_neg c_3).symm)) ?_
      exact kj_2
    refine lv_iconst (v := nI 0) hx hb dX10_setStage_16 (by decide) ?_
    refine lv_goto (tgt := 34) hx hb dX10_setStage_17 (by decide) ?_
    refine xr_top (show nI 0 = if st = 3 then nI 0 else z (955 + st) + nI 1 from (if_pos c_3).symm) ?_
    exact kj_2
  refine lv_istore (lv' := [(4, .int (if st = 3 then nI 0 else z (955 + st) + nI 1)), (0, .ref h0), (1, .int (nI st)), (2, .int mq), (3, .int mk)]) hx hb dX10_setStage_34 hl (by decide) rfl (fun ls hl => ?_)
  refine lv_iload_n hx hb dX10_setStage_36 rfl (lv_at hl 3 rfl) ?_
  refine lv_iload hx hb dX10_setStage_37 (lv_at hl 0 rfl) ?_
  refine lv_aload_n hx hb dX10_setStage_39 rfl (lv_at hl 1 rfl) ?_
  refine va_get (D := (dC, dI)) (ci := 10) (v := .ref zq) (C := RX10) (T := TX10) (N := 19) hx hb hts i_X10 hown hK hP 0 rfl rfl 0 (by decide) k_7 (fun _ h9 => h9) rfl dX10_setStage_40 ?_
  refine lv_sipush (v := nI 954) hx hb dX10_setStage_43 (by decide) ?_
  refine lv_iload_n hx hb dX10_setStage_46 rfl (lv_at hl 2 rfl) ?_
  refine xr_iadd_n hx hb dX10_setStage_47 ?_
  refine lv_iconst (v := nI 1) hx hb dX10_setStage_48 (by decide) ?_
  refine xr_isub_n hx hb (by omega) dX10_setStage_49 ?_
  refine xr_iald hx hb hK hP 1 0 rfl rfl (i := (954 + st) - 1) (by omega) (by decide) dX10_setStage_50 ?_
  refine lv_iconst (v := nI 1) hx hb dX10_setStage_51 (by decide) ?_
  refine lv_isub hx hb dX10_setStage_52 ?_
  refine xkRi (xSs (Ws' := ([] : List Cond)) (As := [.int mq, .int (if st = 3 then nI 0 else z (955 + st) + nI 1), .int ((z ((954 + st) - 1)) - (nI 1))]) (rest := []) (wc := []) hx hb hml hown hts (c_X10_in l dC dI cI cF cC cZ cQ cS mq (if st = 3 then nI 0 else z (955 + st) + nI 1) ((z ((954 + st) - 1)) - (nI 1))) 3 (fun hR => va_cwS 3 hts gX10_setStage_X10_in rfl rfl rfl hdN_X10_in hR) ⟨Nat.le_of_ble_eq_true rfl, Nat.le_of_ble_eq_true rfl⟩ hN hK hP hD [] rfl rfl rfl hl.1 rfl (Nat.le_of_ble_eq_true rfl) dX10_setStage_53 ⟨Nat.zero_le _, Nat.zero_le _⟩) (fun r_4 hr_4 => ?_)
  have hr_4 : r_4 = (if (if st = 3 then nI 0 else z (955 + st) + nI 1) ≤ mq ∧ mq ≤ ((z ((954 + st) - 1)) - (nI 1)) then nI 1 else nI 0) := hr_4
  rcases xi_ite inferInstance hr_4 with ⟨c_5, hr_4⟩ | ⟨c_5, hr_4⟩
  · subst hr_4
    refine xr_if1 (tgt := 69) hx hb (by decide) dX10_setStage_56 (by decide) ?_
    refine lv_iload_n hx hb dX10_setStage_59 rfl (lv_at hl 4 rfl) ?_
    refine lv_iconst (v := nI 0) hx hb dX10_setStage_60 (by decide) ?_
    refine lv_ldc hx hb hown kc_68 dX10_setStage_61 ?_
    refine xr_top (show (1120403456 : Int32) = nI 1120403456 from rfl) ?_
    refine xkRi (xSs (Ws' := ([] : List Cond)) (As := [.int mk, .int (nI 0), .int (nI 1120403456)]) (rest := []) (wc := []) hx hb hml hown hts (c_X10_in l dC dI cI cF cC cZ cQ cS mk (nI 0) (nI 1120403456)) 3 (fun hR => va_cwS 3 hts gX10_setStage_X10_in rfl rfl rfl hdN_X10_in hR) ⟨Nat.le_of_ble_eq_true rfl, Nat.le_of_ble_eq_true rfl⟩ hN hK hP hD [] rfl rfl rfl hl.1 rfl (Nat.le_of_ble_eq_true rfl) dX10_setStage_63 ⟨Nat.zero_le _, Nat.zero_le _⟩) (fun r_6 hr_6 => ?_)
    have hr_6 : r_6 = (if (nI 0) ≤ mk ∧ mk ≤ (nI 1120403456) then nI 1 else nI 0) := hr_6
    rcases xi_ite inferInstance hr_6 with ⟨c_7, hr_6⟩ | ⟨c_7, hr_6⟩
    · subst hr_6
      refine xr_ifn1 (tgt := 72) hx hb (by decide) dX10_setStage_66 (by decide) ?_
      exact (hbad ⟨c_5, c_7⟩).elim
    subst hr_6
    refine xr_ifn0 (tgt := 72) hx hb (by decide) dX10_setStage_66 (by decide) ?_
    refine lv_bipush (v := (-2)) hx hb dX10_setStage_69 (by decide) ?_
    exact W.iret (v := (-2)) hx hb hr (fun t ht hW => ⟨_, rfl, (show (-2) = (-2) from rfl), ht⟩) (fun q h => by cases h) dX10_setStage_71
  subst hr_4
  refine xr_if0 (tgt := 69) hx hb (by decide) dX10_setStage_56 (by decide) ?_
  refine lv_bipush (v := (-2)) hx hb dX10_setStage_69 (by decide) ?_
  exact W.iret (v := (-2)) hx hb hr (fun t ht hW => ⟨_, rfl, (show (-2) = (-2) from rfl), ht⟩) (fun q h => by cases h) dX10_setStage_71
set_option maxHeartbeats 4000000 in
set_option maxRecDepth 100000 in
theorem c_X10_setStagee (l : Launch) (dC : Nat → ClassId) (dI : Nat → Nat → Nat) (cI cF cC cZ cQ cS : ClassId) (h0 : Nat) (zq : Nat) (h0_past : Value) (h0_kept : Value) (h0_spare : Value) (h0_pastMany : Value) (h0_isKept : Value) (h0_text : Value) (h0_typed : Value) (h0_isUsed : Value) (h0_planBatch : Value) (h0_planUnits : Value) (h0_planCents : Value) (h0_planMany : Value) (h0_planGot : Value) (h0_planSubstitutes : Value) (h0_at : Value) (h0_fault : Value) (h0_entries : Value) (h0_entry : Value) (z : Nat → Int32) (st : Nat) (mq : Int32) (mk : Int32) (hst : 1 ≤ st ∧ st ≤ 3) (hw : nI 1 ≤ nI st ∧ nI st ≤ nI 3) (hrm : (if st = 3 then nI 0 else z (955 + st) + nI 1) ≤ mq ∧ mq ≤ z (954 + st - 1) - nI 1) (hrg : nI 0 ≤ mk ∧ mk ≤ nI 1120403456) (hsh : z (954 + st) = mq) (hbb : z (958 + st) = mk) : Met l yX10_setStage wsX10_setStage ({ frames := 1, cells := 0, slots := 0, locals := 22 }) (xPre (dC, dI) vwCl [.ref h0, .int (nI st), .int mq, .int mk] (xtys cI cF cC cZ cQ cS) [(h0, .inr (10, [.ref zq, h0_past, h0_kept, h0_spare, h0_pastMany, h0_isKept, h0_text, h0_typed, h0_isUsed, h0_planBatch, h0_planUnits, h0_planCents, h0_planMany, h0_planGot, h0_planSubstitutes, h0_at, h0_fault, h0_entries, h0_entry])), (zq, .inl (cI, 1002, .inl z))]) (vp_Si (fun r0 => r0 = (-5))) 0 0 (fun _ => False) := by
  refine Met.ofW (cc := cX10_setStage) (maxL := 6) (ret := (some .int)) (by decide) rfl ?_
  intro p e s m args below meth c s₁ B hml hv
  obtain ⟨rfl, hP, hK, hD0, hN⟩ := hv
  have hx := B.exec
  have hb := B.bytes
  have hr := B.returns
  have hts := atoms_spec (ws := wsX10_setStage) B.pre
  have hown : s.vm.findClass RX10 = some m.cls := findClass_of_methodNamed B.named
  have hlocks := B.notSynchronized
  have k_7 := hts (Cond.fieldLink RX10 7 "ShelfStagesModel" "z" "[I") (by decide +kernel)
  have kc_68 := hts (Cond.constant RX10 68 (1120403456)) (by decide +kernel)
  have i_X10 : ∀ w ∈ wsX100, w ∈ wsX10_setStage := by decide +kernel
  have hD := hD0
  have hl := lv_entry ([.ref h0, .int (nI st), .int mq, .int mk]) (n := 6) (Nat.le_of_ble_eq_true rfl)
  rw [lg_entry_eq]
  generalize (lg_sl ([.ref h0, .int (nI st), .int mq, .int mk]) ++ List.replicate (6 - (lg_sl ([.ref h0, .int (nI st), .int mq, .int mk])).length) Slot.unset).toArray = ls at hl ⊢
  have hl : lv_has ls 6 [(0, .ref h0), (1, .int (nI st)), (2, .int mq), (3, .int mk)] := hl
  refine lv_iload_n hx hb dX10_setStage_0 rfl (lv_at hl 1 rfl) ?_
  refine lv_iconst (v := nI 1) hx hb dX10_setStage_1 (by decide) ?_
  refine lv_iconst (v := nI 3) hx hb dX10_setStage_2 (by decide) ?_
  refine xkRi (xSs (Ws' := ([] : List Cond)) (As := [.int (nI st), .int (nI 1), .int (nI 3)]) (rest := []) (wc := []) hx hb hml hown hts (c_X10_in l dC dI cI cF cC cZ cQ cS (nI st) (nI 1) (nI 3)) 3 (fun hR => va_cwS 3 hts gX10_setStage_X10_in rfl rfl rfl hdN_X10_in hR) ⟨Nat.le_of_ble_eq_true rfl, Nat.le_of_ble_eq_true rfl⟩ hN hK hP hD [] rfl rfl rfl hl.1 rfl (Nat.le_of_ble_eq_true rfl) dX10_setStage_3 ⟨Nat.zero_le _, Nat.zero_le _⟩) (fun r_1 hr_1 => ?_)
  have hr_1 : r_1 = (if (nI 1) ≤ (nI st) ∧ (nI st) ≤ (nI 3) then nI 1 else nI 0) := hr_1
  obtain rfl : r_1 = nI 1 := hr_1.trans (if_pos hw)
  refine xr_ifn1 (tgt := 11) hx hb (by decide) dX10_setStage_6 (by decide) ?_
  refine xr_cut (g2 := F0 m 34 ls [.int (if st = 3 then nI 0 else z (955 + st) + nI 1)]) (fun kj_2 => ?_) ?_
  · skip
    refine lv_iload_n hx hb dX10_setStage_11 rfl (lv_at hl 1 rfl) ?_
    refine lv_iconst (v := nI 3) hx hb dX10_setStage_12 (by decide) ?_
    refine xr_ne_n (tgt := 20) hx hb (by omega) (by omega) dX10_setStage_13 (by decide) (fun c_3 => ?_) (fun c_3 => ?_)
    · skip
      refine lv_aload_n hx hb dX10_setStage_20 rfl (lv_at hl 0 rfl) ?_
      refine va_get (D := (dC, dI)) (ci := 10) (v := .ref zq) (C := RX10) (T := TX10) (N := 19) hx hb hts i_X10 hown hK hP 0 rfl rfl 0 (by decide) k_7 (fun _ h9 => h9) rfl dX10_setStage_21 ?_
      refine lv_sipush (v := nI 954) hx hb dX10_setStage_24 (by decide) ?_
      refine lv_iload_n hx hb dX10_setStage_27 rfl (lv_at hl 1 rfl) ?_
      refine xr_iadd_n hx hb dX10_setStage_28 ?_
      refine lv_iconst (v := nI 1) hx hb dX10_setStage_29 (by decide) ?_
      refine xr_iadd_n hx hb dX10_setStage_30 ?_
      refine xr_iald hx hb hK hP 1 0 rfl rfl (i := (954 + st) + 1) (by omega) (by decide) dX10_setStage_31 ?_
      refine lv_iconst (v := nI 1) hx hb dX10_setStage_32 (by decide) ?_
      refine lv_iadd hx hb dX10_setStage_33 ?_
      refine xr_top (show (z ((954 + st) + 1)) + (nI 1) = if st = 3 then nI 0 else z (955 + st) + nI 1 from ((congrArg (fun q => z q + nI 1) (show 954 + st + 1 = 955 + st from by omega)).trans (if_neg c_3).symm)) ?_
      exact kj_2
    refine lv_iconst (v := nI 0) hx hb dX10_setStage_16 (by decide) ?_
    refine lv_goto (tgt := 34) hx hb dX10_setStage_17 (by decide) ?_
    refine xr_top (show nI 0 = if st = 3 then nI 0 else z (955 + st) + nI 1 from (if_pos c_3).symm) ?_
    exact kj_2
  refine lv_istore (lv' := [(4, .int (if st = 3 then nI 0 else z (955 + st) + nI 1)), (0, .ref h0), (1, .int (nI st)), (2, .int mq), (3, .int mk)]) hx hb dX10_setStage_34 hl (by decide) rfl (fun ls hl => ?_)
  refine lv_iload_n hx hb dX10_setStage_36 rfl (lv_at hl 3 rfl) ?_
  refine lv_iload hx hb dX10_setStage_37 (lv_at hl 0 rfl) ?_
  refine lv_aload_n hx hb dX10_setStage_39 rfl (lv_at hl 1 rfl) ?_
  refine va_get (D := (dC, dI)) (ci := 10) (v := .ref zq) (C := RX10) (T := TX10) (N := 19) hx hb hts i_X10 hown hK hP 0 rfl rfl 0 (by decide) k_7 (fun _ h9 => h9) rfl dX10_setStage_40 ?_
  refine lv_sipush (v := nI 954) hx hb dX10_setStage_43 (by decide) ?_
  refine lv_iload_n hx hb dX10_setStage_46 rfl (lv_at hl 2 rfl) ?_
  refine xr_iadd_n hx hb dX10_setStage_47 ?_
  refine lv_iconst (v := nI 1) hx hb dX10_setStage_48 (by decide) ?_
  refine xr_isub_n hx hb (by omega) dX10_setStage_49 ?_
  refine xr_iald hx hb hK hP 1 0 rfl rfl (i := (954 + st) - 1) (by omega) (by decide) dX10_setStage_50 ?_
  refine lv_iconst (v := nI 1) hx hb dX10_setStage_51 (by decide) ?_
  refine lv_isub hx hb dX10_setStage_52 ?_
  refine xkRi (xSs (Ws' := ([] : List Cond)) (As := [.int mq, .int (if st = 3 then nI 0 else z (955 + st) + nI 1), .int ((z ((954 + st) - 1)) - (nI 1))]) (rest := []) (wc := []) hx hb hml hown hts (c_X10_in l dC dI cI cF cC cZ cQ cS mq (if st = 3 then nI 0 else z (955 + st) + nI 1) ((z ((954 + st) - 1)) - (nI 1))) 3 (fun hR => va_cwS 3 hts gX10_setStage_X10_in rfl rfl rfl hdN_X10_in hR) ⟨Nat.le_of_ble_eq_true rfl, Nat.le_of_ble_eq_true rfl⟩ hN hK hP hD [] rfl rfl rfl hl.1 rfl (Nat.le_of_ble_eq_true rfl) dX10_setStage_53 ⟨Nat.zero_le _, Nat.zero_le _⟩) (fun r_4 hr_4 => ?_)
  have hr_4 : r_4 = (if (if st = 3 then nI 0 else z (955 + st) + nI 1) ≤ mq ∧ mq ≤ ((z ((954 + st) - 1)) - (nI 1)) then nI 1 else nI 0) := hr_4
  obtain rfl : r_4 = nI 1 := hr_4.trans (if_pos hrm)
  refine xr_if1 (tgt := 69) hx hb (by decide) dX10_setStage_56 (by decide) ?_
  refine lv_iload_n hx hb dX10_setStage_59 rfl (lv_at hl 4 rfl) ?_
  refine lv_iconst (v := nI 0) hx hb dX10_setStage_60 (by decide) ?_
  refine lv_ldc hx hb hown kc_68 dX10_setStage_61 ?_
  refine xr_top (show (1120403456 : Int32) = nI 1120403456 from rfl) ?_
  refine xkRi (xSs (Ws' := ([] : List Cond)) (As := [.int mk, .int (nI 0), .int (nI 1120403456)]) (rest := []) (wc := []) hx hb hml hown hts (c_X10_in l dC dI cI cF cC cZ cQ cS mk (nI 0) (nI 1120403456)) 3 (fun hR => va_cwS 3 hts gX10_setStage_X10_in rfl rfl rfl hdN_X10_in hR) ⟨Nat.le_of_ble_eq_true rfl, Nat.le_of_ble_eq_true rfl⟩ hN hK hP hD [] rfl rfl rfl hl.1 rfl (Nat.le_of_ble_eq_true rfl) dX10_setStage_63 ⟨Nat.zero_le _, Nat.zero_le _⟩) (fun r_5 hr_5 => ?_)
  have hr_5 : r_5 = (if (nI 0) ≤ mk ∧ mk ≤ (nI 1120403456) then nI 1 else nI 0) := hr_5
  obtain rfl : r_5 = nI 1 := hr_5.trans (if_pos hrg)
  refine xr_ifn1 (tgt := 72) hx hb (by decide) dX10_setStage_66 (by decide) ?_
  refine lv_aload_n hx hb dX10_setStage_72 rfl (lv_at hl 1 rfl) ?_
  refine va_get (D := (dC, dI)) (ci := 10) (v := .ref zq) (C := RX10) (T := TX10) (N := 19) hx hb hts i_X10 hown hK hP 0 rfl rfl 0 (by decide) k_7 (fun _ h9 => h9) rfl dX10_setStage_73 ?_
  refine lv_sipush (v := nI 954) hx hb dX10_setStage_76 (by decide) ?_
  refine lv_iload_n hx hb dX10_setStage_79 rfl (lv_at hl 2 rfl) ?_
  refine xr_iadd_n hx hb dX10_setStage_80 ?_
  refine xr_iald hx hb hK hP 1 0 rfl rfl (i := 954 + st) (by omega) (by decide) dX10_setStage_81 ?_
  refine lv_istore (lv' := [(5, .int (z (954 + st))), (4, .int (if st = 3 then nI 0 else z (955 + st) + nI 1)), (0, .ref h0), (1, .int (nI st)), (2, .int mq), (3, .int mk)]) hx hb dX10_setStage_82 hl (by decide) rfl (fun ls hl => ?_)
  refine lv_iload hx hb dX10_setStage_84 (lv_at hl 0 rfl) ?_
  refine lv_iload_n hx hb dX10_setStage_86 rfl (lv_at hl 4 rfl) ?_
  refine lv_icmp_ne (tgt := 107) hx hb dX10_setStage_87 (by decide) (fun c_6 => False.elim (by exact c_6 hsh)) (fun c_6 => ?_)
  refine lv_aload_n hx hb dX10_setStage_90 rfl (lv_at hl 2 rfl) ?_
  refine va_get (D := (dC, dI)) (ci := 10) (v := .ref zq) (C := RX10) (T := TX10) (N := 19) hx hb hts i_X10 hown hK hP 0 rfl rfl 0 (by decide) k_7 (fun _ h9 => h9) rfl dX10_setStage_91 ?_
  refine lv_sipush (v := nI 958) hx hb dX10_setStage_94 (by decide) ?_
  refine lv_iload_n hx hb dX10_setStage_97 rfl (lv_at hl 3 rfl) ?_
  refine xr_iadd_n hx hb dX10_setStage_98 ?_
  refine xr_iald hx hb hK hP 1 0 rfl rfl (i := 958 + st) (by omega) (by decide) dX10_setStage_99 ?_
  refine lv_iload_n hx hb dX10_setStage_100 rfl (lv_at hl 5 rfl) ?_
  refine lv_icmp_ne (tgt := 107) hx hb dX10_setStage_101 (by decide) (fun c_7 => False.elim (by exact c_7 hbb)) (fun c_7 => ?_)
  refine lv_bipush (v := (-5)) hx hb dX10_setStage_104 (by decide) ?_
  exact W.iret (v := (-5)) hx hb hr (fun t ht hW => ⟨_, rfl, (show (-5) = (-5) from rfl), ht⟩) (fun q h => by cases h) dX10_setStage_106
set_option maxHeartbeats 4000000 in
set_option maxRecDepth 100000 in
theorem c_X10_setStages (l : Launch) (dC : Nat → ClassId) (dI : Nat → Nat → Nat) (cI cF cC cZ cQ cS : ClassId) (h0 : Nat) (zq : Nat) (pq : Nat) (h0_kept : Value) (h0_spare : Value) (h0_isKept : Value) (h0_text : Value) (h0_typed : Value) (h0_isUsed : Value) (h0_planBatch : Value) (h0_planUnits : Value) (h0_planCents : Value) (h0_planMany : Value) (h0_planGot : Value) (h0_planSubstitutes : Value) (h0_at : Value) (h0_fault : Value) (h0_entries : Value) (h0_entry : Value) (z : Nat → Int32) (past : Nat → Int32) (pm : Nat) (st : Nat) (mq : Int32) (mk : Int32) (hpm : pm ≤ 4) (hst : 1 ≤ st ∧ st ≤ 3) (hw : nI 1 ≤ nI st ∧ nI st ≤ nI 3) (hrm : (if st = 3 then nI 0 else z (955 + st) + nI 1) ≤ mq ∧ mq ≤ z (954 + st - 1) - nI 1) (hrg : nI 0 ≤ mk ∧ mk ≤ nI 1120403456) (hne : ¬ (z (954 + st) = mq ∧ z (958 + st) = mk)) : Met l yX10_setStage wsX10_setStage ({ frames := 1, cells := 0, slots := 0, locals := 22 }) (xPre (dC, dI) vwCl [.ref h0, .int (nI st), .int mq, .int mk] (xtys cI cF cC cZ cQ cS) [(h0, .inr (10, [.ref zq, .ref pq, h0_kept, h0_spare, .int (nI pm), h0_isKept, h0_text, h0_typed, h0_isUsed, h0_planBatch, h0_planUnits, h0_planCents, h0_planMany, h0_planGot, h0_planSubstitutes, h0_at, h0_fault, h0_entries, h0_entry])), (zq, .inl (cI, 1002, .inl z)), (pq, .inl (cI, 4008, .inl past))]) (xWi (dC, dI) vwCl [(h0, .inr (10, [.ref zq, .ref pq, h0_kept, h0_spare, .int (nI pm), h0_isKept, h0_text, h0_typed, h0_isUsed, h0_planBatch, h0_planUnits, h0_planCents, h0_planMany, h0_planGot, h0_planSubstitutes, h0_at, h0_fault, h0_entries, h0_entry])), (zq, .inl (cI, 1002, .inl z)), (pq, .inl (cI, 4008, .inl past))] (fun r0 w0 => r0 = z (954 + st) ∧ w0 = [(h0, .inr (10, [.ref zq, .ref pq, h0_kept, h0_spare, .int (nI (if pm = 4 then 4 else pm + 1)), h0_isKept, h0_text, h0_typed, h0_isUsed, h0_planBatch, h0_planUnits, h0_planCents, h0_planMany, h0_planGot, h0_planSubstitutes, h0_at, h0_fault, h0_entries, h0_entry])), (zq, .inl (cI, 1002, .inl (upd (upd z (954 + st) mq) (958 + st) mk))), (pq, .inl (cI, 4008, .inl (zrec z past pm)))])) 0 0 (va_B [(h0, .inr (10, [.ref zq, .ref pq, h0_kept, h0_spare, .int (nI pm), h0_isKept, h0_text, h0_typed, h0_isUsed, h0_planBatch, h0_planUnits, h0_planCents, h0_planMany, h0_planGot, h0_planSubstitutes, h0_at, h0_fault, h0_entries, h0_entry])), (zq, .inl (cI, 1002, .inl z)), (pq, .inl (cI, 4008, .inl past))]) := by
  refine Met.ofW (cc := cX10_setStage) (maxL := 6) (ret := (some .int)) (by decide) rfl ?_
  intro p e s m args below meth c s₁ B hml hv
  obtain ⟨rfl, hP, hK, hD0, hN⟩ := hv
  have hx := B.exec
  have hb := B.bytes
  have hr := B.returns
  have hts := atoms_spec (ws := wsX10_setStage) B.pre
  have hown : s.vm.findClass RX10 = some m.cls := findClass_of_methodNamed B.named
  have hlocks := B.notSynchronized
  have k_7 := hts (Cond.fieldLink RX10 7 "ShelfStagesModel" "z" "[I") (by decide +kernel)
  have kc_68 := hts (Cond.constant RX10 68 (1120403456)) (by decide +kernel)
  have i_X10 : ∀ w ∈ wsX100, w ∈ wsX10_setStage := by decide +kernel
  obtain ⟨A, hA⟩ : ∃ A, A = va_B [(h0, .inr (10, [.ref zq, .ref pq, h0_kept, h0_spare, .int (nI pm), h0_isKept, h0_text, h0_typed, h0_isUsed, h0_planBatch, h0_planUnits, h0_planCents, h0_planMany, h0_planGot, h0_planSubstitutes, h0_at, h0_fault, h0_entries, h0_entry])), (zq, .inl (cI, 1002, .inl z)), (pq, .inl (cI, 4008, .inl past))] := ⟨_, rfl⟩
  have hD : va_D A [(h0, .inr (10, [.ref zq, .ref pq, h0_kept, h0_spare, .int (nI pm), h0_isKept, h0_text, h0_typed, h0_isUsed, h0_planBatch, h0_planUnits, h0_planCents, h0_planMany, h0_planGot, h0_planSubstitutes, h0_at, h0_fault, h0_entries, h0_entry])), (zq, .inl (cI, 1002, .inl z)), (pq, .inl (cI, 4008, .inl past))] := hA ▸ hD0.own
  have hS : va_S A s.heap s.heap [] := va_S.rf
  have hl := lv_entry ([.ref h0, .int (nI st), .int mq, .int mk]) (n := 6) (Nat.le_of_ble_eq_true rfl)
  rw [lg_entry_eq]
  generalize (lg_sl ([.ref h0, .int (nI st), .int mq, .int mk]) ++ List.replicate (6 - (lg_sl ([.ref h0, .int (nI st), .int mq, .int mk])).length) Slot.unset).toArray = ls at hl ⊢
  have hl : lv_has ls 6 [(0, .ref h0), (1, .int (nI st)), (2, .int mq), (3, .int mk)] := hl
  refine lv_iload_n hx hb dX10_setStage_0 rfl (lv_at hl 1 rfl) ?_
  refine lv_iconst (v := nI 1) hx hb dX10_setStage_1 (by decide) ?_
  refine lv_iconst (v := nI 3) hx hb dX10_setStage_2 (by decide) ?_
  refine xkRi (xSs (Ws' := ([] : List Cond)) (As := [.int (nI st), .int (nI 1), .int (nI 3)]) (rest := []) (wc := []) hx hb hml hown hts (c_X10_in l dC dI cI cF cC cZ cQ cS (nI st) (nI 1) (nI 3)) 3 (fun hR => va_cwS 3 hts gX10_setStage_X10_in rfl rfl rfl hdN_X10_in hR) ⟨Nat.le_of_ble_eq_true rfl, Nat.le_of_ble_eq_true rfl⟩ hN hK hP hD [] rfl rfl rfl hl.1 rfl (Nat.le_of_ble_eq_true rfl) dX10_setStage_3 ⟨Nat.zero_le _, Nat.zero_le _⟩) (fun r_1 hr_1 => ?_)
  have hr_1 : r_1 = (if (nI 1) ≤ (nI st) ∧ (nI st) ≤ (nI 3) then nI 1 else nI 0) := hr_1
  obtain rfl : r_1 = nI 1 := hr_1.trans (if_pos hw)
  refine xr_ifn1 (tgt := 11) hx hb (by decide) dX10_setStage_6 (by decide) ?_
  refine xr_cut (g2 := F0 m 34 ls [.int (if st = 3 then nI 0 else z (955 + st) + nI 1)]) (fun kj_2 => ?_) ?_
  · skip
    refine lv_iload_n hx hb dX10_setStage_11 rfl (lv_at hl 1 rfl) ?_
    refine lv_iconst (v := nI 3) hx hb dX10_setStage_12 (by decide) ?_
    refine xr_ne_n (tgt := 20) hx hb (by omega) (by omega) dX10_setStage_13 (by decide) (fun c_3 => ?_) (fun c_3 => ?_)
    · skip
      refine lv_aload_n hx hb dX10_setStage_20 rfl (lv_at hl 0 rfl) ?_
      refine va_get (D := (dC, dI)) (ci := 10) (v := .ref zq) (C := RX10) (T := TX10) (N := 19) hx hb hts i_X10 hown hK hP 0 rfl rfl 0 (by decide) k_7 (fun _ h9 => h9) rfl dX10_setStage_21 ?_
      refine lv_sipush (v := nI 954) hx hb dX10_setStage_24 (by decide) ?_
      refine lv_iload_n hx hb dX10_setStage_27 rfl (lv_at hl 1 rfl) ?_
      refine xr_iadd_n hx hb dX10_setStage_28 ?_
      refine lv_iconst (v := nI 1) hx hb dX10_setStage_29 (by decide) ?_
      refine xr_iadd_n hx hb dX10_setStage_30 ?_
      refine xr_iald hx hb hK hP 1 0 rfl rfl (i := (954 + st) + 1) (by omega) (by decide) dX10_setStage_31 ?_
      refine lv_iconst (v := nI 1) hx hb dX10_setStage_32 (by decide) ?_
      refine lv_iadd hx hb dX10_setStage_33 ?_
      refine xr_top (show (z ((954 + st) + 1)) + (nI 1) = if st = 3 then nI 0 else z (955 + st) + nI 1 from ((congrArg (fun q => z q + nI 1) (show 954 + st + 1 = 955 + st from by omega)).trans (if_neg c_3).symm)) ?_
      exact kj_2
    refine lv_iconst (v := nI 0) hx hb dX10_setStage_16 (by decide) ?_
    refine lv_goto (tgt := 34) hx hb dX10_setStage_17 (by decide) ?_
    refine xr_top (show nI 0 = if st = 3 then nI 0 else z (955 + st) + nI 1 from (if_pos c_3).symm) ?_
    exact kj_2
  refine lv_istore (lv' := [(4, .int (if st = 3 then nI 0 else z (955 + st) + nI 1)), (0, .ref h0), (1, .int (nI st)), (2, .int mq), (3, .int mk)]) hx hb dX10_setStage_34 hl (by decide) rfl (fun ls hl => ?_)
  refine lv_iload_n hx hb dX10_setStage_36 rfl (lv_at hl 3 rfl) ?_
  refine lv_iload hx hb dX10_setStage_37 (lv_at hl 0 rfl) ?_
  refine lv_aload_n hx hb dX10_setStage_39 rfl (lv_at hl 1 rfl) ?_
  refine va_get (D := (dC, dI)) (ci := 10) (v := .ref zq) (C := RX10) (T := TX10) (N := 19) hx hb hts i_X10 hown hK hP 0 rfl rfl 0 (by decide) k_7 (fun _ h9 => h9) rfl dX10_setStage_40 ?_
  refine lv_sipush (v := nI 954) hx hb dX10_setStage_43 (by decide) ?_
  refine lv_iload_n hx hb dX10_setStage_46 rfl (lv_at hl 2 rfl) ?_
  refine xr_iadd_n hx hb dX10_setStage_47 ?_
  refine lv_iconst (v := nI 1) hx hb dX10_setStage_48 (by decide) ?_
  refine xr_isub_n hx hb (by omega) dX10_setStage_49 ?_
  refine xr_iald hx hb hK hP 1 0 rfl rfl (i := (954 + st) - 1) (by omega) (by decide) dX10_setStage_50 ?_
  refine lv_iconst (v := nI 1) hx hb dX10_setStage_51 (by decide) ?_
  refine lv_isub hx hb dX10_setStage_52 ?_
  refine xkRi (xSs (Ws' := ([] : List Cond)) (As := [.int mq, .int (if st = 3 then nI 0 else z (955 + st) + nI 1), .int ((z ((954 + st) - 1)) - (nI 1))]) (rest := []) (wc := []) hx hb hml hown hts (c_X10_in l dC dI cI cF cC cZ cQ cS mq (if st = 3 then nI 0 else z (955 + st) + nI 1) ((z ((954 + st) - 1)) - (nI 1))) 3 (fun hR => va_cwS 3 hts gX10_setStage_X10_in rfl rfl rfl hdN_X10_in hR) ⟨Nat.le_of_ble_eq_true rfl, Nat.le_of_ble_eq_true rfl⟩ hN hK hP hD [] rfl rfl rfl hl.1 rfl (Nat.le_of_ble_eq_true rfl) dX10_setStage_53 ⟨Nat.zero_le _, Nat.zero_le _⟩) (fun r_4 hr_4 => ?_)
  have hr_4 : r_4 = (if (if st = 3 then nI 0 else z (955 + st) + nI 1) ≤ mq ∧ mq ≤ ((z ((954 + st) - 1)) - (nI 1)) then nI 1 else nI 0) := hr_4
  obtain rfl : r_4 = nI 1 := hr_4.trans (if_pos hrm)
  refine xr_if1 (tgt := 69) hx hb (by decide) dX10_setStage_56 (by decide) ?_
  refine lv_iload_n hx hb dX10_setStage_59 rfl (lv_at hl 4 rfl) ?_
  refine lv_iconst (v := nI 0) hx hb dX10_setStage_60 (by decide) ?_
  refine lv_ldc hx hb hown kc_68 dX10_setStage_61 ?_
  refine xr_top (show (1120403456 : Int32) = nI 1120403456 from rfl) ?_
  refine xkRi (xSs (Ws' := ([] : List Cond)) (As := [.int mk, .int (nI 0), .int (nI 1120403456)]) (rest := []) (wc := []) hx hb hml hown hts (c_X10_in l dC dI cI cF cC cZ cQ cS mk (nI 0) (nI 1120403456)) 3 (fun hR => va_cwS 3 hts gX10_setStage_X10_in rfl rfl rfl hdN_X10_in hR) ⟨Nat.le_of_ble_eq_true rfl, Nat.le_of_ble_eq_true rfl⟩ hN hK hP hD [] rfl rfl rfl hl.1 rfl (Nat.le_of_ble_eq_true rfl) dX10_setStage_63 ⟨Nat.zero_le _, Nat.zero_le _⟩) (fun r_5 hr_5 => ?_)
  have hr_5 : r_5 = (if (nI 0) ≤ mk ∧ mk ≤ (nI 1120403456) then nI 1 else nI 0) := hr_5
  obtain rfl : r_5 = nI 1 := hr_5.trans (if_pos hrg)
  refine xr_ifn1 (tgt := 72) hx hb (by decide) dX10_setStage_66 (by decide) ?_
  refine lv_aload_n hx hb dX10_setStage_72 rfl (lv_at hl 1 rfl) ?_
  refine va_get (D := (dC, dI)) (ci := 10) (v := .ref zq) (C := RX10) (T := TX10) (N := 19) hx hb hts i_X10 hown hK hP 0 rfl rfl 0 (by decide) k_7 (fun _ h9 => h9) rfl dX10_setStage_73 ?_
  refine lv_sipush (v := nI 954) hx hb dX10_setStage_76 (by decide) ?_
  refine lv_iload_n hx hb dX10_setStage_79 rfl (lv_at hl 2 rfl) ?_
  refine xr_iadd_n hx hb dX10_setStage_80 ?_
  refine xr_iald hx hb hK hP 1 0 rfl rfl (i := 954 + st) (by omega) (by decide) dX10_setStage_81 ?_
  refine lv_istore (lv' := [(5, .int (z (954 + st))), (4, .int (if st = 3 then nI 0 else z (955 + st) + nI 1)), (0, .ref h0), (1, .int (nI st)), (2, .int mq), (3, .int mk)]) hx hb dX10_setStage_82 hl (by decide) rfl (fun ls hl => ?_)
  refine xr_cut (g2 := F0 m 107 ls []) (fun kj_6 => ?_) ?_
  · skip
    refine lv_iload hx hb dX10_setStage_84 (lv_at hl 0 rfl) ?_
    refine lv_iload_n hx hb dX10_setStage_86 rfl (lv_at hl 4 rfl) ?_
    refine lv_icmp_ne (tgt := 107) hx hb dX10_setStage_87 (by decide) (fun c_7 => ?_) (fun c_7 => ?_)
    · skip
      exact kj_6
    refine lv_aload_n hx hb dX10_setStage_90 rfl (lv_at hl 2 rfl) ?_
    refine va_get (D := (dC, dI)) (ci := 10) (v := .ref zq) (C := RX10) (T := TX10) (N := 19) hx hb hts i_X10 hown hK hP 0 rfl rfl 0 (by decide) k_7 (fun _ h9 => h9) rfl dX10_setStage_91 ?_
    refine lv_sipush (v := nI 958) hx hb dX10_setStage_94 (by decide) ?_
    refine lv_iload_n hx hb dX10_setStage_97 rfl (lv_at hl 3 rfl) ?_
    refine xr_iadd_n hx hb dX10_setStage_98 ?_
    refine xr_iald hx hb hK hP 1 0 rfl rfl (i := 958 + st) (by omega) (by decide) dX10_setStage_99 ?_
    refine lv_iload_n hx hb dX10_setStage_100 rfl (lv_at hl 5 rfl) ?_
    refine lv_icmp_ne (tgt := 107) hx hb dX10_setStage_101 (by decide) (fun c_8 => ?_) (fun c_8 => False.elim (by exact hne ⟨c_7, c_8⟩))
    exact kj_6
  refine lv_aload_n hx hb dX10_setStage_107 rfl (lv_at hl 2 rfl) ?_
  refine xkV2 (xV (As := []) (rest := []) (wc := [(h0, .inr (10, [.ref zq, .ref pq, h0_kept, h0_spare, .int (nI pm), h0_isKept, h0_text, h0_typed, h0_isUsed, h0_planBatch, h0_planUnits, h0_planCents, h0_planMany, h0_planGot, h0_planSubstitutes, h0_at, h0_fault, h0_entries, h0_entry])), (zq, .inl (cI, 1002, .inl z)), (pq, .inl (cI, 4008, .inl past))]) hx hb hml hown hts (c_X10_record l dC dI cI cF cC cZ cQ cS h0 zq pq h0_kept h0_spare h0_isKept h0_text h0_typed h0_isUsed h0_planBatch h0_planUnits h0_planCents h0_planMany h0_planGot h0_planSubstitutes h0_at h0_fault h0_entries h0_entry z past pm (by omega)) 0 gX10_setStage_X10_record rfl rfl rfl hdV_X10_record ⟨Nat.le_of_ble_eq_true rfl, Nat.le_of_ble_eq_true rfl⟩ hN hK hP hD [0, 1, 2] rfl rfl 10 0 rfl rfl rfl hl.1 rfl (Nat.le_of_ble_eq_true rfl) dX10_setStage_108 ⟨Nat.zero_le _, Nat.zero_le _⟩) hP hD hS [0, 1, 2] [0, 1, 2] rfl rfl 3 rfl (by decide +kernel) (fun H locs hP hD hS => ?_)
  have hP : va_P (dC, dI) vwCl [(h0, .inr (10, [.ref zq, .ref pq, h0_kept, h0_spare, .int (nI (if pm = 4 then 4 else pm + 1)), h0_isKept, h0_text, h0_typed, h0_isUsed, h0_planBatch, h0_planUnits, h0_planCents, h0_planMany, h0_planGot, h0_planSubstitutes, h0_at, h0_fault, h0_entries, h0_entry])), (zq, .inl (cI, 1002, .inl z)), (pq, .inl (cI, 4008, .inl (zrec z past pm)))] H := hP
  have hD : va_D A [(h0, .inr (10, [.ref zq, .ref pq, h0_kept, h0_spare, .int (nI (if pm = 4 then 4 else pm + 1)), h0_isKept, h0_text, h0_typed, h0_isUsed, h0_planBatch, h0_planUnits, h0_planCents, h0_planMany, h0_planGot, h0_planSubstitutes, h0_at, h0_fault, h0_entries, h0_entry])), (zq, .inl (cI, 1002, .inl z)), (pq, .inl (cI, 4008, .inl (zrec z past pm)))] := hD
  refine lv_aload_n hx hb dX10_setStage_111 rfl (lv_at hl 2 rfl) ?_
  refine va_get (D := (dC, dI)) (ci := 10) (v := .ref zq) (C := RX10) (T := TX10) (N := 19) hx hb hts i_X10 hown hK hP 0 rfl rfl 0 (by decide) k_7 (fun _ h9 => h9) rfl dX10_setStage_112 ?_
  refine lv_sipush (v := nI 954) hx hb dX10_setStage_115 (by decide) ?_
  refine lv_iload_n hx hb dX10_setStage_118 rfl (lv_at hl 3 rfl) ?_
  refine xr_iadd_n hx hb dX10_setStage_119 ?_
  refine lv_iload_n hx hb dX10_setStage_120 rfl (lv_at hl 4 rfl) ?_
  refine xr_iast hx hb hK hP hD hS 1 0 rfl rfl (i := 954 + st) (by omega) (by decide) dX10_setStage_121 (fun H locs hP hD hS => ?_)
  have hP : va_P (dC, dI) vwCl [(h0, .inr (10, [.ref zq, .ref pq, h0_kept, h0_spare, .int (nI (if pm = 4 then 4 else pm + 1)), h0_isKept, h0_text, h0_typed, h0_isUsed, h0_planBatch, h0_planUnits, h0_planCents, h0_planMany, h0_planGot, h0_planSubstitutes, h0_at, h0_fault, h0_entries, h0_entry])), (zq, .inl (cI, 1002, .inl (upd z (954 + st) mq))), (pq, .inl (cI, 4008, .inl (zrec z past pm)))] H := hP
  have hD : va_D A [(h0, .inr (10, [.ref zq, .ref pq, h0_kept, h0_spare, .int (nI (if pm = 4 then 4 else pm + 1)), h0_isKept, h0_text, h0_typed, h0_isUsed, h0_planBatch, h0_planUnits, h0_planCents, h0_planMany, h0_planGot, h0_planSubstitutes, h0_at, h0_fault, h0_entries, h0_entry])), (zq, .inl (cI, 1002, .inl (upd z (954 + st) mq))), (pq, .inl (cI, 4008, .inl (zrec z past pm)))] := hD
  refine lv_aload_n hx hb dX10_setStage_122 rfl (lv_at hl 2 rfl) ?_
  refine va_get (D := (dC, dI)) (ci := 10) (v := .ref zq) (C := RX10) (T := TX10) (N := 19) hx hb hts i_X10 hown hK hP 0 rfl rfl 0 (by decide) k_7 (fun _ h9 => h9) rfl dX10_setStage_123 ?_
  refine lv_sipush (v := nI 958) hx hb dX10_setStage_126 (by decide) ?_
  refine lv_iload_n hx hb dX10_setStage_129 rfl (lv_at hl 3 rfl) ?_
  refine xr_iadd_n hx hb dX10_setStage_130 ?_
  refine lv_iload_n hx hb dX10_setStage_131 rfl (lv_at hl 5 rfl) ?_
  refine xr_iast hx hb hK hP hD hS 1 0 rfl rfl (i := 958 + st) (by omega) (by decide) dX10_setStage_132 (fun H locs hP hD hS => ?_)
  have hP : va_P (dC, dI) vwCl [(h0, .inr (10, [.ref zq, .ref pq, h0_kept, h0_spare, .int (nI (if pm = 4 then 4 else pm + 1)), h0_isKept, h0_text, h0_typed, h0_isUsed, h0_planBatch, h0_planUnits, h0_planCents, h0_planMany, h0_planGot, h0_planSubstitutes, h0_at, h0_fault, h0_entries, h0_entry])), (zq, .inl (cI, 1002, .inl (upd (upd z (954 + st) mq) (958 + st) mk))), (pq, .inl (cI, 4008, .inl (zrec z past pm)))] H := hP
  have hD : va_D A [(h0, .inr (10, [.ref zq, .ref pq, h0_kept, h0_spare, .int (nI (if pm = 4 then 4 else pm + 1)), h0_isKept, h0_text, h0_typed, h0_isUsed, h0_planBatch, h0_planUnits, h0_planCents, h0_planMany, h0_planGot, h0_planSubstitutes, h0_at, h0_fault, h0_entries, h0_entry])), (zq, .inl (cI, 1002, .inl (upd (upd z (954 + st) mq) (958 + st) mk))), (pq, .inl (cI, 4008, .inl (zrec z past pm)))] := hD
  refine lv_iload hx hb dX10_setStage_133 (lv_at hl 0 rfl) ?_
  have hP9 : va_P (dC, dI) vwCl [(h0, .inr (10, [.ref zq, .ref pq, h0_kept, h0_spare, .int (nI (if pm = 4 then 4 else pm + 1)), h0_isKept, h0_text, h0_typed, h0_isUsed, h0_planBatch, h0_planUnits, h0_planCents, h0_planMany, h0_planGot, h0_planSubstitutes, h0_at, h0_fault, h0_entries, h0_entry])), (zq, .inl (cI, 1002, .inl (upd (upd z (954 + st) mq) (958 + st) mk))), (pq, .inl (cI, 4008, .inl (zrec z past pm)))] H := hP
  have hS9 : va_S (va_B [(h0, .inr (10, [.ref zq, .ref pq, h0_kept, h0_spare, .int (nI pm), h0_isKept, h0_text, h0_typed, h0_isUsed, h0_planBatch, h0_planUnits, h0_planCents, h0_planMany, h0_planGot, h0_planSubstitutes, h0_at, h0_fault, h0_entries, h0_entry])), (zq, .inl (cI, 1002, .inl z)), (pq, .inl (cI, 4008, .inl past))]) s.heap H locs := by rw [← hA]; exact hS
  exact W.iret (v := z (954 + st)) hx hb hr (fun t ht hW => ⟨⟨_, _, rfl, ⟨(show z (954 + st) = z (954 + st) from rfl), rfl⟩, by rw [ht]; exact hP9⟩, hS9.X ht⟩) hS9.2.2 dX10_setStage_135
theorem hdV_X10_setRebate : yX10_setRebate.cls = RX10 ∧ yX10_setRebate.cls ≠ "java/lang/invoke/MethodHandle" ∧ yX10_setRebate.cls ≠ "java/lang/invoke/VarHandle" ∧ (parseMethodDescriptor yX10_setRebate.desc).map (fun d => d.parameters.length) = some 1 := by decide +kernel
set_option maxHeartbeats 4000000 in
set_option maxRecDepth 100000 in
theorem c_X10_setRebateb (l : Launch) (dC : Nat → ClassId) (dI : Nat → Nat → Nat) (cI cF cC cZ cQ cS : ClassId) (h0 : Nat) (zq : Nat) (h0_past : Value) (h0_kept : Value) (h0_spare : Value) (h0_pastMany : Value) (h0_isKept : Value) (h0_text : Value) (h0_typed : Value) (h0_isUsed : Value) (h0_planBatch : Value) (h0_planUnits : Value) (h0_planCents : Value) (h0_planMany : Value) (h0_planGot : Value) (h0_planSubstitutes : Value) (h0_at : Value) (h0_fault : Value) (h0_entries : Value) (h0_entry : Value) (z : Nat → Int32) (mk : Int32) (hw : ¬ (nI 0 ≤ mk ∧ mk ≤ nI 1106247680)) : Met l yX10_setRebate wsX10_setRebate ({ frames := 1, cells := 0, slots := 0, locals := 22 }) (xPre (dC, dI) vwCl [.ref h0, .int mk] (xtys cI cF cC cZ cQ cS) [(h0, .inr (10, [.ref zq, h0_past, h0_kept, h0_spare, h0_pastMany, h0_isKept, h0_text, h0_typed, h0_isUsed, h0_planBatch, h0_planUnits, h0_planCents, h0_planMany, h0_planGot, h0_planSubstitutes, h0_at, h0_fault, h0_entries, h0_entry])), (zq, .inl (cI, 1002, .inl z))]) (vp_Si (fun r0 => r0 = (-2))) 0 0 (fun _ => False) := by
  refine Met.ofW (cc := cX10_setRebate) (maxL := 2) (ret := (some .int)) (by decide) rfl ?_
  intro p e s m args below meth c s₁ B hml hv
  obtain ⟨rfl, hP, hK, hD0, hN⟩ := hv
  have hx := B.exec
  have hb := B.bytes
  have hr := B.returns
  have hts := atoms_spec (ws := wsX10_setRebate) B.pre
  have hown : s.vm.findClass RX10 = some m.cls := findClass_of_methodNamed B.named
  have hlocks := B.notSynchronized
  have kc_69 := hts (Cond.constant RX10 69 (1106247680)) (by decide +kernel)
  have hD := hD0
  have hl := lv_entry ([.ref h0, .int mk]) (n := 2) (Nat.le_of_ble_eq_true rfl)
  rw [lg_entry_eq]
  generalize (lg_sl ([.ref h0, .int mk]) ++ List.replicate (2 - (lg_sl ([.ref h0, .int mk])).length) Slot.unset).toArray = ls at hl ⊢
  have hl : lv_has ls 2 [(0, .ref h0), (1, .int mk)] := hl
  refine lv_iload_n hx hb dX10_setRebate_0 rfl (lv_at hl 1 rfl) ?_
  refine lv_iconst (v := nI 0) hx hb dX10_setRebate_1 (by decide) ?_
  refine lv_ldc hx hb hown kc_69 dX10_setRebate_2 ?_
  refine xr_top (show (1106247680 : Int32) = nI 1106247680 from rfl) ?_
  refine xkRi (xSs (Ws' := ([] : List Cond)) (As := [.int mk, .int (nI 0), .int (nI 1106247680)]) (rest := []) (wc := []) hx hb hml hown hts (c_X10_in l dC dI cI cF cC cZ cQ cS mk (nI 0) (nI 1106247680)) 3 (fun hR => va_cwS 3 hts gX10_setRebate_X10_in rfl rfl rfl hdN_X10_in hR) ⟨Nat.le_of_ble_eq_true rfl, Nat.le_of_ble_eq_true rfl⟩ hN hK hP hD [] rfl rfl rfl hl.1 rfl (Nat.le_of_ble_eq_true rfl) dX10_setRebate_4 ⟨Nat.zero_le _, Nat.zero_le _⟩) (fun r_1 hr_1 => ?_)
  have hr_1 : r_1 = (if (nI 0) ≤ mk ∧ mk ≤ (nI 1106247680) then nI 1 else nI 0) := hr_1
  obtain rfl : r_1 = nI 0 := hr_1.trans (if_neg hw)
  refine xr_ifn0 (tgt := 13) hx hb (by decide) dX10_setRebate_7 (by decide) ?_
  refine lv_bipush (v := (-2)) hx hb dX10_setRebate_10 (by decide) ?_
  exact W.iret (v := (-2)) hx hb hr (fun t ht hW => ⟨_, rfl, (show (-2) = (-2) from rfl), ht⟩) (fun q h => by cases h) dX10_setRebate_12
set_option maxHeartbeats 4000000 in
set_option maxRecDepth 100000 in
theorem c_X10_setRebatee (l : Launch) (dC : Nat → ClassId) (dI : Nat → Nat → Nat) (cI cF cC cZ cQ cS : ClassId) (h0 : Nat) (zq : Nat) (h0_past : Value) (h0_kept : Value) (h0_spare : Value) (h0_pastMany : Value) (h0_isKept : Value) (h0_text : Value) (h0_typed : Value) (h0_isUsed : Value) (h0_planBatch : Value) (h0_planUnits : Value) (h0_planCents : Value) (h0_planMany : Value) (h0_planGot : Value) (h0_planSubstitutes : Value) (h0_at : Value) (h0_fault : Value) (h0_entries : Value) (h0_entry : Value) (z : Nat → Int32) (mk : Int32) (hw : nI 0 ≤ mk ∧ mk ≤ nI 1106247680) (hv : z 7 = mk) : Met l yX10_setRebate wsX10_setRebate ({ frames := 1, cells := 0, slots := 0, locals := 22 }) (xPre (dC, dI) vwCl [.ref h0, .int mk] (xtys cI cF cC cZ cQ cS) [(h0, .inr (10, [.ref zq, h0_past, h0_kept, h0_spare, h0_pastMany, h0_isKept, h0_text, h0_typed, h0_isUsed, h0_planBatch, h0_planUnits, h0_planCents, h0_planMany, h0_planGot, h0_planSubstitutes, h0_at, h0_fault, h0_entries, h0_entry])), (zq, .inl (cI, 1002, .inl z))]) (vp_Si (fun r0 => r0 = (-5))) 0 0 (fun _ => False) := by
  refine Met.ofW (cc := cX10_setRebate) (maxL := 2) (ret := (some .int)) (by decide) rfl ?_
  intro p e s m args below meth c s₁ B hml hv
  obtain ⟨rfl, hP, hK, hD0, hN⟩ := hv
  have hx := B.exec
  have hb := B.bytes
  have hr := B.returns
  have hts := atoms_spec (ws := wsX10_setRebate) B.pre
  have hown : s.vm.findClass RX10 = some m.cls := findClass_of_methodNamed B.named
  have hlocks := B.notSynchronized
  have k_7 := hts (Cond.fieldLink RX10 7 "ShelfStagesModel" "z" "[I") (by decide +kernel)
  have kc_69 := hts (Cond.constant RX10 69 (1106247680)) (by decide +kernel)
  have i_X10 : ∀ w ∈ wsX100, w ∈ wsX10_setRebate := by decide +kernel
  have hD := hD0
  have hl := lv_entry ([.ref h0, .int mk]) (n := 2) (Nat.le_of_ble_eq_true rfl)
  rw [lg_entry_eq]
  generalize (lg_sl ([.ref h0, .int mk]) ++ List.replicate (2 - (lg_sl ([.ref h0, .int mk])).length) Slot.unset).toArray = ls at hl ⊢
  have hl : lv_has ls 2 [(0, .ref h0), (1, .int mk)] := hl
  refine lv_iload_n hx hb dX10_setRebate_0 rfl (lv_at hl 1 rfl) ?_
  refine lv_iconst (v := nI 0) hx hb dX10_setRebate_1 (by decide) ?_
  refine lv_ldc hx hb hown kc_69 dX10_setRebate_2 ?_
  refine xr_top (show (1106247680 : Int32) = nI 1106247680 from rfl) ?_
  refine xkRi (xSs (Ws' := ([] : List Cond)) (As := [.int mk, .int (nI 0), .int (nI 1106247680)]) (rest := []) (wc := []) hx hb hml hown hts (c_X10_in l dC dI cI cF cC cZ cQ cS mk (nI 0) (nI 1106247680)) 3 (fun hR => va_cwS 3 hts gX10_setRebate_X10_in rfl rfl rfl hdN_X10_in hR) ⟨Nat.le_of_ble_eq_true rfl, Nat.le_of_ble_eq_true rfl⟩ hN hK hP hD [] rfl rfl rfl hl.1 rfl (Nat.le_of_ble_eq_true rfl) dX10_setRebate_4 ⟨Nat.zero_le _, Nat.zero_le _⟩) (fun r_1 hr_1 => ?_)
  have hr_1 : r_1 = (if (nI 0) ≤ mk ∧ mk ≤ (nI 1106247680) then nI 1 else nI 0) := hr_1
  obtain rfl : r_1 = nI 1 := hr_1.trans (if_pos hw)
  refine xr_ifn1 (tgt := 13) hx hb (by decide) dX10_setRebate_7 (by decide) ?_
  refine lv_aload_n hx hb dX10_setRebate_13 rfl (lv_at hl 0 rfl) ?_
  refine va_get (D := (dC, dI)) (ci := 10) (v := .ref zq) (C := RX10) (T := TX10) (N := 19) hx hb hts i_X10 hown hK hP 0 rfl rfl 0 (by decide) k_7 (fun _ h9 => h9) rfl dX10_setRebate_14 ?_
  refine lv_bipush (v := nI 7) hx hb dX10_setRebate_17 (by decide) ?_
  refine xr_iald hx hb hK hP 1 0 rfl rfl (i := 7) (by omega) (by decide) dX10_setRebate_19 ?_
  refine lv_iload_n hx hb dX10_setRebate_20 rfl (lv_at hl 1 rfl) ?_
  refine lv_icmp_ne (tgt := 27) hx hb dX10_setRebate_21 (by decide) (fun c_2 => False.elim (by exact c_2 hv)) (fun c_2 => ?_)
  refine lv_bipush (v := (-5)) hx hb dX10_setRebate_24 (by decide) ?_
  exact W.iret (v := (-5)) hx hb hr (fun t ht hW => ⟨_, rfl, (show (-5) = (-5) from rfl), ht⟩) (fun q h => by cases h) dX10_setRebate_26
set_option maxHeartbeats 4000000 in
set_option maxRecDepth 100000 in
theorem c_X10_setRebates (l : Launch) (dC : Nat → ClassId) (dI : Nat → Nat → Nat) (cI cF cC cZ cQ cS : ClassId) (h0 : Nat) (zq : Nat) (pq : Nat) (h0_kept : Value) (h0_spare : Value) (h0_isKept : Value) (h0_text : Value) (h0_typed : Value) (h0_isUsed : Value) (h0_planBatch : Value) (h0_planUnits : Value) (h0_planCents : Value) (h0_planMany : Value) (h0_planGot : Value) (h0_planSubstitutes : Value) (h0_at : Value) (h0_fault : Value) (h0_entries : Value) (h0_entry : Value) (z : Nat → Int32) (past : Nat → Int32) (pm : Nat) (mk : Int32) (hpm : pm ≤ 4) (hw : nI 0 ≤ mk ∧ mk ≤ nI 1106247680) (hv : ¬ z 7 = mk) : Met l yX10_setRebate wsX10_setRebate ({ frames := 1, cells := 0, slots := 0, locals := 22 }) (xPre (dC, dI) vwCl [.ref h0, .int mk] (xtys cI cF cC cZ cQ cS) [(h0, .inr (10, [.ref zq, .ref pq, h0_kept, h0_spare, .int (nI pm), h0_isKept, h0_text, h0_typed, h0_isUsed, h0_planBatch, h0_planUnits, h0_planCents, h0_planMany, h0_planGot, h0_planSubstitutes, h0_at, h0_fault, h0_entries, h0_entry])), (zq, .inl (cI, 1002, .inl z)), (pq, .inl (cI, 4008, .inl past))]) (xWi (dC, dI) vwCl [(h0, .inr (10, [.ref zq, .ref pq, h0_kept, h0_spare, .int (nI pm), h0_isKept, h0_text, h0_typed, h0_isUsed, h0_planBatch, h0_planUnits, h0_planCents, h0_planMany, h0_planGot, h0_planSubstitutes, h0_at, h0_fault, h0_entries, h0_entry])), (zq, .inl (cI, 1002, .inl z)), (pq, .inl (cI, 4008, .inl past))] (fun r0 w0 => r0 = nI 1 ∧ w0 = [(h0, .inr (10, [.ref zq, .ref pq, h0_kept, h0_spare, .int (nI (if pm = 4 then 4 else pm + 1)), h0_isKept, h0_text, h0_typed, h0_isUsed, h0_planBatch, h0_planUnits, h0_planCents, h0_planMany, h0_planGot, h0_planSubstitutes, h0_at, h0_fault, h0_entries, h0_entry])), (zq, .inl (cI, 1002, .inl (upd z 7 mk))), (pq, .inl (cI, 4008, .inl (zrec z past pm)))])) 0 0 (va_B [(h0, .inr (10, [.ref zq, .ref pq, h0_kept, h0_spare, .int (nI pm), h0_isKept, h0_text, h0_typed, h0_isUsed, h0_planBatch, h0_planUnits, h0_planCents, h0_planMany, h0_planGot, h0_planSubstitutes, h0_at, h0_fault, h0_entries, h0_entry])), (zq, .inl (cI, 1002, .inl z)), (pq, .inl (cI, 4008, .inl past))]) := by
  refine Met.ofW (cc := cX10_setRebate) (maxL := 2) (ret := (some .int)) (by decide) rfl ?_
  intro p e s m args below meth c s₁ B hml hv
  obtain ⟨rfl, hP, hK, hD0, hN⟩ := hv
  have hx := B.exec
  have hb := B.bytes
  have hr := B.returns
  have hts := atoms_spec (ws := wsX10_setRebate) B.pre
  have hown : s.vm.findClass RX10 = some m.cls := findClass_of_methodNamed B.named
  have hlocks := B.notSynchronized
  have k_7 := hts (Cond.fieldLink RX10 7 "ShelfStagesModel" "z" "[I") (by decide +kernel)
  have kc_69 := hts (Cond.constant RX10 69 (1106247680)) (by decide +kernel)
  have i_X10 : ∀ w ∈ wsX100, w ∈ wsX10_setRebate := by decide +kernel
  obtain ⟨A, hA⟩ : ∃ A, A = va_B [(h0, .inr (10, [.ref zq, .ref pq, h0_kept, h0_spare, .int (nI pm), h0_isKept, h0_text, h0_typed, h0_isUsed, h0_planBatch, h0_planUnits, h0_planCents, h0_planMany, h0_planGot, h0_planSubstitutes, h0_at, h0_fault, h0_entries, h0_entry])), (zq, .inl (cI, 1002, .inl z)), (pq, .inl (cI, 4008, .inl past))] := ⟨_, rfl⟩
  have hD : va_D A [(h0, .inr (10, [.ref zq, .ref pq, h0_kept, h0_spare, .int (nI pm), h0_isKept, h0_text, h0_typed, h0_isUsed, h0_planBatch, h0_planUnits, h0_planCents, h0_planMany, h0_planGot, h0_planSubstitutes, h0_at, h0_fault, h0_entries, h0_entry])), (zq, .inl (cI, 1002, .inl z)), (pq, .inl (cI, 4008, .inl past))] := hA ▸ hD0.own
  have hS : va_S A s.heap s.heap [] := va_S.rf
  have hl := lv_entry ([.ref h0, .int mk]) (n := 2) (Nat.le_of_ble_eq_true rfl)
  rw [lg_entry_eq]
  generalize (lg_sl ([.ref h0, .int mk]) ++ List.replicate (2 - (lg_sl ([.ref h0, .int mk])).length) Slot.unset).toArray = ls at hl ⊢
  have hl : lv_has ls 2 [(0, .ref h0), (1, .int mk)] := hl
  refine lv_iload_n hx hb dX10_setRebate_0 rfl (lv_at hl 1 rfl) ?_
  refine lv_iconst (v := nI 0) hx hb dX10_setRebate_1 (by decide) ?_
  refine lv_ldc hx hb hown kc_69 dX10_setRebate_2 ?_
  refine xr_top (show (1106247680 : Int32) = nI 1106247680 from rfl) ?_
  refine xkRi (xSs (Ws' := ([] : List Cond)) (As := [.int mk, .int (nI 0), .int (nI 1106247680)]) (rest := []) (wc := []) hx hb hml hown hts (c_X10_in l dC dI cI cF cC cZ cQ cS mk (nI 0) (nI 1106247680)) 3 (fun hR => va_cwS 3 hts gX10_setRebate_X10_in rfl rfl rfl hdN_X10_in hR) ⟨Nat.le_of_ble_eq_true rfl, Nat.le_of_ble_eq_true rfl⟩ hN hK hP hD [] rfl rfl rfl hl.1 rfl (Nat.le_of_ble_eq_true rfl) dX10_setRebate_4 ⟨Nat.zero_le _, Nat.zero_le _⟩) (fun r_1 hr_1 => ?_)
  have hr_1 : r_1 = (if (nI 0) ≤ mk ∧ mk ≤ (nI 1106247680) then nI 1 else nI 0) := hr_1
  obtain rfl : r_1 = nI 1 := hr_1.trans (if_pos hw)
  refine xr_ifn1 (tgt := 13) hx hb (by decide) dX10_setRebate_7 (by decide) ?_
  refine lv_aload_n hx hb dX10_setRebate_13 rfl (lv_at hl 0 rfl) ?_
  refine va_get (D := (dC, dI)) (ci := 10) (v := .ref zq) (C := RX10) (T := TX10) (N := 19) hx hb hts i_X10 hown hK hP 0 rfl rfl 0 (by decide) k_7 (fun _ h9 => h9) rfl dX10_setRebate_14 ?_
  refine lv_bipush (v := nI 7) hx hb dX10_setRebate_17 (by decide) ?_
  refine xr_iald hx hb hK hP 1 0 rfl rfl (i := 7) (by omega) (by decide) dX10_setRebate_19 ?_
  refine lv_iload_n hx hb dX10_setRebate_20 rfl (lv_at hl 1 rfl) ?_
  refine lv_icmp_ne (tgt := 27) hx hb dX10_setRebate_21 (by decide) (fun c_2 => ?_) (fun c_2 => False.elim (by exact hv c_2))
  refine lv_aload_n hx hb dX10_setRebate_27 rfl (lv_at hl 0 rfl) ?_
  refine xkV2 (xV (As := []) (rest := []) (wc := [(h0, .inr (10, [.ref zq, .ref pq, h0_kept, h0_spare, .int (nI pm), h0_isKept, h0_text, h0_typed, h0_isUsed, h0_planBatch, h0_planUnits, h0_planCents, h0_planMany, h0_planGot, h0_planSubstitutes, h0_at, h0_fault, h0_entries, h0_entry])), (zq, .inl (cI, 1002, .inl z)), (pq, .inl (cI, 4008, .inl past))]) hx hb hml hown hts (c_X10_record l dC dI cI cF cC cZ cQ cS h0 zq pq h0_kept h0_spare h0_isKept h0_text h0_typed h0_isUsed h0_planBatch h0_planUnits h0_planCents h0_planMany h0_planGot h0_planSubstitutes h0_at h0_fault h0_entries h0_entry z past pm (by omega)) 0 gX10_setRebate_X10_record rfl rfl rfl hdV_X10_record ⟨Nat.le_of_ble_eq_true rfl, Nat.le_of_ble_eq_true rfl⟩ hN hK hP hD [0, 1, 2] rfl rfl 10 0 rfl rfl rfl hl.1 rfl (Nat.le_of_ble_eq_true rfl) dX10_setRebate_28 ⟨Nat.zero_le _, Nat.zero_le _⟩) hP hD hS [0, 1, 2] [0, 1, 2] rfl rfl 3 rfl (by decide +kernel) (fun H locs hP hD hS => ?_)
  have hP : va_P (dC, dI) vwCl [(h0, .inr (10, [.ref zq, .ref pq, h0_kept, h0_spare, .int (nI (if pm = 4 then 4 else pm + 1)), h0_isKept, h0_text, h0_typed, h0_isUsed, h0_planBatch, h0_planUnits, h0_planCents, h0_planMany, h0_planGot, h0_planSubstitutes, h0_at, h0_fault, h0_entries, h0_entry])), (zq, .inl (cI, 1002, .inl z)), (pq, .inl (cI, 4008, .inl (zrec z past pm)))] H := hP
  have hD : va_D A [(h0, .inr (10, [.ref zq, .ref pq, h0_kept, h0_spare, .int (nI (if pm = 4 then 4 else pm + 1)), h0_isKept, h0_text, h0_typed, h0_isUsed, h0_planBatch, h0_planUnits, h0_planCents, h0_planMany, h0_planGot, h0_planSubstitutes, h0_at, h0_fault, h0_entries, h0_entry])), (zq, .inl (cI, 1002, .inl z)), (pq, .inl (cI, 4008, .inl (zrec z past pm)))] := hD
  refine lv_aload_n hx hb dX10_setRebate_31 rfl (lv_at hl 0 rfl) ?_
  refine va_get (D := (dC, dI)) (ci := 10) (v := .ref zq) (C := RX10) (T := TX10) (N := 19) hx hb hts i_X10 hown hK hP 0 rfl rfl 0 (by decide) k_7 (fun _ h9 => h9) rfl dX10_setRebate_32 ?_
  refine lv_bipush (v := nI 7) hx hb dX10_setRebate_35 (by decide) ?_
  refine lv_iload_n hx hb dX10_setRebate_37 rfl (lv_at hl 1 rfl) ?_
  refine xr_iast hx hb hK hP hD hS 1 0 rfl rfl (i := 7) (by omega) (by decide) dX10_setRebate_38 (fun H locs hP hD hS => ?_)
  have hP : va_P (dC, dI) vwCl [(h0, .inr (10, [.ref zq, .ref pq, h0_kept, h0_spare, .int (nI (if pm = 4 then 4 else pm + 1)), h0_isKept, h0_text, h0_typed, h0_isUsed, h0_planBatch, h0_planUnits, h0_planCents, h0_planMany, h0_planGot, h0_planSubstitutes, h0_at, h0_fault, h0_entries, h0_entry])), (zq, .inl (cI, 1002, .inl (upd z 7 mk))), (pq, .inl (cI, 4008, .inl (zrec z past pm)))] H := hP
  have hD : va_D A [(h0, .inr (10, [.ref zq, .ref pq, h0_kept, h0_spare, .int (nI (if pm = 4 then 4 else pm + 1)), h0_isKept, h0_text, h0_typed, h0_isUsed, h0_planBatch, h0_planUnits, h0_planCents, h0_planMany, h0_planGot, h0_planSubstitutes, h0_at, h0_fault, h0_entries, h0_entry])), (zq, .inl (cI, 1002, .inl (upd z 7 mk))), (pq, .inl (cI, 4008, .inl (zrec z past pm)))] := hD
  refine lv_iconst (v := nI 1) hx hb dX10_setRebate_39 (by decide) ?_
  have hP9 : va_P (dC, dI) vwCl [(h0, .inr (10, [.ref zq, .ref pq, h0_kept, h0_spare, .int (nI (if pm = 4 then 4 else pm + 1)), h0_isKept, h0_text, h0_typed, h0_isUsed, h0_planBatch, h0_planUnits, h0_planCents, h0_planMany, h0_planGot, h0_planSubstitutes, h0_at, h0_fault, h0_entries, h0_entry])), (zq, .inl (cI, 1002, .inl (upd z 7 mk))), (pq, .inl (cI, 4008, .inl (zrec z past pm)))] H := hP
  have hS9 : va_S (va_B [(h0, .inr (10, [.ref zq, .ref pq, h0_kept, h0_spare, .int (nI pm), h0_isKept, h0_text, h0_typed, h0_isUsed, h0_planBatch, h0_planUnits, h0_planCents, h0_planMany, h0_planGot, h0_planSubstitutes, h0_at, h0_fault, h0_entries, h0_entry])), (zq, .inl (cI, 1002, .inl z)), (pq, .inl (cI, 4008, .inl past))]) s.heap H locs := by rw [← hA]; exact hS
  exact W.iret (v := nI 1) hx hb hr (fun t ht hW => ⟨⟨_, _, rfl, ⟨(show nI 1 = nI 1 from rfl), rfl⟩, by rw [ht]; exact hP9⟩, hS9.X ht⟩) hS9.2.2 dX10_setRebate_40
