theorem hdV_X10_set : yX10_set.cls = RX10 ∧ yX10_set.cls ≠ "java/lang/invoke/MethodHandle" ∧ yX10_set.cls ≠ "java/lang/invoke/VarHandle" ∧ (parseMethodDescriptor yX10_set.desc).map (fun d => d.parameters.length) = some 2 := by decide +kernel
set_option maxHeartbeats 4000000 in
set_option maxRecDepth 100000 in
theorem c_X10_setb0 (l : Launch) (dC : Nat → ClassId) (dI : Nat → Nat → Nat) (cI cF cC cZ cQ cS : ClassId) (h0 : Nat) (zq : Nat) (h0_past : Value) (h0_kept : Value) (h0_spare : Value) (h0_pastMany : Value) (h0_isKept : Value) (h0_text : Value) (h0_typed : Value) (h0_isUsed : Value) (h0_planBatch : Value) (h0_planUnits : Value) (h0_planCents : Value) (h0_planMany : Value) (h0_planGot : Value) (h0_planSubstitutes : Value) (h0_at : Value) (h0_fault : Value) (h0_entries : Value) (h0_entry : Value) (z : Nat → Int32) (v : Int32) (hw : ¬ (nI 0 ≤ v ∧ v ≤ nI 2)) : Met l yX10_set wsX10_set ({ frames := 1, cells := 0, slots := 0, locals := 22 }) (xPre (dC, dI) vwCl [.ref h0, .int (nI 0), .int v] (xtys cI cF cC cZ cQ cS) [(h0, .inr (10, [.ref zq, h0_past, h0_kept, h0_spare, h0_pastMany, h0_isKept, h0_text, h0_typed, h0_isUsed, h0_planBatch, h0_planUnits, h0_planCents, h0_planMany, h0_planGot, h0_planSubstitutes, h0_at, h0_fault, h0_entries, h0_entry])), (zq, .inl (cI, 1002, .inl z))]) (vp_Si (fun r0 => r0 = (-2))) 0 0 (fun _ => False) := by
  refine Met.ofW (cc := cX10_set) (maxL := 5) (ret := (some .int)) (by decide) rfl ?_
  intro p e s m args below meth c s₁ B hml hv
  obtain ⟨rfl, hP, hK, hD0, hN⟩ := hv
  have hx := B.exec
  have hb := B.bytes
  have hr := B.returns
  have hts := atoms_spec (ws := wsX10_set) B.pre
  have hown : s.vm.findClass RX10 = some m.cls := findClass_of_methodNamed B.named
  have hlocks := B.notSynchronized
  have hD := hD0
  have hl := lv_entry ([.ref h0, .int (nI 0), .int v]) (n := 5) (Nat.le_of_ble_eq_true rfl)
  rw [lg_entry_eq]
  generalize (lg_sl ([.ref h0, .int (nI 0), .int v]) ++ List.replicate (5 - (lg_sl ([.ref h0, .int (nI 0), .int v])).length) Slot.unset).toArray = ls at hl ⊢
  have hl : lv_has ls 5 [(0, .ref h0), (1, .int (nI 0)), (2, .int v)] := hl
  refine lv_iload_n hx hb dX10_set_0 rfl (lv_at hl 1 rfl) ?_
  refine xr_ifn0 (tgt := 13) hx hb (by decide) dX10_set_1 (by decide) ?_
  refine lv_iload_n hx hb dX10_set_4 rfl (lv_at hl 2 rfl) ?_
  refine lv_iconst (v := nI 0) hx hb dX10_set_5 (by decide) ?_
  refine lv_iconst (v := nI 2) hx hb dX10_set_6 (by decide) ?_
  refine xkRi (xSs (Ws' := ([] : List Cond)) (As := [.int v, .int (nI 0), .int (nI 2)]) (rest := []) (wc := []) hx hb hml hown hts (c_X10_in l dC dI cI cF cC cZ cQ cS v (nI 0) (nI 2)) 3 (fun hR => va_cwS 3 hts gX10_set_X10_in rfl rfl rfl hdN_X10_in hR) ⟨Nat.le_of_ble_eq_true rfl, Nat.le_of_ble_eq_true rfl⟩ hN hK hP hD [] rfl rfl rfl hl.1 rfl (Nat.le_of_ble_eq_true rfl) dX10_set_7 ⟨Nat.zero_le _, Nat.zero_le _⟩) (fun r_1 hr_1 => ?_)
  have hr_1 : r_1 = (if (nI 0) ≤ v ∧ v ≤ (nI 2) then nI 1 else nI 0) := hr_1
  obtain rfl : r_1 = nI 0 := hr_1.trans (if_neg hw)
  refine xr_ifn0 (tgt := 43) hx hb (by decide) dX10_set_10 (by decide) ?_
  refine lv_iload_n hx hb dX10_set_13 rfl (lv_at hl 1 rfl) ?_
  refine lv_iconst (v := nI 1) hx hb dX10_set_14 (by decide) ?_
  refine xr_ne_n (a := 0) (b := 1) (tgt := 27) hx hb (by decide) (by decide) dX10_set_15 (by decide) (fun _ => ?_) (fun c9 => absurd c9 (by decide))
  refine lv_iload_n hx hb dX10_set_27 rfl (lv_at hl 1 rfl) ?_
  refine lv_iconst (v := nI 2) hx hb dX10_set_28 (by decide) ?_
  refine xr_ne_n (a := 0) (b := 2) (tgt := 47) hx hb (by decide) (by decide) dX10_set_29 (by decide) (fun _ => ?_) (fun c9 => absurd c9 (by decide))
  refine lv_iconst (v := nI 0) hx hb dX10_set_47 (by decide) ?_
  refine lv_istore_n (lv' := [(3, .int (nI 0)), (0, .ref h0), (1, .int (nI 0)), (2, .int v)]) hx hb dX10_set_48 rfl hl (by decide) rfl (fun ls hl => ?_)
  refine lv_iload_n hx hb dX10_set_49 rfl (lv_at hl 0 rfl) ?_
  refine xr_ifn0 (tgt := 56) hx hb (by decide) dX10_set_50 (by decide) ?_
  refine lv_bipush (v := (-2)) hx hb dX10_set_53 (by decide) ?_
  exact W.iret (v := (-2)) hx hb hr (fun t ht hW => ⟨_, rfl, (show (-2) = (-2) from rfl), ht⟩) (fun q h => by cases h) dX10_set_55
set_option maxHeartbeats 4000000 in
set_option maxRecDepth 100000 in
theorem c_X10_sete0 (l : Launch) (dC : Nat → ClassId) (dI : Nat → Nat → Nat) (cI cF cC cZ cQ cS : ClassId) (h0 : Nat) (zq : Nat) (h0_past : Value) (h0_kept : Value) (h0_spare : Value) (h0_pastMany : Value) (h0_isKept : Value) (h0_text : Value) (h0_typed : Value) (h0_isUsed : Value) (h0_planBatch : Value) (h0_planUnits : Value) (h0_planCents : Value) (h0_planMany : Value) (h0_planGot : Value) (h0_planSubstitutes : Value) (h0_at : Value) (h0_fault : Value) (h0_entries : Value) (h0_entry : Value) (z : Nat → Int32) (v : Int32) (hw : nI 0 ≤ v ∧ v ≤ nI 2) (hv : z 4 = v) : Met l yX10_set wsX10_set ({ frames := 1, cells := 0, slots := 0, locals := 22 }) (xPre (dC, dI) vwCl [.ref h0, .int (nI 0), .int v] (xtys cI cF cC cZ cQ cS) [(h0, .inr (10, [.ref zq, h0_past, h0_kept, h0_spare, h0_pastMany, h0_isKept, h0_text, h0_typed, h0_isUsed, h0_planBatch, h0_planUnits, h0_planCents, h0_planMany, h0_planGot, h0_planSubstitutes, h0_at, h0_fault, h0_entries, h0_entry])), (zq, .inl (cI, 1002, .inl z))]) (vp_Si (fun r0 => r0 = (-5))) 0 0 (fun _ => False) := by
  refine Met.ofW (cc := cX10_set) (maxL := 5) (ret := (some .int)) (by decide) rfl ?_
  intro p e s m args below meth c s₁ B hml hv
  obtain ⟨rfl, hP, hK, hD0, hN⟩ := hv
  have hx := B.exec
  have hb := B.bytes
  have hr := B.returns
  have hts := atoms_spec (ws := wsX10_set) B.pre
  have hown : s.vm.findClass RX10 = some m.cls := findClass_of_methodNamed B.named
  have hlocks := B.notSynchronized
  have k_7 := hts (Cond.fieldLink RX10 7 "ShelfStagesModel" "z" "[I") (by decide +kernel)
  have i_X10 : ∀ w ∈ wsX100, w ∈ wsX10_set := by decide +kernel
  have hD := hD0
  have hl := lv_entry ([.ref h0, .int (nI 0), .int v]) (n := 5) (Nat.le_of_ble_eq_true rfl)
  rw [lg_entry_eq]
  generalize (lg_sl ([.ref h0, .int (nI 0), .int v]) ++ List.replicate (5 - (lg_sl ([.ref h0, .int (nI 0), .int v])).length) Slot.unset).toArray = ls at hl ⊢
  have hl : lv_has ls 5 [(0, .ref h0), (1, .int (nI 0)), (2, .int v)] := hl
  refine lv_iload_n hx hb dX10_set_0 rfl (lv_at hl 1 rfl) ?_
  refine xr_ifn0 (tgt := 13) hx hb (by decide) dX10_set_1 (by decide) ?_
  refine lv_iload_n hx hb dX10_set_4 rfl (lv_at hl 2 rfl) ?_
  refine lv_iconst (v := nI 0) hx hb dX10_set_5 (by decide) ?_
  refine lv_iconst (v := nI 2) hx hb dX10_set_6 (by decide) ?_
  refine xkRi (xSs (Ws' := ([] : List Cond)) (As := [.int v, .int (nI 0), .int (nI 2)]) (rest := []) (wc := []) hx hb hml hown hts (c_X10_in l dC dI cI cF cC cZ cQ cS v (nI 0) (nI 2)) 3 (fun hR => va_cwS 3 hts gX10_set_X10_in rfl rfl rfl hdN_X10_in hR) ⟨Nat.le_of_ble_eq_true rfl, Nat.le_of_ble_eq_true rfl⟩ hN hK hP hD [] rfl rfl rfl hl.1 rfl (Nat.le_of_ble_eq_true rfl) dX10_set_7 ⟨Nat.zero_le _, Nat.zero_le _⟩) (fun r_1 hr_1 => ?_)
  have hr_1 : r_1 = (if (nI 0) ≤ v ∧ v ≤ (nI 2) then nI 1 else nI 0) := hr_1
  obtain rfl : r_1 = nI 1 := hr_1.trans (if_pos hw)
  refine xr_ifn1 (tgt := 43) hx hb (by decide) dX10_set_10 (by decide) ?_
  refine lv_iconst (v := nI 1) hx hb dX10_set_43 (by decide) ?_
  refine lv_goto (tgt := 48) hx hb dX10_set_44 (by decide) ?_
  refine lv_istore_n (lv' := [(3, .int (nI 1)), (0, .ref h0), (1, .int (nI 0)), (2, .int v)]) hx hb dX10_set_48 rfl hl (by decide) rfl (fun ls hl => ?_)
  refine lv_iload_n hx hb dX10_set_49 rfl (lv_at hl 0 rfl) ?_
  refine xr_ifn1 (tgt := 56) hx hb (by decide) dX10_set_50 (by decide) ?_
  refine lv_aload_n hx hb dX10_set_56 rfl (lv_at hl 1 rfl) ?_
  refine va_get (D := (dC, dI)) (ci := 10) (v := .ref zq) (C := RX10) (T := TX10) (N := 19) hx hb hts i_X10 hown hK hP 0 rfl rfl 0 (by decide) k_7 (fun _ h9 => h9) rfl dX10_set_57 ?_
  refine lv_iconst (v := nI 4) hx hb dX10_set_60 (by decide) ?_
  refine lv_iload_n hx hb dX10_set_61 rfl (lv_at hl 2 rfl) ?_
  refine xr_iadd_n hx hb dX10_set_62 ?_
  refine xr_iald hx hb hK hP 1 0 rfl rfl (i := 4 + 0) (by omega) (by decide) dX10_set_63 ?_
  refine lv_istore (lv' := [(4, .int (z (4 + 0))), (3, .int (nI 1)), (0, .ref h0), (1, .int (nI 0)), (2, .int v)]) hx hb dX10_set_64 hl (by decide) rfl (fun ls hl => ?_)
  refine lv_iload hx hb dX10_set_66 (lv_at hl 0 rfl) ?_
  refine lv_iload_n hx hb dX10_set_68 rfl (lv_at hl 4 rfl) ?_
  refine lv_icmp_ne (tgt := 75) hx hb dX10_set_69 (by decide) (fun c_2 => False.elim (by exact c_2 hv)) (fun c_2 => ?_)
  refine lv_bipush (v := (-5)) hx hb dX10_set_72 (by decide) ?_
  exact W.iret (v := (-5)) hx hb hr (fun t ht hW => ⟨_, rfl, (show (-5) = (-5) from rfl), ht⟩) (fun q h => by cases h) dX10_set_74
set_option maxHeartbeats 4000000 in
set_option maxRecDepth 100000 in
theorem c_X10_sets0 (l : Launch) (dC : Nat → ClassId) (dI : Nat → Nat → Nat) (cI cF cC cZ cQ cS : ClassId) (h0 : Nat) (zq : Nat) (pq : Nat) (h0_kept : Value) (h0_spare : Value) (h0_isKept : Value) (h0_text : Value) (h0_typed : Value) (h0_isUsed : Value) (h0_planBatch : Value) (h0_planUnits : Value) (h0_planCents : Value) (h0_planMany : Value) (h0_planGot : Value) (h0_planSubstitutes : Value) (h0_at : Value) (h0_fault : Value) (h0_entries : Value) (h0_entry : Value) (z : Nat → Int32) (past : Nat → Int32) (pm : Nat) (v : Int32) (hpm : pm ≤ 4) (hw : nI 0 ≤ v ∧ v ≤ nI 2) (hv : ¬ z 4 = v) : Met l yX10_set wsX10_set ({ frames := 1, cells := 0, slots := 0, locals := 22 }) (xPre (dC, dI) vwCl [.ref h0, .int (nI 0), .int v] (xtys cI cF cC cZ cQ cS) [(h0, .inr (10, [.ref zq, .ref pq, h0_kept, h0_spare, .int (nI pm), h0_isKept, h0_text, h0_typed, h0_isUsed, h0_planBatch, h0_planUnits, h0_planCents, h0_planMany, h0_planGot, h0_planSubstitutes, h0_at, h0_fault, h0_entries, h0_entry])), (zq, .inl (cI, 1002, .inl z)), (pq, .inl (cI, 4008, .inl past))]) (xWi (dC, dI) vwCl [(h0, .inr (10, [.ref zq, .ref pq, h0_kept, h0_spare, .int (nI pm), h0_isKept, h0_text, h0_typed, h0_isUsed, h0_planBatch, h0_planUnits, h0_planCents, h0_planMany, h0_planGot, h0_planSubstitutes, h0_at, h0_fault, h0_entries, h0_entry])), (zq, .inl (cI, 1002, .inl z)), (pq, .inl (cI, 4008, .inl past))] (fun r0 w0 => r0 = z 4 ∧ w0 = [(h0, .inr (10, [.ref zq, .ref pq, h0_kept, h0_spare, .int (nI (if pm = 4 then 4 else pm + 1)), h0_isKept, h0_text, h0_typed, h0_isUsed, h0_planBatch, h0_planUnits, h0_planCents, h0_planMany, h0_planGot, h0_planSubstitutes, h0_at, h0_fault, h0_entries, h0_entry])), (zq, .inl (cI, 1002, .inl (upd z 4 v))), (pq, .inl (cI, 4008, .inl (zrec z past pm)))])) 0 0 (va_B [(h0, .inr (10, [.ref zq, .ref pq, h0_kept, h0_spare, .int (nI pm), h0_isKept, h0_text, h0_typed, h0_isUsed, h0_planBatch, h0_planUnits, h0_planCents, h0_planMany, h0_planGot, h0_planSubstitutes, h0_at, h0_fault, h0_entries, h0_entry])), (zq, .inl (cI, 1002, .inl z)), (pq, .inl (cI, 4008, .inl past))]) := by
  refine Met.ofW (cc := cX10_set) (maxL := 5) (ret := (some .int)) (by decide) rfl ?_
  intro p e s m args below meth c s₁ B hml hv
  obtain ⟨rfl, hP, hK, hD0, hN⟩ := hv
  have hx := B.exec
  have hb := B.bytes
  have hr := B.returns
  have hts := atoms_spec (ws := wsX10_set) B.pre
  have hown : s.vm.findClass RX10 = some m.cls := findClass_of_methodNamed B.named
  have hlocks := B.notSynchronized
  have k_7 := hts (Cond.fieldLink RX10 7 "ShelfStagesModel" "z" "[I") (by decide +kernel)
  have i_X10 : ∀ w ∈ wsX100, w ∈ wsX10_set := by decide +kernel
  obtain ⟨A, hA⟩ : ∃ A, A = va_B [(h0, .inr (10, [.ref zq, .ref pq, h0_kept, h0_spare, .int (nI pm), h0_isKept, h0_text, h0_typed, h0_isUsed, h0_planBatch, h0_planUnits, h0_planCents, h0_planMany, h0_planGot, h0_planSubstitutes, h0_at, h0_fault, h0_entries, h0_entry])), (zq, .inl (cI, 1002, .inl z)), (pq, .inl (cI, 4008, .inl past))] := ⟨_, rfl⟩
  have hD : va_D A [(h0, .inr (10, [.ref zq, .ref pq, h0_kept, h0_spare, .int (nI pm), h0_isKept, h0_text, h0_typed, h0_isUsed, h0_planBatch, h0_planUnits, h0_planCents, h0_planMany, h0_planGot, h0_planSubstitutes, h0_at, h0_fault, h0_entries, h0_entry])), (zq, .inl (cI, 1002, .inl z)), (pq, .inl (cI, 4008, .inl past))] := hA ▸ hD0.own
  have hS : va_S A s.heap s.heap [] := va_S.rf
  have hl := lv_entry ([.ref h0, .int (nI 0), .int v]) (n := 5) (Nat.le_of_ble_eq_true rfl)
  rw [lg_entry_eq]
  generalize (lg_sl ([.ref h0, .int (nI 0), .int v]) ++ List.replicate (5 - (lg_sl ([.ref h0, .int (nI 0), .int v])).length) Slot.unset).toArray = ls at hl ⊢
  have hl : lv_has ls 5 [(0, .ref h0), (1, .int (nI 0)), (2, .int v)] := hl
  refine lv_iload_n hx hb dX10_set_0 rfl (lv_at hl 1 rfl) ?_
  refine xr_ifn0 (tgt := 13) hx hb (by decide) dX10_set_1 (by decide) ?_
  refine lv_iload_n hx hb dX10_set_4 rfl (lv_at hl 2 rfl) ?_
  refine lv_iconst (v := nI 0) hx hb dX10_set_5 (by decide) ?_
  refine lv_iconst (v := nI 2) hx hb dX10_set_6 (by decide) ?_
  refine xkRi (xSs (Ws' := ([] : List Cond)) (As := [.int v, .int (nI 0), .int (nI 2)]) (rest := []) (wc := []) hx hb hml hown hts (c_X10_in l dC dI cI cF cC cZ cQ cS v (nI 0) (nI 2)) 3 (fun hR => va_cwS 3 hts gX10_set_X10_in rfl rfl rfl hdN_X10_in hR) ⟨Nat.le_of_ble_eq_true rfl, Nat.le_of_ble_eq_true rfl⟩ hN hK hP hD [] rfl rfl rfl hl.1 rfl (Nat.le_of_ble_eq_true rfl) dX10_set_7 ⟨Nat.zero_le _, Nat.zero_le _⟩) (fun r_1 hr_1 => ?_)
  have hr_1 : r_1 = (if (nI 0) ≤ v ∧ v ≤ (nI 2) then nI 1 else nI 0) := hr_1
  obtain rfl : r_1 = nI 1 := hr_1.trans (if_pos hw)
  refine xr_ifn1 (tgt := 43) hx hb (by decide) dX10_set_10 (by decide) ?_
  refine lv_iconst (v := nI 1) hx hb dX10_set_43 (by decide) ?_
  refine lv_goto (tgt := 48) hx hb dX10_set_44 (by decide) ?_
  refine lv_istore_n (lv' := [(3, .int (nI 1)), (0, .ref h0), (1, .int (nI 0)), (2, .int v)]) hx hb dX10_set_48 rfl hl (by decide) rfl (fun ls hl => ?_)
  refine lv_iload_n hx hb dX10_set_49 rfl (lv_at hl 0 rfl) ?_
  refine xr_ifn1 (tgt := 56) hx hb (by decide) dX10_set_50 (by decide) ?_
  refine lv_aload_n hx hb dX10_set_56 rfl (lv_at hl 1 rfl) ?_
  refine va_get (D := (dC, dI)) (ci := 10) (v := .ref zq) (C := RX10) (T := TX10) (N := 19) hx hb hts i_X10 hown hK hP 0 rfl rfl 0 (by decide) k_7 (fun _ h9 => h9) rfl dX10_set_57 ?_
  refine lv_iconst (v := nI 4) hx hb dX10_set_60 (by decide) ?_
  refine lv_iload_n hx hb dX10_set_61 rfl (lv_at hl 2 rfl) ?_
  refine xr_iadd_n hx hb dX10_set_62 ?_
  refine xr_iald hx hb hK hP 1 0 rfl rfl (i := 4 + 0) (by omega) (by decide) dX10_set_63 ?_
  refine lv_istore (lv' := [(4, .int (z (4 + 0))), (3, .int (nI 1)), (0, .ref h0), (1, .int (nI 0)), (2, .int v)]) hx hb dX10_set_64 hl (by decide) rfl (fun ls hl => ?_)
  refine lv_iload hx hb dX10_set_66 (lv_at hl 0 rfl) ?_
  refine lv_iload_n hx hb dX10_set_68 rfl (lv_at hl 4 rfl) ?_
  refine lv_icmp_ne (tgt := 75) hx hb dX10_set_69 (by decide) (fun c_2 => ?_) (fun c_2 => False.elim (by exact hv c_2))
  refine lv_aload_n hx hb dX10_set_75 rfl (lv_at hl 2 rfl) ?_
  refine xkV2 (xV (As := []) (rest := []) (wc := [(h0, .inr (10, [.ref zq, .ref pq, h0_kept, h0_spare, .int (nI pm), h0_isKept, h0_text, h0_typed, h0_isUsed, h0_planBatch, h0_planUnits, h0_planCents, h0_planMany, h0_planGot, h0_planSubstitutes, h0_at, h0_fault, h0_entries, h0_entry])), (zq, .inl (cI, 1002, .inl z)), (pq, .inl (cI, 4008, .inl past))]) hx hb hml hown hts (c_X10_record l dC dI cI cF cC cZ cQ cS h0 zq pq h0_kept h0_spare h0_isKept h0_text h0_typed h0_isUsed h0_planBatch h0_planUnits h0_planCents h0_planMany h0_planGot h0_planSubstitutes h0_at h0_fault h0_entries h0_entry z past pm (by omega)) 0 gX10_set_X10_record rfl rfl rfl hdV_X10_record ⟨Nat.le_of_ble_eq_true rfl, Nat.le_of_ble_eq_true rfl⟩ hN hK hP hD [0, 1, 2] rfl rfl 10 0 rfl rfl rfl hl.1 rfl (Nat.le_of_ble_eq_true rfl) dX10_set_76 ⟨Nat.zero_le _, Nat.zero_le _⟩) hP hD hS [0, 1, 2] [0, 1, 2] rfl rfl 3 rfl (by decide +kernel) (fun H locs hP hD hS => ?_)
  have hP : va_P (dC, dI) vwCl [(h0, .inr (10, [.ref zq, .ref pq, h0_kept, h0_spare, .int (nI (if pm = 4 then 4 else pm + 1)), h0_isKept, h0_text, h0_typed, h0_isUsed, h0_planBatch, h0_planUnits, h0_planCents, h0_planMany, h0_planGot, h0_planSubstitutes, h0_at, h0_fault, h0_entries, h0_entry])), (zq, .inl (cI, 1002, .inl z)), (pq, .inl (cI, 4008, .inl (zrec z past pm)))] H := hP
  have hD : va_D A [(h0, .inr (10, [.ref zq, .ref pq, h0_kept, h0_spare, .int (nI (if pm = 4 then 4 else pm + 1)), h0_isKept, h0_text, h0_typed, h0_isUsed, h0_planBatch, h0_planUnits, h0_planCents, h0_planMany, h0_planGot, h0_planSubstitutes, h0_at, h0_fault, h0_entries, h0_entry])), (zq, .inl (cI, 1002, .inl z)), (pq, .inl (cI, 4008, .inl (zrec z past pm)))] := hD
  refine lv_aload_n hx hb dX10_set_79 rfl (lv_at hl 2 rfl) ?_
  refine va_get (D := (dC, dI)) (ci := 10) (v := .ref zq) (C := RX10) (T := TX10) (N := 19) hx hb hts i_X10 hown hK hP 0 rfl rfl 0 (by decide) k_7 (fun _ h9 => h9) rfl dX10_set_80 ?_
  refine lv_iconst (v := nI 4) hx hb dX10_set_83 (by decide) ?_
  refine lv_iload_n hx hb dX10_set_84 rfl (lv_at hl 3 rfl) ?_
  refine xr_iadd_n hx hb dX10_set_85 ?_
  refine lv_iload_n hx hb dX10_set_86 rfl (lv_at hl 4 rfl) ?_
  refine xr_iast hx hb hK hP hD hS 1 0 rfl rfl (i := 4 + 0) (by omega) (by decide) dX10_set_87 (fun H locs hP hD hS => ?_)
  have hP : va_P (dC, dI) vwCl [(h0, .inr (10, [.ref zq, .ref pq, h0_kept, h0_spare, .int (nI (if pm = 4 then 4 else pm + 1)), h0_isKept, h0_text, h0_typed, h0_isUsed, h0_planBatch, h0_planUnits, h0_planCents, h0_planMany, h0_planGot, h0_planSubstitutes, h0_at, h0_fault, h0_entries, h0_entry])), (zq, .inl (cI, 1002, .inl (upd z (4 + 0) v))), (pq, .inl (cI, 4008, .inl (zrec z past pm)))] H := hP
  have hD : va_D A [(h0, .inr (10, [.ref zq, .ref pq, h0_kept, h0_spare, .int (nI (if pm = 4 then 4 else pm + 1)), h0_isKept, h0_text, h0_typed, h0_isUsed, h0_planBatch, h0_planUnits, h0_planCents, h0_planMany, h0_planGot, h0_planSubstitutes, h0_at, h0_fault, h0_entries, h0_entry])), (zq, .inl (cI, 1002, .inl (upd z (4 + 0) v))), (pq, .inl (cI, 4008, .inl (zrec z past pm)))] := hD
  refine lv_iload hx hb dX10_set_88 (lv_at hl 0 rfl) ?_
  have hP9 : va_P (dC, dI) vwCl [(h0, .inr (10, [.ref zq, .ref pq, h0_kept, h0_spare, .int (nI (if pm = 4 then 4 else pm + 1)), h0_isKept, h0_text, h0_typed, h0_isUsed, h0_planBatch, h0_planUnits, h0_planCents, h0_planMany, h0_planGot, h0_planSubstitutes, h0_at, h0_fault, h0_entries, h0_entry])), (zq, .inl (cI, 1002, .inl (upd z 4 v))), (pq, .inl (cI, 4008, .inl (zrec z past pm)))] H := hP
  have hS9 : va_S (va_B [(h0, .inr (10, [.ref zq, .ref pq, h0_kept, h0_spare, .int (nI pm), h0_isKept, h0_text, h0_typed, h0_isUsed, h0_planBatch, h0_planUnits, h0_planCents, h0_planMany, h0_planGot, h0_planSubstitutes, h0_at, h0_fault, h0_entries, h0_entry])), (zq, .inl (cI, 1002, .inl z)), (pq, .inl (cI, 4008, .inl past))]) s.heap H locs := by rw [← hA]; exact hS
  exact W.iret (v := z (4 + 0)) hx hb hr (fun t ht hW => ⟨⟨_, _, rfl, ⟨(show z (4 + 0) = z 4 from rfl), rfl⟩, by rw [ht]; exact hP9⟩, hS9.X ht⟩) hS9.2.2 dX10_set_90
set_option maxHeartbeats 4000000 in
set_option maxRecDepth 100000 in
theorem c_X10_setb1 (l : Launch) (dC : Nat → ClassId) (dI : Nat → Nat → Nat) (cI cF cC cZ cQ cS : ClassId) (h0 : Nat) (zq : Nat) (h0_past : Value) (h0_kept : Value) (h0_spare : Value) (h0_pastMany : Value) (h0_isKept : Value) (h0_text : Value) (h0_typed : Value) (h0_isUsed : Value) (h0_planBatch : Value) (h0_planUnits : Value) (h0_planCents : Value) (h0_planMany : Value) (h0_planGot : Value) (h0_planSubstitutes : Value) (h0_at : Value) (h0_fault : Value) (h0_entries : Value) (h0_entry : Value) (z : Nat → Int32) (v : Int32) (hw : ¬ (nI 1 ≤ v ∧ v ≤ nI 4)) : Met l yX10_set wsX10_set ({ frames := 1, cells := 0, slots := 0, locals := 22 }) (xPre (dC, dI) vwCl [.ref h0, .int (nI 1), .int v] (xtys cI cF cC cZ cQ cS) [(h0, .inr (10, [.ref zq, h0_past, h0_kept, h0_spare, h0_pastMany, h0_isKept, h0_text, h0_typed, h0_isUsed, h0_planBatch, h0_planUnits, h0_planCents, h0_planMany, h0_planGot, h0_planSubstitutes, h0_at, h0_fault, h0_entries, h0_entry])), (zq, .inl (cI, 1002, .inl z))]) (vp_Si (fun r0 => r0 = (-2))) 0 0 (fun _ => False) := by
  refine Met.ofW (cc := cX10_set) (maxL := 5) (ret := (some .int)) (by decide) rfl ?_
  intro p e s m args below meth c s₁ B hml hv
  obtain ⟨rfl, hP, hK, hD0, hN⟩ := hv
  have hx := B.exec
  have hb := B.bytes
  have hr := B.returns
  have hts := atoms_spec (ws := wsX10_set) B.pre
  have hown : s.vm.findClass RX10 = some m.cls := findClass_of_methodNamed B.named
  have hlocks := B.notSynchronized
  have hD := hD0
  have hl := lv_entry ([.ref h0, .int (nI 1), .int v]) (n := 5) (Nat.le_of_ble_eq_true rfl)
  rw [lg_entry_eq]
  generalize (lg_sl ([.ref h0, .int (nI 1), .int v]) ++ List.replicate (5 - (lg_sl ([.ref h0, .int (nI 1), .int v])).length) Slot.unset).toArray = ls at hl ⊢
  have hl : lv_has ls 5 [(0, .ref h0), (1, .int (nI 1)), (2, .int v)] := hl
  refine lv_iload_n hx hb dX10_set_0 rfl (lv_at hl 1 rfl) ?_
  refine xr_ifn1 (tgt := 13) hx hb (by decide) dX10_set_1 (by decide) ?_
  refine lv_iload_n hx hb dX10_set_13 rfl (lv_at hl 1 rfl) ?_
  refine lv_iconst (v := nI 1) hx hb dX10_set_14 (by decide) ?_
  refine xr_ne_n (a := 1) (b := 1) (tgt := 27) hx hb (by decide) (by decide) dX10_set_15 (by decide) (fun c9 => absurd c9 (by decide)) (fun _ => ?_)
  refine lv_iload_n hx hb dX10_set_18 rfl (lv_at hl 2 rfl) ?_
  refine lv_iconst (v := nI 1) hx hb dX10_set_19 (by decide) ?_
  refine lv_iconst (v := nI 4) hx hb dX10_set_20 (by decide) ?_
  refine xkRi (xSs (Ws' := ([] : List Cond)) (As := [.int v, .int (nI 1), .int (nI 4)]) (rest := []) (wc := []) hx hb hml hown hts (c_X10_in l dC dI cI cF cC cZ cQ cS v (nI 1) (nI 4)) 3 (fun hR => va_cwS 3 hts gX10_set_X10_in rfl rfl rfl hdN_X10_in hR) ⟨Nat.le_of_ble_eq_true rfl, Nat.le_of_ble_eq_true rfl⟩ hN hK hP hD [] rfl rfl rfl hl.1 rfl (Nat.le_of_ble_eq_true rfl) dX10_set_21 ⟨Nat.zero_le _, Nat.zero_le _⟩) (fun r_1 hr_1 => ?_)
  have hr_1 : r_1 = (if (nI 1) ≤ v ∧ v ≤ (nI 4) then nI 1 else nI 0) := hr_1
  obtain rfl : r_1 = nI 0 := hr_1.trans (if_neg hw)
  refine xr_ifn0 (tgt := 43) hx hb (by decide) dX10_set_24 (by decide) ?_
  refine lv_iload_n hx hb dX10_set_27 rfl (lv_at hl 1 rfl) ?_
  refine lv_iconst (v := nI 2) hx hb dX10_set_28 (by decide) ?_
  refine xr_ne_n (a := 1) (b := 2) (tgt := 47) hx hb (by decide) (by decide) dX10_set_29 (by decide) (fun _ => ?_) (fun c9 => absurd c9 (by decide))
  refine lv_iconst (v := nI 0) hx hb dX10_set_47 (by decide) ?_
  refine lv_istore_n (lv' := [(3, .int (nI 0)), (0, .ref h0), (1, .int (nI 1)), (2, .int v)]) hx hb dX10_set_48 rfl hl (by decide) rfl (fun ls hl => ?_)
  refine lv_iload_n hx hb dX10_set_49 rfl (lv_at hl 0 rfl) ?_
  refine xr_ifn0 (tgt := 56) hx hb (by decide) dX10_set_50 (by decide) ?_
  refine lv_bipush (v := (-2)) hx hb dX10_set_53 (by decide) ?_
  exact W.iret (v := (-2)) hx hb hr (fun t ht hW => ⟨_, rfl, (show (-2) = (-2) from rfl), ht⟩) (fun q h => by cases h) dX10_set_55
set_option maxHeartbeats 4000000 in
set_option maxRecDepth 100000 in
theorem c_X10_sete1 (l : Launch) (dC : Nat → ClassId) (dI : Nat → Nat → Nat) (cI cF cC cZ cQ cS : ClassId) (h0 : Nat) (zq : Nat) (h0_past : Value) (h0_kept : Value) (h0_spare : Value) (h0_pastMany : Value) (h0_isKept : Value) (h0_text : Value) (h0_typed : Value) (h0_isUsed : Value) (h0_planBatch : Value) (h0_planUnits : Value) (h0_planCents : Value) (h0_planMany : Value) (h0_planGot : Value) (h0_planSubstitutes : Value) (h0_at : Value) (h0_fault : Value) (h0_entries : Value) (h0_entry : Value) (z : Nat → Int32) (v : Int32) (hw : nI 1 ≤ v ∧ v ≤ nI 4) (hv : z 5 = v) : Met l yX10_set wsX10_set ({ frames := 1, cells := 0, slots := 0, locals := 22 }) (xPre (dC, dI) vwCl [.ref h0, .int (nI 1), .int v] (xtys cI cF cC cZ cQ cS) [(h0, .inr (10, [.ref zq, h0_past, h0_kept, h0_spare, h0_pastMany, h0_isKept, h0_text, h0_typed, h0_isUsed, h0_planBatch, h0_planUnits, h0_planCents, h0_planMany, h0_planGot, h0_planSubstitutes, h0_at, h0_fault, h0_entries, h0_entry])), (zq, .inl (cI, 1002, .inl z))]) (vp_Si (fun r0 => r0 = (-5))) 0 0 (fun _ => False) := by
  refine Met.ofW (cc := cX10_set) (maxL := 5) (ret := (some .int)) (by decide) rfl ?_
  intro p e s m args below meth c s₁ B hml hv
  obtain ⟨rfl, hP, hK, hD0, hN⟩ := hv
  have hx := B.exec
  have hb := B.bytes
  have hr := B.returns
  have hts := atoms_spec (ws := wsX10_set) B.pre
  have hown : s.vm.findClass RX10 = some m.cls := findClass_of_methodNamed B.named
  have hlocks := B.notSynchronized
  have k_7 := hts (Cond.fieldLink RX10 7 "ShelfStagesModel" "z" "[I") (by decide +kernel)
  have i_X10 : ∀ w ∈ wsX100, w ∈ wsX10_set := by decide +kernel
  have hD := hD0
  have hl := lv_entry ([.ref h0, .int (nI 1), .int v]) (n := 5) (Nat.le_of_ble_eq_true rfl)
  rw [lg_entry_eq]
  generalize (lg_sl ([.ref h0, .int (nI 1), .int v]) ++ List.replicate (5 - (lg_sl ([.ref h0, .int (nI 1), .int v])).length) Slot.unset).toArray = ls at hl ⊢
  have hl : lv_has ls 5 [(0, .ref h0), (1, .int (nI 1)), (2, .int v)] := hl
  refine lv_iload_n hx hb dX10_set_0 rfl (lv_at hl 1 rfl) ?_
  refine xr_ifn1 (tgt := 13) hx hb (by decide) dX10_set_1 (by decide) ?_
  refine lv_iload_n hx hb dX10_set_13 rfl (lv_at hl 1 rfl) ?_
  refine lv_iconst (v := nI 1) hx hb dX10_set_14 (by decide) ?_
  refine xr_ne_n (a := 1) (b := 1) (tgt := 27) hx hb (by decide) (by decide) dX10_set_15 (by decide) (fun c9 => absurd c9 (by decide)) (fun _ => ?_)
  refine lv_iload_n hx hb dX10_set_18 rfl (lv_at hl 2 rfl) ?_
  refine lv_iconst (v := nI 1) hx hb dX10_set_19 (by decide) ?_
  refine lv_iconst (v := nI 4) hx hb dX10_set_20 (by decide) ?_
  refine xkRi (xSs (Ws' := ([] : List Cond)) (As := [.int v, .int (nI 1), .int (nI 4)]) (rest := []) (wc := []) hx hb hml hown hts (c_X10_in l dC dI cI cF cC cZ cQ cS v (nI 1) (nI 4)) 3 (fun hR => va_cwS 3 hts gX10_set_X10_in rfl rfl rfl hdN_X10_in hR) ⟨Nat.le_of_ble_eq_true rfl, Nat.le_of_ble_eq_true rfl⟩ hN hK hP hD [] rfl rfl rfl hl.1 rfl (Nat.le_of_ble_eq_true rfl) dX10_set_21 ⟨Nat.zero_le _, Nat.zero_le _⟩) (fun r_1 hr_1 => ?_)
  have hr_1 : r_1 = (if (nI 1) ≤ v ∧ v ≤ (nI 4) then nI 1 else nI 0) := hr_1
  obtain rfl : r_1 = nI 1 := hr_1.trans (if_pos hw)
  refine xr_ifn1 (tgt := 43) hx hb (by decide) dX10_set_24 (by decide) ?_
  refine lv_iconst (v := nI 1) hx hb dX10_set_43 (by decide) ?_
  refine lv_goto (tgt := 48) hx hb dX10_set_44 (by decide) ?_
  refine lv_istore_n (lv' := [(3, .int (nI 1)), (0, .ref h0), (1, .int (nI 1)), (2, .int v)]) hx hb dX10_set_48 rfl hl (by decide) rfl (fun ls hl => ?_)
  refine lv_iload_n hx hb dX10_set_49 rfl (lv_at hl 0 rfl) ?_
  refine xr_ifn1 (tgt := 56) hx hb (by decide) dX10_set_50 (by decide) ?_
  refine lv_aload_n hx hb dX10_set_56 rfl (lv_at hl 1 rfl) ?_
  refine va_get (D := (dC, dI)) (ci := 10) (v := .ref zq) (C := RX10) (T := TX10) (N := 19) hx hb hts i_X10 hown hK hP 0 rfl rfl 0 (by decide) k_7 (fun _ h9 => h9) rfl dX10_set_57 ?_
  refine lv_iconst (v := nI 4) hx hb dX10_set_60 (by decide) ?_
  refine lv_iload_n hx hb dX10_set_61 rfl (lv_at hl 2 rfl) ?_
  refine xr_iadd_n hx hb dX10_set_62 ?_
  refine xr_iald hx hb hK hP 1 0 rfl rfl (i := 4 + 1) (by omega) (by decide) dX10_set_63 ?_
  refine lv_istore (lv' := [(4, .int (z (4 + 1))), (3, .int (nI 1)), (0, .ref h0), (1, .int (nI 1)), (2, .int v)]) hx hb dX10_set_64 hl (by decide) rfl (fun ls hl => ?_)
  refine lv_iload hx hb dX10_set_66 (lv_at hl 0 rfl) ?_
  refine lv_iload_n hx hb dX10_set_68 rfl (lv_at hl 4 rfl) ?_
  refine lv_icmp_ne (tgt := 75) hx hb dX10_set_69 (by decide) (fun c_2 => False.elim (by exact c_2 hv)) (fun c_2 => ?_)
  refine lv_bipush (v := (-5)) hx hb dX10_set_72 (by decide) ?_
  exact W.iret (v := (-5)) hx hb hr (fun t ht hW => ⟨_, rfl, (show (-5) = (-5) from rfl), ht⟩) (fun q h => by cases h) dX10_set_74
set_option maxHeartbeats 4000000 in
set_option maxRecDepth 100000 in
theorem c_X10_sets1 (l : Launch) (dC : Nat → ClassId) (dI : Nat → Nat → Nat) (cI cF cC cZ cQ cS : ClassId) (h0 : Nat) (zq : Nat) (pq : Nat) (h0_kept : Value) (h0_spare : Value) (h0_isKept : Value) (h0_text : Value) (h0_typed : Value) (h0_isUsed : Value) (h0_planBatch : Value) (h0_planUnits : Value) (h0_planCents : Value) (h0_planMany : Value) (h0_planGot : Value) (h0_planSubstitutes : Value) (h0_at : Value) (h0_fault : Value) (h0_entries : Value) (h0_entry : Value) (z : Nat → Int32) (past : Nat → Int32) (pm : Nat) (v : Int32) (hpm : pm ≤ 4) (hw : nI 1 ≤ v ∧ v ≤ nI 4) (hv : ¬ z 5 = v) : Met l yX10_set wsX10_set ({ frames := 1, cells := 0, slots := 0, locals := 22 }) (xPre (dC, dI) vwCl [.ref h0, .int (nI 1), .int v] (xtys cI cF cC cZ cQ cS) [(h0, .inr (10, [.ref zq, .ref pq, h0_kept, h0_spare, .int (nI pm), h0_isKept, h0_text, h0_typed, h0_isUsed, h0_planBatch, h0_planUnits, h0_planCents, h0_planMany, h0_planGot, h0_planSubstitutes, h0_at, h0_fault, h0_entries, h0_entry])), (zq, .inl (cI, 1002, .inl z)), (pq, .inl (cI, 4008, .inl past))]) (xWi (dC, dI) vwCl [(h0, .inr (10, [.ref zq, .ref pq, h0_kept, h0_spare, .int (nI pm), h0_isKept, h0_text, h0_typed, h0_isUsed, h0_planBatch, h0_planUnits, h0_planCents, h0_planMany, h0_planGot, h0_planSubstitutes, h0_at, h0_fault, h0_entries, h0_entry])), (zq, .inl (cI, 1002, .inl z)), (pq, .inl (cI, 4008, .inl past))] (fun r0 w0 => r0 = z 5 ∧ w0 = [(h0, .inr (10, [.ref zq, .ref pq, h0_kept, h0_spare, .int (nI (if pm = 4 then 4 else pm + 1)), h0_isKept, h0_text, h0_typed, h0_isUsed, h0_planBatch, h0_planUnits, h0_planCents, h0_planMany, h0_planGot, h0_planSubstitutes, h0_at, h0_fault, h0_entries, h0_entry])), (zq, .inl (cI, 1002, .inl (upd z 5 v))), (pq, .inl (cI, 4008, .inl (zrec z past pm)))])) 0 0 (va_B [(h0, .inr (10, [.ref zq, .ref pq, h0_kept, h0_spare, .int (nI pm), h0_isKept, h0_text, h0_typed, h0_isUsed, h0_planBatch, h0_planUnits, h0_planCents, h0_planMany, h0_planGot, h0_planSubstitutes, h0_at, h0_fault, h0_entries, h0_entry])), (zq, .inl (cI, 1002, .inl z)), (pq, .inl (cI, 4008, .inl past))]) := by
  refine Met.ofW (cc := cX10_set) (maxL := 5) (ret := (some .int)) (by decide) rfl ?_
  intro p e s m args below meth c s₁ B hml hv
  obtain ⟨rfl, hP, hK, hD0, hN⟩ := hv
  have hx := B.exec
  have hb := B.bytes
  have hr := B.returns
  have hts := atoms_spec (ws := wsX10_set) B.pre
  have hown : s.vm.findClass RX10 = some m.cls := findClass_of_methodNamed B.named
  have hlocks := B.notSynchronized
  have k_7 := hts (Cond.fieldLink RX10 7 "ShelfStagesModel" "z" "[I") (by decide +kernel)
  have i_X10 : ∀ w ∈ wsX100, w ∈ wsX10_set := by decide +kernel
  obtain ⟨A, hA⟩ : ∃ A, A = va_B [(h0, .inr (10, [.ref zq, .ref pq, h0_kept, h0_spare, .int (nI pm), h0_isKept, h0_text, h0_typed, h0_isUsed, h0_planBatch, h0_planUnits, h0_planCents, h0_planMany, h0_planGot, h0_planSubstitutes, h0_at, h0_fault, h0_entries, h0_entry])), (zq, .inl (cI, 1002, .inl z)), (pq, .inl (cI, 4008, .inl past))] := ⟨_, rfl⟩
  have hD : va_D A [(h0, .inr (10, [.ref zq, .ref pq, h0_kept, h0_spare, .int (nI pm), h0_isKept, h0_text, h0_typed, h0_isUsed, h0_planBatch, h0_planUnits, h0_planCents, h0_planMany, h0_planGot, h0_planSubstitutes, h0_at, h0_fault, h0_entries, h0_entry])), (zq, .inl (cI, 1002, .inl z)), (pq, .inl (cI, 4008, .inl past))] := hA ▸ hD0.own
  have hS : va_S A s.heap s.heap [] := va_S.rf
  have hl := lv_entry ([.ref h0, .int (nI 1), .int v]) (n := 5) (Nat.le_of_ble_eq_true rfl)
  rw [lg_entry_eq]
  generalize (lg_sl ([.ref h0, .int (nI 1), .int v]) ++ List.replicate (5 - (lg_sl ([.ref h0, .int (nI 1), .int v])).length) Slot.unset).toArray = ls at hl ⊢
  have hl : lv_has ls 5 [(0, .ref h0), (1, .int (nI 1)), (2, .int v)] := hl
  refine lv_iload_n hx hb dX10_set_0 rfl (lv_at hl 1 rfl) ?_
  refine xr_ifn1 (tgt := 13) hx hb (by decide) dX10_set_1 (by decide) ?_
  refine lv_iload_n hx hb dX10_set_13 rfl (lv_at hl 1 rfl) ?_
  refine lv_iconst (v := nI 1) hx hb dX10_set_14 (by decide) ?_
  refine xr_ne_n (a := 1) (b := 1) (tgt := 27) hx hb (by decide) (by decide) dX10_set_15 (by decide) (fun c9 => absurd c9 (by decide)) (fun _ => ?_)
  refine lv_iload_n hx hb dX10_set_18 rfl (lv_at hl 2 rfl) ?_
  refine lv_iconst (v := nI 1) hx hb dX10_set_19 (by decide) ?_
  refine lv_iconst (v := nI 4) hx hb dX10_set_20 (by decide) ?_
  refine xkRi (xSs (Ws' := ([] : List Cond)) (As := [.int v, .int (nI 1), .int (nI 4)]) (rest := []) (wc := []) hx hb hml hown hts (c_X10_in l dC dI cI cF cC cZ cQ cS v (nI 1) (nI 4)) 3 (fun hR => va_cwS 3 hts gX10_set_X10_in rfl rfl rfl hdN_X10_in hR) ⟨Nat.le_of_ble_eq_true rfl, Nat.le_of_ble_eq_true rfl⟩ hN hK hP hD [] rfl rfl rfl hl.1 rfl (Nat.le_of_ble_eq_true rfl) dX10_set_21 ⟨Nat.zero_le _, Nat.zero_le _⟩) (fun r_1 hr_1 => ?_)
  have hr_1 : r_1 = (if (nI 1) ≤ v ∧ v ≤ (nI 4) then nI 1 else nI 0) := hr_1
  obtain rfl : r_1 = nI 1 := hr_1.trans (if_pos hw)
  refine xr_ifn1 (tgt := 43) hx hb (by decide) dX10_set_24 (by decide) ?_
  refine lv_iconst (v := nI 1) hx hb dX10_set_43 (by decide) ?_
  refine lv_goto (tgt := 48) hx hb dX10_set_44 (by decide) ?_
  refine lv_istore_n (lv' := [(3, .int (nI 1)), (0, .ref h0), (1, .int (nI 1)), (2, .int v)]) hx hb dX10_set_48 rfl hl (by decide) rfl (fun ls hl => ?_)
  refine lv_iload_n hx hb dX10_set_49 rfl (lv_at hl 0 rfl) ?_
  refine xr_ifn1 (tgt := 56) hx hb (by decide) dX10_set_50 (by decide) ?_
  refine lv_aload_n hx hb dX10_set_56 rfl (lv_at hl 1 rfl) ?_
  refine va_get (D := (dC, dI)) (ci := 10) (v := .ref zq) (C := RX10) (T := TX10) (N := 19) hx hb hts i_X10 hown hK hP 0 rfl rfl 0 (by decide) k_7 (fun _ h9 => h9) rfl dX10_set_57 ?_
  refine lv_iconst (v := nI 4) hx hb dX10_set_60 (by decide) ?_
  refine lv_iload_n hx hb dX10_set_61 rfl (lv_at hl 2 rfl) ?_
  refine xr_iadd_n hx hb dX10_set_62 ?_
  refine xr_iald hx hb hK hP 1 0 rfl rfl (i := 4 + 1) (by omega) (by decide) dX10_set_63 ?_
  refine lv_istore (lv' := [(4, .int (z (4 + 1))), (3, .int (nI 1)), (0, .ref h0), (1, .int (nI 1)), (2, .int v)]) hx hb dX10_set_64 hl (by decide) rfl (fun ls hl => ?_)
  refine lv_iload hx hb dX10_set_66 (lv_at hl 0 rfl) ?_
  refine lv_iload_n hx hb dX10_set_68 rfl (lv_at hl 4 rfl) ?_
  refine lv_icmp_ne (tgt := 75) hx hb dX10_set_69 (by decide) (fun c_2 => ?_) (fun c_2 => False.elim (by exact hv c_2))
  refine lv_aload_n hx hb dX10_set_75 rfl (lv_at hl 2 rfl) ?_
  refine xkV2 (xV (As := []) (rest := []) (wc := [(h0, .inr (10, [.ref zq, .ref pq, h0_kept, h0_spare, .int (nI pm), h0_isKept, h0_text, h0_typed, h0_isUsed, h0_planBatch, h0_planUnits, h0_planCents, h0_planMany, h0_planGot, h0_planSubstitutes, h0_at, h0_fault, h0_entries, h0_entry])), (zq, .inl (cI, 1002, .inl z)), (pq, .inl (cI, 4008, .inl past))]) hx hb hml hown hts (c_X10_record l dC dI cI cF cC cZ cQ cS h0 zq pq h0_kept h0_spare h0_isKept h0_text h0_typed h0_isUsed h0_planBatch h0_planUnits h0_planCents h0_planMany h0_planGot h0_planSubstitutes h0_at h0_fault h0_entries h0_entry z past pm (by omega)) 0 gX10_set_X10_record rfl rfl rfl hdV_X10_record ⟨Nat.le_of_ble_eq_true rfl, Nat.le_of_ble_eq_true rfl⟩ hN hK hP hD [0, 1, 2] rfl rfl 10 0 rfl rfl rfl hl.1 rfl (Nat.le_of_ble_eq_true rfl) dX10_set_76 ⟨Nat.zero_le _, Nat.zero_le _⟩) hP hD hS [0, 1, 2] [0, 1, 2] rfl rfl 3 rfl (by decide +kernel) (fun H locs hP hD hS => ?_)
  have hP : va_P (dC, dI) vwCl [(h0, .inr (10, [.ref zq, .ref pq, h0_kept, h0_spare, .int (nI (if pm = 4 then 4 else pm + 1)), h0_isKept, h0_text, h0_typed, h0_isUsed, h0_planBatch, h0_planUnits, h0_planCents, h0_planMany, h0_planGot, h0_planSubstitutes, h0_at, h0_fault, h0_entries, h0_entry])), (zq, .inl (cI, 1002, .inl z)), (pq, .inl (cI, 4008, .inl (zrec z past pm)))] H := hP
  have hD : va_D A [(h0, .inr (10, [.ref zq, .ref pq, h0_kept, h0_spare, .int (nI (if pm = 4 then 4 else pm + 1)), h0_isKept, h0_text, h0_typed, h0_isUsed, h0_planBatch, h0_planUnits, h0_planCents, h0_planMany, h0_planGot, h0_planSubstitutes, h0_at, h0_fault, h0_entries, h0_entry])), (zq, .inl (cI, 1002, .inl z)), (pq, .inl (cI, 4008, .inl (zrec z past pm)))] := hD
  refine lv_aload_n hx hb dX10_set_79 rfl (lv_at hl 2 rfl) ?_
  refine va_get (D := (dC, dI)) (ci := 10) (v := .ref zq) (C := RX10) (T := TX10) (N := 19) hx hb hts i_X10 hown hK hP 0 rfl rfl 0 (by decide) k_7 (fun _ h9 => h9) rfl dX10_set_80 ?_
  refine lv_iconst (v := nI 4) hx hb dX10_set_83 (by decide) ?_
  refine lv_iload_n hx hb dX10_set_84 rfl (lv_at hl 3 rfl) ?_
  refine xr_iadd_n hx hb dX10_set_85 ?_
  refine lv_iload_n hx hb dX10_set_86 rfl (lv_at hl 4 rfl) ?_
  refine xr_iast hx hb hK hP hD hS 1 0 rfl rfl (i := 4 + 1) (by omega) (by decide) dX10_set_87 (fun H locs hP hD hS => ?_)
  have hP : va_P (dC, dI) vwCl [(h0, .inr (10, [.ref zq, .ref pq, h0_kept, h0_spare, .int (nI (if pm = 4 then 4 else pm + 1)), h0_isKept, h0_text, h0_typed, h0_isUsed, h0_planBatch, h0_planUnits, h0_planCents, h0_planMany, h0_planGot, h0_planSubstitutes, h0_at, h0_fault, h0_entries, h0_entry])), (zq, .inl (cI, 1002, .inl (upd z (4 + 1) v))), (pq, .inl (cI, 4008, .inl (zrec z past pm)))] H := hP
  have hD : va_D A [(h0, .inr (10, [.ref zq, .ref pq, h0_kept, h0_spare, .int (nI (if pm = 4 then 4 else pm + 1)), h0_isKept, h0_text, h0_typed, h0_isUsed, h0_planBatch, h0_planUnits, h0_planCents, h0_planMany, h0_planGot, h0_planSubstitutes, h0_at, h0_fault, h0_entries, h0_entry])), (zq, .inl (cI, 1002, .inl (upd z (4 + 1) v))), (pq, .inl (cI, 4008, .inl (zrec z past pm)))] := hD
  refine lv_iload hx hb dX10_set_88 (lv_at hl 0 rfl) ?_
  have hP9 : va_P (dC, dI) vwCl [(h0, .inr (10, [.ref zq, .ref pq, h0_kept, h0_spare, .int (nI (if pm = 4 then 4 else pm + 1)), h0_isKept, h0_text, h0_typed, h0_isUsed, h0_planBatch, h0_planUnits, h0_planCents, h0_planMany, h0_planGot, h0_planSubstitutes, h0_at, h0_fault, h0_entries, h0_entry])), (zq, .inl (cI, 1002, .inl (upd z 5 v))), (pq, .inl (cI, 4008, .inl (zrec z past pm)))] H := hP
  have hS9 : va_S (va_B [(h0, .inr (10, [.ref zq, .ref pq, h0_kept, h0_spare, .int (nI pm), h0_isKept, h0_text, h0_typed, h0_isUsed, h0_planBatch, h0_planUnits, h0_planCents, h0_planMany, h0_planGot, h0_planSubstitutes, h0_at, h0_fault, h0_entries, h0_entry])), (zq, .inl (cI, 1002, .inl z)), (pq, .inl (cI, 4008, .inl past))]) s.heap H locs := by rw [← hA]; exact hS
  exact W.iret (v := z (4 + 1)) hx hb hr (fun t ht hW => ⟨⟨_, _, rfl, ⟨(show z (4 + 1) = z 5 from rfl), rfl⟩, by rw [ht]; exact hP9⟩, hS9.X ht⟩) hS9.2.2 dX10_set_90
set_option maxHeartbeats 4000000 in
set_option maxRecDepth 100000 in
theorem c_X10_setb2 (l : Launch) (dC : Nat → ClassId) (dI : Nat → Nat → Nat) (cI cF cC cZ cQ cS : ClassId) (h0 : Nat) (zq : Nat) (h0_past : Value) (h0_kept : Value) (h0_spare : Value) (h0_pastMany : Value) (h0_isKept : Value) (h0_text : Value) (h0_typed : Value) (h0_isUsed : Value) (h0_planBatch : Value) (h0_planUnits : Value) (h0_planCents : Value) (h0_planMany : Value) (h0_planGot : Value) (h0_planSubstitutes : Value) (h0_at : Value) (h0_fault : Value) (h0_entries : Value) (h0_entry : Value) (z : Nat → Int32) (v : Int32) (hw : ¬ (nI 0 ≤ v ∧ v ≤ nI 999)) : Met l yX10_set wsX10_set ({ frames := 1, cells := 0, slots := 0, locals := 22 }) (xPre (dC, dI) vwCl [.ref h0, .int (nI 2), .int v] (xtys cI cF cC cZ cQ cS) [(h0, .inr (10, [.ref zq, h0_past, h0_kept, h0_spare, h0_pastMany, h0_isKept, h0_text, h0_typed, h0_isUsed, h0_planBatch, h0_planUnits, h0_planCents, h0_planMany, h0_planGot, h0_planSubstitutes, h0_at, h0_fault, h0_entries, h0_entry])), (zq, .inl (cI, 1002, .inl z))]) (vp_Si (fun r0 => r0 = (-2))) 0 0 (fun _ => False) := by
  refine Met.ofW (cc := cX10_set) (maxL := 5) (ret := (some .int)) (by decide) rfl ?_
  intro p e s m args below meth c s₁ B hml hv
  obtain ⟨rfl, hP, hK, hD0, hN⟩ := hv
  have hx := B.exec
  have hb := B.bytes
  have hr := B.returns
  have hts := atoms_spec (ws := wsX10_set) B.pre
  have hown : s.vm.findClass RX10 = some m.cls := findClass_of_methodNamed B.named
  have hlocks := B.notSynchronized
  have hD := hD0
  have hl := lv_entry ([.ref h0, .int (nI 2), .int v]) (n := 5) (Nat.le_of_ble_eq_true rfl)
  rw [lg_entry_eq]
  generalize (lg_sl ([.ref h0, .int (nI 2), .int v]) ++ List.replicate (5 - (lg_sl ([.ref h0, .int (nI 2), .int v])).length) Slot.unset).toArray = ls at hl ⊢
  have hl : lv_has ls 5 [(0, .ref h0), (1, .int (nI 2)), (2, .int v)] := hl
  refine lv_iload_n hx hb dX10_set_0 rfl (lv_at hl 1 rfl) ?_
  refine xr_ifn1 (tgt := 13) hx hb (by decide) dX10_set_1 (by decide) ?_
  refine lv_iload_n hx hb dX10_set_13 rfl (lv_at hl 1 rfl) ?_
  refine lv_iconst (v := nI 1) hx hb dX10_set_14 (by decide) ?_
  refine xr_ne_n (a := 2) (b := 1) (tgt := 27) hx hb (by decide) (by decide) dX10_set_15 (by decide) (fun _ => ?_) (fun c9 => absurd c9 (by decide))
  refine lv_iload_n hx hb dX10_set_27 rfl (lv_at hl 1 rfl) ?_
  refine lv_iconst (v := nI 2) hx hb dX10_set_28 (by decide) ?_
  refine xr_ne_n (a := 2) (b := 2) (tgt := 47) hx hb (by decide) (by decide) dX10_set_29 (by decide) (fun c9 => absurd c9 (by decide)) (fun _ => ?_)
  refine lv_iload_n hx hb dX10_set_32 rfl (lv_at hl 2 rfl) ?_
  refine lv_iconst (v := nI 0) hx hb dX10_set_33 (by decide) ?_
  refine lv_sipush (v := nI 999) hx hb dX10_set_34 (by decide) ?_
  refine xkRi (xSs (Ws' := ([] : List Cond)) (As := [.int v, .int (nI 0), .int (nI 999)]) (rest := []) (wc := []) hx hb hml hown hts (c_X10_in l dC dI cI cF cC cZ cQ cS v (nI 0) (nI 999)) 3 (fun hR => va_cwS 3 hts gX10_set_X10_in rfl rfl rfl hdN_X10_in hR) ⟨Nat.le_of_ble_eq_true rfl, Nat.le_of_ble_eq_true rfl⟩ hN hK hP hD [] rfl rfl rfl hl.1 rfl (Nat.le_of_ble_eq_true rfl) dX10_set_37 ⟨Nat.zero_le _, Nat.zero_le _⟩) (fun r_1 hr_1 => ?_)
  have hr_1 : r_1 = (if (nI 0) ≤ v ∧ v ≤ (nI 999) then nI 1 else nI 0) := hr_1
  obtain rfl : r_1 = nI 0 := hr_1.trans (if_neg hw)
  refine xr_if0 (tgt := 47) hx hb (by decide) dX10_set_40 (by decide) ?_
  refine lv_iconst (v := nI 0) hx hb dX10_set_47 (by decide) ?_
  refine lv_istore_n (lv' := [(3, .int (nI 0)), (0, .ref h0), (1, .int (nI 2)), (2, .int v)]) hx hb dX10_set_48 rfl hl (by decide) rfl (fun ls hl => ?_)
  refine lv_iload_n hx hb dX10_set_49 rfl (lv_at hl 0 rfl) ?_
  refine xr_ifn0 (tgt := 56) hx hb (by decide) dX10_set_50 (by decide) ?_
  refine lv_bipush (v := (-2)) hx hb dX10_set_53 (by decide) ?_
  exact W.iret (v := (-2)) hx hb hr (fun t ht hW => ⟨_, rfl, (show (-2) = (-2) from rfl), ht⟩) (fun q h => by cases h) dX10_set_55
set_option maxHeartbeats 4000000 in
set_option maxRecDepth 100000 in
theorem c_X10_sete2 (l : Launch) (dC : Nat → ClassId) (dI : Nat → Nat → Nat) (cI cF cC cZ cQ cS : ClassId) (h0 : Nat) (zq : Nat) (h0_past : Value) (h0_kept : Value) (h0_spare : Value) (h0_pastMany : Value) (h0_isKept : Value) (h0_text : Value) (h0_typed : Value) (h0_isUsed : Value) (h0_planBatch : Value) (h0_planUnits : Value) (h0_planCents : Value) (h0_planMany : Value) (h0_planGot : Value) (h0_planSubstitutes : Value) (h0_at : Value) (h0_fault : Value) (h0_entries : Value) (h0_entry : Value) (z : Nat → Int32) (v : Int32) (hw : nI 0 ≤ v ∧ v ≤ nI 999) (hv : z 6 = v) : Met l yX10_set wsX10_set ({ frames := 1, cells := 0, slots := 0, locals := 22 }) (xPre (dC, dI) vwCl [.ref h0, .int (nI 2), .int v] (xtys cI cF cC cZ cQ cS) [(h0, .inr (10, [.ref zq, h0_past, h0_kept, h0_spare, h0_pastMany, h0_isKept, h0_text, h0_typed, h0_isUsed, h0_planBatch, h0_planUnits, h0_planCents, h0_planMany, h0_planGot, h0_planSubstitutes, h0_at, h0_fault, h0_entries, h0_entry])), (zq, .inl (cI, 1002, .inl z))]) (vp_Si (fun r0 => r0 = (-5))) 0 0 (fun _ => False) := by
  refine Met.ofW (cc := cX10_set) (maxL := 5) (ret := (some .int)) (by decide) rfl ?_
  intro p e s m args below meth c s₁ B hml hv
  obtain ⟨rfl, hP, hK, hD0, hN⟩ := hv
  have hx := B.exec
  have hb := B.bytes
  have hr := B.returns
  have hts := atoms_spec (ws := wsX10_set) B.pre
  have hown : s.vm.findClass RX10 = some m.cls := findClass_of_methodNamed B.named
  have hlocks := B.notSynchronized
  have k_7 := hts (Cond.fieldLink RX10 7 "ShelfStagesModel" "z" "[I") (by decide +kernel)
  have i_X10 : ∀ w ∈ wsX100, w ∈ wsX10_set := by decide +kernel
  have hD := hD0
  have hl := lv_entry ([.ref h0, .int (nI 2), .int v]) (n := 5) (Nat.le_of_ble_eq_true rfl)
  rw [lg_entry_eq]
  generalize (lg_sl ([.ref h0, .int (nI 2), .int v]) ++ List.replicate (5 - (lg_sl ([.ref h0, .int (nI 2), .int v])).length) Slot.unset).toArray = ls at hl ⊢
  have hl : lv_has ls 5 [(0, .ref h0), (1, .int (nI 2)), (2, .int v)] := hl
  refine lv_iload_n hx hb dX10_set_0 rfl (lv_at hl 1 rfl) ?_
  refine xr_ifn1 (tgt := 13) hx hb (by decide) dX10_set_1 (by decide) ?_
  refine lv_iload_n hx hb dX10_set_13 rfl (lv_at hl 1 rfl) ?_
  refine lv_iconst (v := nI 1) hx hb dX10_set_14 (by decide) ?_
  refine xr_ne_n (a := 2) (b := 1) (tgt := 27) hx hb (by decide) (by decide) dX10_set_15 (by decide) (fun _ => ?_) (fun c9 => absurd c9 (by decide))
  refine lv_iload_n hx hb dX10_set_27 rfl (lv_at hl 1 rfl) ?_
  refine lv_iconst (v := nI 2) hx hb dX10_set_28 (by decide) ?_
  refine xr_ne_n (a := 2) (b := 2) (tgt := 47) hx hb (by decide) (by decide) dX10_set_29 (by decide) (fun c9 => absurd c9 (by decide)) (fun _ => ?_)
  refine lv_iload_n hx hb dX10_set_32 rfl (lv_at hl 2 rfl) ?_
  refine lv_iconst (v := nI 0) hx hb dX10_set_33 (by decide) ?_
  refine lv_sipush (v := nI 999) hx hb dX10_set_34 (by decide) ?_
  refine xkRi (xSs (Ws' := ([] : List Cond)) (As := [.int v, .int (nI 0), .int (nI 999)]) (rest := []) (wc := []) hx hb hml hown hts (c_X10_in l dC dI cI cF cC cZ cQ cS v (nI 0) (nI 999)) 3 (fun hR => va_cwS 3 hts gX10_set_X10_in rfl rfl rfl hdN_X10_in hR) ⟨Nat.le_of_ble_eq_true rfl, Nat.le_of_ble_eq_true rfl⟩ hN hK hP hD [] rfl rfl rfl hl.1 rfl (Nat.le_of_ble_eq_true rfl) dX10_set_37 ⟨Nat.zero_le _, Nat.zero_le _⟩) (fun r_1 hr_1 => ?_)
  have hr_1 : r_1 = (if (nI 0) ≤ v ∧ v ≤ (nI 999) then nI 1 else nI 0) := hr_1
  obtain rfl : r_1 = nI 1 := hr_1.trans (if_pos hw)
  refine xr_if1 (tgt := 47) hx hb (by decide) dX10_set_40 (by decide) ?_
  refine lv_iconst (v := nI 1) hx hb dX10_set_43 (by decide) ?_
  refine lv_goto (tgt := 48) hx hb dX10_set_44 (by decide) ?_
  refine lv_istore_n (lv' := [(3, .int (nI 1)), (0, .ref h0), (1, .int (nI 2)), (2, .int v)]) hx hb dX10_set_48 rfl hl (by decide) rfl (fun ls hl => ?_)
  refine lv_iload_n hx hb dX10_set_49 rfl (lv_at hl 0 rfl) ?_
  refine xr_ifn1 (tgt := 56) hx hb (by decide) dX10_set_50 (by decide) ?_
  refine lv_aload_n hx hb dX10_set_56 rfl (lv_at hl 1 rfl) ?_
  refine va_get (D := (dC, dI)) (ci := 10) (v := .ref zq) (C := RX10) (T := TX10) (N := 19) hx hb hts i_X10 hown hK hP 0 rfl rfl 0 (by decide) k_7 (fun _ h9 => h9) rfl dX10_set_57 ?_
  refine lv_iconst (v := nI 4) hx hb dX10_set_60 (by decide) ?_
  refine lv_iload_n hx hb dX10_set_61 rfl (lv_at hl 2 rfl) ?_
  refine xr_iadd_n hx hb dX10_set_62 ?_
  refine xr_iald hx hb hK hP 1 0 rfl rfl (i := 4 + 2) (by omega) (by decide) dX10_set_63 ?_
  refine lv_istore (lv' := [(4, .int (z (4 + 2))), (3, .int (nI 1)), (0, .ref h0), (1, .int (nI 2)), (2, .int v)]) hx hb dX10_set_64 hl (by decide) rfl (fun ls hl => ?_)
  refine lv_iload hx hb dX10_set_66 (lv_at hl 0 rfl) ?_
  refine lv_iload_n hx hb dX10_set_68 rfl (lv_at hl 4 rfl) ?_
  refine lv_icmp_ne (tgt := 75) hx hb dX10_set_69 (by decide) (fun c_2 => False.elim (by exact c_2 hv)) (fun c_2 => ?_)
  refine lv_bipush (v := (-5)) hx hb dX10_set_72 (by decide) ?_
  exact W.iret (v := (-5)) hx hb hr (fun t ht hW => ⟨_, rfl, (show (-5) = (-5) from rfl), ht⟩) (fun q h => by cases h) dX10_set_74
set_option maxHeartbeats 4000000 in
set_option maxRecDepth 100000 in
theorem c_X10_sets2 (l : Launch) (dC : Nat → ClassId) (dI : Nat → Nat → Nat) (cI cF cC cZ cQ cS : ClassId) (h0 : Nat) (zq : Nat) (pq : Nat) (h0_kept : Value) (h0_spare : Value) (h0_isKept : Value) (h0_text : Value) (h0_typed : Value) (h0_isUsed : Value) (h0_planBatch : Value) (h0_planUnits : Value) (h0_planCents : Value) (h0_planMany : Value) (h0_planGot : Value) (h0_planSubstitutes : Value) (h0_at : Value) (h0_fault : Value) (h0_entries : Value) (h0_entry : Value) (z : Nat → Int32) (past : Nat → Int32) (pm : Nat) (v : Int32) (hpm : pm ≤ 4) (hw : nI 0 ≤ v ∧ v ≤ nI 999) (hv : ¬ z 6 = v) : Met l yX10_set wsX10_set ({ frames := 1, cells := 0, slots := 0, locals := 22 }) (xPre (dC, dI) vwCl [.ref h0, .int (nI 2), .int v] (xtys cI cF cC cZ cQ cS) [(h0, .inr (10, [.ref zq, .ref pq, h0_kept, h0_spare, .int (nI pm), h0_isKept, h0_text, h0_typed, h0_isUsed, h0_planBatch, h0_planUnits, h0_planCents, h0_planMany, h0_planGot, h0_planSubstitutes, h0_at, h0_fault, h0_entries, h0_entry])), (zq, .inl (cI, 1002, .inl z)), (pq, .inl (cI, 4008, .inl past))]) (xWi (dC, dI) vwCl [(h0, .inr (10, [.ref zq, .ref pq, h0_kept, h0_spare, .int (nI pm), h0_isKept, h0_text, h0_typed, h0_isUsed, h0_planBatch, h0_planUnits, h0_planCents, h0_planMany, h0_planGot, h0_planSubstitutes, h0_at, h0_fault, h0_entries, h0_entry])), (zq, .inl (cI, 1002, .inl z)), (pq, .inl (cI, 4008, .inl past))] (fun r0 w0 => r0 = z 6 ∧ w0 = [(h0, .inr (10, [.ref zq, .ref pq, h0_kept, h0_spare, .int (nI (if pm = 4 then 4 else pm + 1)), h0_isKept, h0_text, h0_typed, h0_isUsed, h0_planBatch, h0_planUnits, h0_planCents, h0_planMany, h0_planGot, h0_planSubstitutes, h0_at, h0_fault, h0_entries, h0_entry])), (zq, .inl (cI, 1002, .inl (upd z 6 v))), (pq, .inl (cI, 4008, .inl (zrec z past pm)))])) 0 0 (va_B [(h0, .inr (10, [.ref zq, .ref pq, h0_kept, h0_spare, .int (nI pm), h0_isKept, h0_text, h0_typed, h0_isUsed, h0_planBatch, h0_planUnits, h0_planCents, h0_planMany, h0_planGot, h0_planSubstitutes, h0_at, h0_fault, h0_entries, h0_entry])), (zq, .inl (cI, 1002, .inl z)), (pq, .inl (cI, 4008, .inl past))]) := by
  refine Met.ofW (cc := cX10_set) (maxL := 5) (ret := (some .int)) (by decide) rfl ?_
  intro p e s m args below meth c s₁ B hml hv
  obtain ⟨rfl, hP, hK, hD0, hN⟩ := hv
  have hx := B.exec
  have hb := B.bytes
  have hr := B.returns
  have hts := atoms_spec (ws := wsX10_set) B.pre
  have hown : s.vm.findClass RX10 = some m.cls := findClass_of_methodNamed B.named
  have hlocks := B.notSynchronized
  have k_7 := hts (Cond.fieldLink RX10 7 "ShelfStagesModel" "z" "[I") (by decide +kernel)
  have i_X10 : ∀ w ∈ wsX100, w ∈ wsX10_set := by decide +kernel
  obtain ⟨A, hA⟩ : ∃ A, A = va_B [(h0, .inr (10, [.ref zq, .ref pq, h0_kept, h0_spare, .int (nI pm), h0_isKept, h0_text, h0_typed, h0_isUsed, h0_planBatch, h0_planUnits, h0_planCents, h0_planMany, h0_planGot, h0_planSubstitutes, h0_at, h0_fault, h0_entries, h0_entry])), (zq, .inl (cI, 1002, .inl z)), (pq, .inl (cI, 4008, .inl past))] := ⟨_, rfl⟩
  have hD : va_D A [(h0, .inr (10, [.ref zq, .ref pq, h0_kept, h0_spare, .int (nI pm), h0_isKept, h0_text, h0_typed, h0_isUsed, h0_planBatch, h0_planUnits, h0_planCents, h0_planMany, h0_planGot, h0_planSubstitutes, h0_at, h0_fault, h0_entries, h0_entry])), (zq, .inl (cI, 1002, .inl z)), (pq, .inl (cI, 4008, .inl past))] := hA ▸ hD0.own
  have hS : va_S A s.heap s.heap [] := va_S.rf
  have hl := lv_entry ([.ref h0, .int (nI 2), .int v]) (n := 5) (Nat.le_of_ble_eq_true rfl)
  rw [lg_entry_eq]
  generalize (lg_sl ([.ref h0, .int (nI 2), .int v]) ++ List.replicate (5 - (lg_sl ([.ref h0, .int (nI 2), .int v])).length) Slot.unset).toArray = ls at hl ⊢
  have hl : lv_has ls 5 [(0, .ref h0), (1, .int (nI 2)), (2, .int v)] := hl
  refine lv_iload_n hx hb dX10_set_0 rfl (lv_at hl 1 rfl) ?_
  refine xr_ifn1 (tgt := 13) hx hb (by decide) dX10_set_1 (by decide) ?_
  refine lv_iload_n hx hb dX10_set_13 rfl (lv_at hl 1 rfl) ?_
  refine lv_iconst (v := nI 1) hx hb dX10_set_14 (by decide) ?_
  refine xr_ne_n (a := 2) (b := 1) (tgt := 27) hx hb (by decide) (by decide) dX10_set_15 (by decide) (fun _ => ?_) (fun c9 => absurd c9 (by decide))
  refine lv_iload_n hx hb dX10_set_27 rfl (lv_at hl 1 rfl) ?_
  refine lv_iconst (v := nI 2) hx hb dX10_set_28 (by decide) ?_
  refine xr_ne_n (a := 2) (b := 2) (tgt := 47) hx hb (by decide) (by decide) dX10_set_29 (by decide) (fun c9 => absurd c9 (by decide)) (fun _ => ?_)
  refine lv_iload_n hx hb dX10_set_32 rfl (lv_at hl 2 rfl) ?_
  refine lv_iconst (v := nI 0) hx hb dX10_set_33 (by decide) ?_
  refine lv_sipush (v := nI 999) hx hb dX10_set_34 (by decide) ?_
  refine xkRi (xSs (Ws' := ([] : List Cond)) (As := [.int v, .int (nI 0), .int (nI 999)]) (rest := []) (wc := []) hx hb hml hown hts (c_X10_in l dC dI cI cF cC cZ cQ cS v (nI 0) (nI 999)) 3 (fun hR => va_cwS 3 hts gX10_set_X10_in rfl rfl rfl hdN_X10_in hR) ⟨Nat.le_of_ble_eq_true rfl, Nat.le_of_ble_eq_true rfl⟩ hN hK hP hD [] rfl rfl rfl hl.1 rfl (Nat.le_of_ble_eq_true rfl) dX10_set_37 ⟨Nat.zero_le _, Nat.zero_le _⟩) (fun r_1 hr_1 => ?_)
  have hr_1 : r_1 = (if (nI 0) ≤ v ∧ v ≤ (nI 999) then nI 1 else nI 0) := hr_1
  obtain rfl : r_1 = nI 1 := hr_1.trans (if_pos hw)
  refine xr_if1 (tgt := 47) hx hb (by decide) dX10_set_40 (by decide) ?_
  refine lv_iconst (v := nI 1) hx hb dX10_set_43 (by decide) ?_
  refine lv_goto (tgt := 48) hx hb dX10_set_44 (by decide) ?_
  refine lv_istore_n (lv' := [(3, .int (nI 1)), (0, .ref h0), (1, .int (nI 2)), (2, .int v)]) hx hb dX10_set_48 rfl hl (by decide) rfl (fun ls hl => ?_)
  refine lv_iload_n hx hb dX10_set_49 rfl (lv_at hl 0 rfl) ?_
  refine xr_ifn1 (tgt := 56) hx hb (by decide) dX10_set_50 (by decide) ?_
  refine lv_aload_n hx hb dX10_set_56 rfl (lv_at hl 1 rfl) ?_
  refine va_get (D := (dC, dI)) (ci := 10) (v := .ref zq) (C := RX10) (T := TX10) (N := 19) hx hb hts i_X10 hown hK hP 0 rfl rfl 0 (by decide) k_7 (fun _ h9 => h9) rfl dX10_set_57 ?_
  refine lv_iconst (v := nI 4) hx hb dX10_set_60 (by decide) ?_
  refine lv_iload_n hx hb dX10_set_61 rfl (lv_at hl 2 rfl) ?_
  refine xr_iadd_n hx hb dX10_set_62 ?_
  refine xr_iald hx hb hK hP 1 0 rfl rfl (i := 4 + 2) (by omega) (by decide) dX10_set_63 ?_
  refine lv_istore (lv' := [(4, .int (z (4 + 2))), (3, .int (nI 1)), (0, .ref h0), (1, .int (nI 2)), (2, .int v)]) hx hb dX10_set_64 hl (by decide) rfl (fun ls hl => ?_)
  refine lv_iload hx hb dX10_set_66 (lv_at hl 0 rfl) ?_
  refine lv_iload_n hx hb dX10_set_68 rfl (lv_at hl 4 rfl) ?_
  refine lv_icmp_ne (tgt := 75) hx hb dX10_set_69 (by decide) (fun c_2 => ?_) (fun c_2 => False.elim (by exact hv c_2))
  refine lv_aload_n hx hb dX10_set_75 rfl (lv_at hl 2 rfl) ?_
  refine xkV2 (xV (As := []) (rest := []) (wc := [(h0, .inr (10, [.ref zq, .ref pq, h0_kept, h0_spare, .int (nI pm), h0_isKept, h0_text, h0_typed, h0_isUsed, h0_planBatch, h0_planUnits, h0_planCents, h0_planMany, h0_planGot, h0_planSubstitutes, h0_at, h0_fault, h0_entries, h0_entry])), (zq, .inl (cI, 1002, .inl z)), (pq, .inl (cI, 4008, .inl past))]) hx hb hml hown hts (c_X10_record l dC dI cI cF cC cZ cQ cS h0 zq pq h0_kept h0_spare h0_isKept h0_text h0_typed h0_isUsed h0_planBatch h0_planUnits h0_planCents h0_planMany h0_planGot h0_planSubstitutes h0_at h0_fault h0_entries h0_entry z past pm (by omega)) 0 gX10_set_X10_record rfl rfl rfl hdV_X10_record ⟨Nat.le_of_ble_eq_true rfl, Nat.le_of_ble_eq_true rfl⟩ hN hK hP hD [0, 1, 2] rfl rfl 10 0 rfl rfl rfl hl.1 rfl (Nat.le_of_ble_eq_true rfl) dX10_set_76 ⟨Nat.zero_le _, Nat.zero_le _⟩) hP hD hS [0, 1, 2] [0, 1, 2] rfl rfl 3 rfl (by decide +kernel) (fun H locs hP hD hS => ?_)
  have hP : va_P (dC, dI) vwCl [(h0, .inr (10, [.ref zq, .ref pq, h0_kept, h0_spare, .int (nI (if pm = 4 then 4 else pm + 1)), h0_isKept, h0_text, h0_typed, h0_isUsed, h0_planBatch, h0_planUnits, h0_planCents, h0_planMany, h0_planGot, h0_planSubstitutes, h0_at, h0_fault, h0_entries, h0_entry])), (zq, .inl (cI, 1002, .inl z)), (pq, .inl (cI, 4008, .inl (zrec z past pm)))] H := hP
  have hD : va_D A [(h0, .inr (10, [.ref zq, .ref pq, h0_kept, h0_spare, .int (nI (if pm = 4 then 4 else pm + 1)), h0_isKept, h0_text, h0_typed, h0_isUsed, h0_planBatch, h0_planUnits, h0_planCents, h0_planMany, h0_planGot, h0_planSubstitutes, h0_at, h0_fault, h0_entries, h0_entry])), (zq, .inl (cI, 1002, .inl z)), (pq, .inl (cI, 4008, .inl (zrec z past pm)))] := hD
  refine lv_aload_n hx hb dX10_set_79 rfl (lv_at hl 2 rfl) ?_
  refine va_get (D := (dC, dI)) (ci := 10) (v := .ref zq) (C := RX10) (T := TX10) (N := 19) hx hb hts i_X10 hown hK hP 0 rfl rfl 0 (by decide) k_7 (fun _ h9 => h9) rfl dX10_set_80 ?_
  refine lv_iconst (v := nI 4) hx hb dX10_set_83 (by decide) ?_
  refine lv_iload_n hx hb dX10_set_84 rfl (lv_at hl 3 rfl) ?_
  refine xr_iadd_n hx hb dX10_set_85 ?_
  refine lv_iload_n hx hb dX10_set_86 rfl (lv_at hl 4 rfl) ?_
  refine xr_iast hx hb hK hP hD hS 1 0 rfl rfl (i := 4 + 2) (by omega) (by decide) dX10_set_87 (fun H locs hP hD hS => ?_)
  have hP : va_P (dC, dI) vwCl [(h0, .inr (10, [.ref zq, .ref pq, h0_kept, h0_spare, .int (nI (if pm = 4 then 4 else pm + 1)), h0_isKept, h0_text, h0_typed, h0_isUsed, h0_planBatch, h0_planUnits, h0_planCents, h0_planMany, h0_planGot, h0_planSubstitutes, h0_at, h0_fault, h0_entries, h0_entry])), (zq, .inl (cI, 1002, .inl (upd z (4 + 2) v))), (pq, .inl (cI, 4008, .inl (zrec z past pm)))] H := hP
  have hD : va_D A [(h0, .inr (10, [.ref zq, .ref pq, h0_kept, h0_spare, .int (nI (if pm = 4 then 4 else pm + 1)), h0_isKept, h0_text, h0_typed, h0_isUsed, h0_planBatch, h0_planUnits, h0_planCents, h0_planMany, h0_planGot, h0_planSubstitutes, h0_at, h0_fault, h0_entries, h0_entry])), (zq, .inl (cI, 1002, .inl (upd z (4 + 2) v))), (pq, .inl (cI, 4008, .inl (zrec z past pm)))] := hD
  refine lv_iload hx hb dX10_set_88 (lv_at hl 0 rfl) ?_
  have hP9 : va_P (dC, dI) vwCl [(h0, .inr (10, [.ref zq, .ref pq, h0_kept, h0_spare, .int (nI (if pm = 4 then 4 else pm + 1)), h0_isKept, h0_text, h0_typed, h0_isUsed, h0_planBatch, h0_planUnits, h0_planCents, h0_planMany, h0_planGot, h0_planSubstitutes, h0_at, h0_fault, h0_entries, h0_entry])), (zq, .inl (cI, 1002, .inl (upd z 6 v))), (pq, .inl (cI, 4008, .inl (zrec z past pm)))] H := hP
  have hS9 : va_S (va_B [(h0, .inr (10, [.ref zq, .ref pq, h0_kept, h0_spare, .int (nI pm), h0_isKept, h0_text, h0_typed, h0_isUsed, h0_planBatch, h0_planUnits, h0_planCents, h0_planMany, h0_planGot, h0_planSubstitutes, h0_at, h0_fault, h0_entries, h0_entry])), (zq, .inl (cI, 1002, .inl z)), (pq, .inl (cI, 4008, .inl past))]) s.heap H locs := by rw [← hA]; exact hS
  exact W.iret (v := z (4 + 2)) hx hb hr (fun t ht hW => ⟨⟨_, _, rfl, ⟨(show z (4 + 2) = z 6 from rfl), rfl⟩, by rw [ht]; exact hP9⟩, hS9.X ht⟩) hS9.2.2 dX10_set_90
set_option maxHeartbeats 4000000 in
set_option maxRecDepth 100000 in
theorem c_X10_setbx (l : Launch) (dC : Nat → ClassId) (dI : Nat → Nat → Nat) (cI cF cC cZ cQ cS : ClassId) (h0 : Nat) (zq : Nat) (h0_past : Value) (h0_kept : Value) (h0_spare : Value) (h0_pastMany : Value) (h0_isKept : Value) (h0_text : Value) (h0_typed : Value) (h0_isUsed : Value) (h0_planBatch : Value) (h0_planUnits : Value) (h0_planCents : Value) (h0_planMany : Value) (h0_planGot : Value) (h0_planSubstitutes : Value) (h0_at : Value) (h0_fault : Value) (h0_entries : Value) (h0_entry : Value) (z : Nat → Int32) (wh : Int32) (v : Int32) (h0w : ¬ wh = 0) (h1w : ¬ wh = nI 1) (h2w : ¬ wh = nI 2) : Met l yX10_set wsX10_set ({ frames := 0, cells := 0, slots := 0, locals := 0 }) (xPre (dC, dI) vwCl [.ref h0, .int wh, .int v] (xtys cI cF cC cZ cQ cS) [(h0, .inr (10, [.ref zq, h0_past, h0_kept, h0_spare, h0_pastMany, h0_isKept, h0_text, h0_typed, h0_isUsed, h0_planBatch, h0_planUnits, h0_planCents, h0_planMany, h0_planGot, h0_planSubstitutes, h0_at, h0_fault, h0_entries, h0_entry])), (zq, .inl (cI, 1002, .inl z))]) (vp_Si (fun r0 => r0 = (-2))) 0 0 (fun _ => False) := by
  refine Met.ofW (cc := cX10_set) (maxL := 5) (ret := (some .int)) (by decide) rfl ?_
  intro p e s m args below meth c s₁ B hml hv
  obtain ⟨rfl, hP, hK, hD0, hN⟩ := hv
  have hx := B.exec
  have hb := B.bytes
  have hr := B.returns
  have hts := atoms_spec (ws := wsX10_set) B.pre
  have hown : s.vm.findClass RX10 = some m.cls := findClass_of_methodNamed B.named
  have hlocks := B.notSynchronized
  have hD := hD0
  have hl := lv_entry ([.ref h0, .int wh, .int v]) (n := 5) (Nat.le_of_ble_eq_true rfl)
  rw [lg_entry_eq]
  generalize (lg_sl ([.ref h0, .int wh, .int v]) ++ List.replicate (5 - (lg_sl ([.ref h0, .int wh, .int v])).length) Slot.unset).toArray = ls at hl ⊢
  have hl : lv_has ls 5 [(0, .ref h0), (1, .int wh), (2, .int v)] := hl
  refine lv_iload_n hx hb dX10_set_0 rfl (lv_at hl 1 rfl) ?_
  refine lv_if_ne (tgt := 13) hx hb dX10_set_1 (by decide) (fun c_1 => ?_) (fun c_1 => False.elim (by exact h0w c_1))
  refine lv_iload_n hx hb dX10_set_13 rfl (lv_at hl 1 rfl) ?_
  refine lv_iconst (v := nI 1) hx hb dX10_set_14 (by decide) ?_
  refine lv_icmp_ne (tgt := 27) hx hb dX10_set_15 (by decide) (fun c_2 => ?_) (fun c_2 => False.elim (by exact h1w c_2))
  refine lv_iload_n hx hb dX10_set_27 rfl (lv_at hl 1 rfl) ?_
  refine lv_iconst (v := nI 2) hx hb dX10_set_28 (by decide) ?_
  refine lv_icmp_ne (tgt := 47) hx hb dX10_set_29 (by decide) (fun c_3 => ?_) (fun c_3 => False.elim (by exact h2w c_3))
  refine lv_iconst (v := nI 0) hx hb dX10_set_47 (by decide) ?_
  refine lv_istore_n (lv' := [(3, .int (nI 0)), (0, .ref h0), (1, .int wh), (2, .int v)]) hx hb dX10_set_48 rfl hl (by decide) rfl (fun ls hl => ?_)
  refine lv_iload_n hx hb dX10_set_49 rfl (lv_at hl 0 rfl) ?_
  refine xr_ifn0 (tgt := 56) hx hb (by decide) dX10_set_50 (by decide) ?_
  refine lv_bipush (v := (-2)) hx hb dX10_set_53 (by decide) ?_
  exact W.iret (v := (-2)) hx hb hr (fun t ht hW => ⟨_, rfl, (show (-2) = (-2) from rfl), ht⟩) (fun q h => by cases h) dX10_set_55
theorem hdV_X9_set : yX9_set.cls = RX9 ∧ yX9_set.cls ≠ "java/lang/invoke/MethodHandle" ∧ yX9_set.cls ≠ "java/lang/invoke/VarHandle" ∧ (parseMethodDescriptor yX9_set.desc).map (fun d => d.parameters.length) = some 2 := by decide +kernel
set_option maxHeartbeats 4000000 in
set_option maxRecDepth 100000 in
theorem c_X9_setb (l : Launch) (dC : Nat → ClassId) (dI : Nat → Nat → Nat) (cI cF cC cZ cQ cS : ClassId) (x0 : Nat) (x0_now : Value) (x0_snapshot : Value) (x0_trial : Value) (x0_history : Value) (x0_filling : Value) (x0_delivery : Value) (x0_text : Value) (x0_textLength : Value) (x0_hasSnapshot : Value) (wh : Int32) (v : Int32) (hbd : xisset wh v = 0) : Met l yX9_set wsX9_set ({ frames := 2, cells := 0, slots := 0, locals := 43 }) (xPre (dC, dI) vwCl [.ref x0, .int wh, .int v] (xtys cI cF cC cZ cQ cS) [(x0, .inr (9, [x0_now, x0_snapshot, x0_trial, x0_history, x0_filling, x0_delivery, x0_text, x0_textLength, x0_hasSnapshot]))]) (vp_Si (fun r0 => r0 = (-2))) 0 0 (fun _ => False) := by
  refine Met.ofW (cc := cX9_set) (maxL := 4) (ret := (some .int)) (by decide) rfl ?_
  intro p e s m args below meth c s₁ B hml hv
  obtain ⟨rfl, hP, hK, hD0, hN⟩ := hv
  have hx := B.exec
  have hb := B.bytes
  have hr := B.returns
  have hts := atoms_spec (ws := wsX9_set) B.pre
  have hown : s.vm.findClass RX9 = some m.cls := findClass_of_methodNamed B.named
  have hlocks := B.notSynchronized
  have hD := hD0
  have hl := lv_entry ([.ref x0, .int wh, .int v]) (n := 4) (Nat.le_of_ble_eq_true rfl)
  rw [lg_entry_eq]
  generalize (lg_sl ([.ref x0, .int wh, .int v]) ++ List.replicate (4 - (lg_sl ([.ref x0, .int wh, .int v])).length) Slot.unset).toArray = ls at hl ⊢
  have hl : lv_has ls 4 [(0, .ref x0), (1, .int wh), (2, .int v)] := hl
  refine lv_iload_n hx hb dX9_set_0 rfl (lv_at hl 1 rfl) ?_
  refine lv_iload_n hx hb dX9_set_1 rfl (lv_at hl 2 rfl) ?_
  refine xkRi (xSs (Ws' := ([] : List Cond)) (As := [.int wh, .int v]) (rest := []) (wc := []) hx hb hml hown hts (c_X9_isSetting l dC dI cI cF cC cZ cQ cS wh v) 2 (fun hR => va_cwS 2 hts gX9_set_X9_isSetting rfl rfl rfl hdN_X9_isSetting hR) ⟨Nat.le_of_ble_eq_true rfl, Nat.le_of_ble_eq_true rfl⟩ hN hK hP hD [] rfl rfl rfl hl.1 rfl (Nat.le_of_ble_eq_true rfl) dX9_set_2 ⟨Nat.zero_le _, Nat.zero_le _⟩) (fun r_1 hr_1 => ?_)
  obtain rfl : r_1 = xisset wh v := hr_1
  refine lv_if_ne (tgt := 11) hx hb dX9_set_5 (by decide) (fun c_2 => False.elim (by exact c_2 hbd)) (fun c_2 => ?_)
  refine lv_bipush (v := (-2)) hx hb dX9_set_8 (by decide) ?_
  exact W.iret (v := (-2)) hx hb hr (fun t ht hW => ⟨_, rfl, (show (-2) = (-2) from rfl), ht⟩) (fun q h => by cases h) dX9_set_10
set_option maxHeartbeats 4000000 in
set_option maxRecDepth 100000 in
theorem c_X9_sete (l : Launch) (dC : Nat → ClassId) (dI : Nat → Nat → Nat) (cI cF cC cZ cQ cS : ClassId) (x0 : Nat) (o0 : Nat) (x0_snapshot : Value) (x0_trial : Value) (x0_history : Value) (x0_filling : Value) (x0_delivery : Value) (x0_text : Value) (x0_textLength : Value) (x0_hasSnapshot : Value) (o0_goods : Value) (o0_batches : Value) (o0_orders : Value) (o0_stages : Value) (o0_log : Value) (o39 : Nat) (o0_rebate : Value) (o0_day : Value) (sets : Nat → Int32) (wn : Nat) (v : Int32) (hwn : wn < 3) (hs : ¬ xisset (nI wn) v = 0) (hv : sets wn = v) : Met l yX9_set wsX9_set ({ frames := 2, cells := 0, slots := 0, locals := 43 }) (xPre (dC, dI) vwCl [.ref x0, .int (nI wn), .int v] (xtys cI cF cC cZ cQ cS) [(x0, .inr (9, [.ref o0, x0_snapshot, x0_trial, x0_history, x0_filling, x0_delivery, x0_text, x0_textLength, x0_hasSnapshot])), (o0, .inr (8, [o0_goods, o0_batches, o0_orders, o0_stages, o0_log, .ref o39, o0_rebate, o0_day])), (o39, .inl (cI, 3, .inl sets))]) (vp_Si (fun r0 => r0 = (-5))) 0 0 (fun _ => False) := by
  refine Met.ofW (cc := cX9_set) (maxL := 4) (ret := (some .int)) (by decide) rfl ?_
  intro p e s m args below meth c s₁ B hml hv
  obtain ⟨rfl, hP, hK, hD0, hN⟩ := hv
  have hx := B.exec
  have hb := B.bytes
  have hr := B.returns
  have hts := atoms_spec (ws := wsX9_set) B.pre
  have hown : s.vm.findClass RX9 = some m.cls := findClass_of_methodNamed B.named
  have hlocks := B.notSynchronized
  have k_118 := hts (Cond.fieldLink RX9 118 "ShelfStages$State" "settings" "[I") (by decide +kernel)
  have k_12 := hts (Cond.fieldLink RX9 12 "ShelfStages" "now" "LShelfStages$State;") (by decide +kernel)
  have i_X8 : ∀ w ∈ wsX80, w ∈ wsX9_set := by decide +kernel
  have i_X9 : ∀ w ∈ wsX90, w ∈ wsX9_set := by decide +kernel
  have hD := hD0
  have hl := lv_entry ([.ref x0, .int (nI wn), .int v]) (n := 4) (Nat.le_of_ble_eq_true rfl)
  rw [lg_entry_eq]
  generalize (lg_sl ([.ref x0, .int (nI wn), .int v]) ++ List.replicate (4 - (lg_sl ([.ref x0, .int (nI wn), .int v])).length) Slot.unset).toArray = ls at hl ⊢
  have hl : lv_has ls 4 [(0, .ref x0), (1, .int (nI wn)), (2, .int v)] := hl
  refine lv_iload_n hx hb dX9_set_0 rfl (lv_at hl 1 rfl) ?_
  refine lv_iload_n hx hb dX9_set_1 rfl (lv_at hl 2 rfl) ?_
  refine xkRi (xSs (Ws' := ([] : List Cond)) (As := [.int (nI wn), .int v]) (rest := []) (wc := []) hx hb hml hown hts (c_X9_isSetting l dC dI cI cF cC cZ cQ cS (nI wn) v) 2 (fun hR => va_cwS 2 hts gX9_set_X9_isSetting rfl rfl rfl hdN_X9_isSetting hR) ⟨Nat.le_of_ble_eq_true rfl, Nat.le_of_ble_eq_true rfl⟩ hN hK hP hD [] rfl rfl rfl hl.1 rfl (Nat.le_of_ble_eq_true rfl) dX9_set_2 ⟨Nat.zero_le _, Nat.zero_le _⟩) (fun r_1 hr_1 => ?_)
  obtain rfl : r_1 = xisset (nI wn) v := hr_1
  refine lv_if_ne (tgt := 11) hx hb dX9_set_5 (by decide) (fun c_2 => ?_) (fun c_2 => False.elim (by exact hs c_2))
  refine lv_aload_n hx hb dX9_set_11 rfl (lv_at hl 0 rfl) ?_
  refine va_get (D := (dC, dI)) (ci := 9) (v := .ref o0) (C := RX9) (T := TX9) (N := 9) hx hb hts i_X9 hown hK hP 0 rfl rfl 0 (by decide) k_12 (fun _ h9 => h9) rfl dX9_set_12 ?_
  refine va_get (D := (dC, dI)) (ci := 8) (v := .ref o39) (C := RX8) (T := TX8) (N := 8) hx hb hts i_X8 hown hK hP 1 rfl rfl 5 (by decide) k_118 (fun _ h9 => h9) rfl dX9_set_15 ?_
  refine lv_iload_n hx hb dX9_set_18 rfl (lv_at hl 1 rfl) ?_
  refine xr_iald hx hb hK hP 2 0 rfl rfl (i := wn) (by omega) (by decide) dX9_set_19 ?_
  refine lv_istore_n (lv' := [(3, .int (sets wn)), (0, .ref x0), (1, .int (nI wn)), (2, .int v)]) hx hb dX9_set_20 rfl hl (by decide) rfl (fun ls hl => ?_)
  refine lv_iload_n hx hb dX9_set_21 rfl (lv_at hl 0 rfl) ?_
  refine lv_iload_n hx hb dX9_set_22 rfl (lv_at hl 3 rfl) ?_
  refine lv_icmp_ne (tgt := 29) hx hb dX9_set_23 (by decide) (fun c_3 => False.elim (by exact c_3 hv)) (fun c_3 => ?_)
  refine lv_bipush (v := (-5)) hx hb dX9_set_26 (by decide) ?_
  exact W.iret (v := (-5)) hx hb hr (fun t ht hW => ⟨_, rfl, (show (-5) = (-5) from rfl), ht⟩) (fun q h => by cases h) dX9_set_28
