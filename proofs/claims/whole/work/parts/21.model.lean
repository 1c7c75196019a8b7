theorem hdN_X10_in : yX10_in.cls ≠ "java/lang/invoke/MethodHandle" ∧ yX10_in.cls ≠ "java/lang/invoke/VarHandle" ∧ (parseMethodDescriptor yX10_in.desc).map (fun d => d.parameters.length) = some 3 := by decide +kernel
theorem hdS_X10_in : yX10_in.cls = RX10 ∧ yX10_in.cls ≠ "java/lang/invoke/MethodHandle" ∧ yX10_in.cls ≠ "java/lang/invoke/VarHandle" ∧ (parseMethodDescriptor yX10_in.desc).map (fun d => d.parameters.length) = some 3 := by decide +kernel
set_option maxHeartbeats 4000000 in
set_option maxRecDepth 100000 in
theorem c_X10_in (l : Launch) (dC : Nat → ClassId) (dI : Nat → Nat → Nat) (cI cF cC cZ cQ cS : ClassId) (v : Int32) (a : Int32) (b : Int32) : Met l yX10_in wsX10_in ({ frames := 0, cells := 0, slots := 0, locals := 0 }) (xPre (dC, dI) vwCl [.int v, .int a, .int b] (xtys cI cF cC cZ cQ cS) []) (vp_Si (fun r0 => r0 = (if a ≤ v ∧ v ≤ b then nI 1 else nI 0))) 0 0 (fun _ => False) := by
  refine Met.ofW (cc := cX10_in) (maxL := 3) (ret := (some .boolean)) (by decide) rfl ?_
  intro p e s m args below meth c s₁ B hml hv
  obtain ⟨rfl, hP, hK, hD0, hN⟩ := hv
  have hx := B.exec
  have hb := B.bytes
  have hr := B.returns
  have hts := atoms_spec (ws := wsX10_in) B.pre
  have hown : s.vm.findClass RX10 = some m.cls := findClass_of_methodNamed B.named
  have hlocks := B.notSynchronized
  have hD := hD0
  have hl := lv_entry ([.int v, .int a, .int b]) (n := 3) (Nat.le_of_ble_eq_true rfl)
  rw [lg_entry_eq]
  generalize (lg_sl ([.int v, .int a, .int b]) ++ List.replicate (3 - (lg_sl ([.int v, .int a, .int b])).length) Slot.unset).toArray = ls at hl ⊢
  have hl : lv_has ls 3 [(0, .int v), (1, .int a), (2, .int b)] := hl
  refine lv_iload_n hx hb dX10_in_0 rfl (lv_at hl 0 rfl) ?_
  refine lv_iload_n hx hb dX10_in_1 rfl (lv_at hl 1 rfl) ?_
  refine lv_icmp_lt (tgt := 14) hx hb dX10_in_2 (by decide) (fun c_1 => ?_) (fun c_1 => ?_)
  · skip
    refine lv_iconst (v := nI 0) hx hb dX10_in_14 (by decide) ?_
    exact W.zret (v := nI 0) hx hb hr rfl (fun t ht hW => ⟨_, rfl, (show nI 0 = (if a ≤ v ∧ v ≤ b then nI 1 else nI 0) from (by rw [if_neg]; simp only [Int32.lt_iff_toInt_lt, Int32.le_iff_toInt_le] at c_1 ⊢; omega)), ht⟩) (fun q h => by cases h) dX10_in_15
  refine lv_iload_n hx hb dX10_in_5 rfl (lv_at hl 0 rfl) ?_
  refine lv_iload_n hx hb dX10_in_6 rfl (lv_at hl 2 rfl) ?_
  refine lv_icmp_gt (tgt := 14) hx hb dX10_in_7 (by decide) (fun c_2 => ?_) (fun c_2 => ?_)
  · skip
    refine lv_iconst (v := nI 0) hx hb dX10_in_14 (by decide) ?_
    exact W.zret (v := nI 0) hx hb hr rfl (fun t ht hW => ⟨_, rfl, (show nI 0 = (if a ≤ v ∧ v ≤ b then nI 1 else nI 0) from (by rw [if_neg]; simp only [Int32.lt_iff_toInt_lt, Int32.le_iff_toInt_le] at c_1 c_2 ⊢; omega)), ht⟩) (fun q h => by cases h) dX10_in_15
  refine lv_iconst (v := nI 1) hx hb dX10_in_10 (by decide) ?_
  refine lv_goto (tgt := 15) hx hb dX10_in_11 (by decide) ?_
  exact W.zret (v := nI 1) hx hb hr rfl (fun t ht hW => ⟨_, rfl, (show nI 1 = (if a ≤ v ∧ v ≤ b then nI 1 else nI 0) from (by rw [if_pos]; simp only [Int32.lt_iff_toInt_lt, Int32.le_iff_toInt_le] at c_1 c_2 ⊢; omega)), ht⟩) (fun q h => by cases h) dX10_in_15
theorem hdV_X10_isGood : yX10_isGood.cls = RX10 ∧ yX10_isGood.cls ≠ "java/lang/invoke/MethodHandle" ∧ yX10_isGood.cls ≠ "java/lang/invoke/VarHandle" ∧ (parseMethodDescriptor yX10_isGood.desc).map (fun d => d.parameters.length) = some 1 := by decide +kernel
set_option maxHeartbeats 4000000 in
set_option maxRecDepth 100000 in
theorem c_X10_isGood (l : Launch) (dC : Nat → ClassId) (dI : Nat → Nat → Nat) (cI cF cC cZ cQ cS : ClassId) (h0 : Nat) (zq : Nat) (h0_past : Value) (h0_kept : Value) (h0_spare : Value) (h0_pastMany : Value) (h0_isKept : Value) (h0_text : Value) (h0_typed : Value) (h0_isUsed : Value) (h0_planBatch : Value) (h0_planUnits : Value) (h0_planCents : Value) (h0_planMany : Value) (h0_planGot : Value) (h0_planSubstitutes : Value) (h0_at : Value) (h0_fault : Value) (h0_entries : Value) (h0_entry : Value) (z : Nat → Int32) (v : Int32) (gz : Nat) (hz1 : z 1 = nI gz) (hgz : gz ≤ 12) : Met l yX10_isGood wsX10_isGood ({ frames := 0, cells := 0, slots := 0, locals := 0 }) (xPre (dC, dI) vwCl [.ref h0, .int v] (xtys cI cF cC cZ cQ cS) [(h0, .inr (10, [.ref zq, h0_past, h0_kept, h0_spare, h0_pastMany, h0_isKept, h0_text, h0_typed, h0_isUsed, h0_planBatch, h0_planUnits, h0_planCents, h0_planMany, h0_planGot, h0_planSubstitutes, h0_at, h0_fault, h0_entries, h0_entry])), (zq, .inl (cI, 1002, .inl z))]) (vp_Si (fun r0 => r0 = (if xhas v gz then nI 1 else nI 0))) 0 0 (fun _ => False) := by
  refine Met.ofW (cc := cX10_isGood) (maxL := 2) (ret := (some .boolean)) (by decide) rfl ?_
  intro p e s m args below meth c s₁ B hml hv
  obtain ⟨rfl, hP, hK, hD0, hN⟩ := hv
  have hx := B.exec
  have hb := B.bytes
  have hr := B.returns
  have hts := atoms_spec (ws := wsX10_isGood) B.pre
  have hown : s.vm.findClass RX10 = some m.cls := findClass_of_methodNamed B.named
  have hlocks := B.notSynchronized
  have k_7 := hts (Cond.fieldLink RX10 7 "ShelfStagesModel" "z" "[I") (by decide +kernel)
  have i_X10 : ∀ w ∈ wsX100, w ∈ wsX10_isGood := by decide +kernel
  have hD := hD0
  have hl := lv_entry ([.ref h0, .int v]) (n := 2) (Nat.le_of_ble_eq_true rfl)
  rw [lg_entry_eq]
  generalize (lg_sl ([.ref h0, .int v]) ++ List.replicate (2 - (lg_sl ([.ref h0, .int v])).length) Slot.unset).toArray = ls at hl ⊢
  have hl : lv_has ls 2 [(0, .ref h0), (1, .int v)] := hl
  refine lv_iload_n hx hb dX10_isGood_0 rfl (lv_at hl 1 rfl) ?_
  refine lv_if_lt (tgt := 18) hx hb dX10_isGood_1 (by decide) (fun c_1 => ?_) (fun c_1 => ?_)
  · skip
    refine lv_iconst (v := nI 0) hx hb dX10_isGood_18 (by decide) ?_
    exact W.zret (v := nI 0) hx hb hr rfl (fun t ht hW => ⟨_, rfl, (show nI 0 = (if xhas v gz then nI 1 else nI 0) from (if_neg (by simp only [xhas, Int32.lt_iff_toInt_lt, Int32.le_iff_toInt_le, Int32.toInt_zero] at c_1 ⊢; omega)).symm), ht⟩) (fun q h => by cases h) dX10_isGood_19
  refine lv_iload_n hx hb dX10_isGood_4 rfl (lv_at hl 1 rfl) ?_
  refine lv_aload_n hx hb dX10_isGood_5 rfl (lv_at hl 0 rfl) ?_
  refine va_get (D := (dC, dI)) (ci := 10) (v := .ref zq) (C := RX10) (T := TX10) (N := 19) hx hb hts i_X10 hown hK hP 0 rfl rfl 0 (by decide) k_7 (fun _ h9 => h9) rfl dX10_isGood_6 ?_
  refine lv_iconst (v := nI 1) hx hb dX10_isGood_9 (by decide) ?_
  refine xr_iald hx hb hK hP 1 0 rfl rfl (i := 1) (by omega) (by decide) dX10_isGood_10 ?_
  refine xr_top (show z 1 = nI gz from hz1) ?_
  refine lv_icmp_ge (tgt := 18) hx hb dX10_isGood_11 (by decide) (fun c_2 => ?_) (fun c_2 => ?_)
  · skip
    refine lv_iconst (v := nI 0) hx hb dX10_isGood_18 (by decide) ?_
    exact W.zret (v := nI 0) hx hb hr rfl (fun t ht hW => ⟨_, rfl, (show nI 0 = (if xhas v gz then nI 1 else nI 0) from (if_neg (by simp only [xhas, Int32.lt_iff_toInt_lt, Int32.le_iff_toInt_le, Int32.toInt_zero] at c_1 c_2 ⊢; rw [nI_toInt (by omega)] at *; omega)).symm), ht⟩) (fun q h => by cases h) dX10_isGood_19
  refine lv_iconst (v := nI 1) hx hb dX10_isGood_14 (by decide) ?_
  refine lv_goto (tgt := 19) hx hb dX10_isGood_15 (by decide) ?_
  exact W.zret (v := nI 1) hx hb hr rfl (fun t ht hW => ⟨_, rfl, (show nI 1 = (if xhas v gz then nI 1 else nI 0) from (if_pos (by simp only [xhas, Int32.lt_iff_toInt_lt, Int32.le_iff_toInt_le, Int32.toInt_zero] at c_1 c_2 ⊢; rw [nI_toInt (by omega)] at *; omega)).symm), ht⟩) (fun q h => by cases h) dX10_isGood_19
theorem hdV_X10_isBatch : yX10_isBatch.cls = RX10 ∧ yX10_isBatch.cls ≠ "java/lang/invoke/MethodHandle" ∧ yX10_isBatch.cls ≠ "java/lang/invoke/VarHandle" ∧ (parseMethodDescriptor yX10_isBatch.desc).map (fun d => d.parameters.length) = some 1 := by decide +kernel
set_option maxHeartbeats 4000000 in
set_option maxRecDepth 100000 in
theorem c_X10_isBatch (l : Launch) (dC : Nat → ClassId) (dI : Nat → Nat → Nat) (cI cF cC cZ cQ cS : ClassId) (h0 : Nat) (zq : Nat) (h0_past : Value) (h0_kept : Value) (h0_spare : Value) (h0_pastMany : Value) (h0_isKept : Value) (h0_text : Value) (h0_typed : Value) (h0_isUsed : Value) (h0_planBatch : Value) (h0_planUnits : Value) (h0_planCents : Value) (h0_planMany : Value) (h0_planGot : Value) (h0_planSubstitutes : Value) (h0_at : Value) (h0_fault : Value) (h0_entries : Value) (h0_entry : Value) (z : Nat → Int32) (v : Int32) (bz : Nat) (hz2 : z 2 = nI bz) (hbz : bz ≤ 40) : Met l yX10_isBatch wsX10_isBatch ({ frames := 0, cells := 0, slots := 0, locals := 0 }) (xPre (dC, dI) vwCl [.ref h0, .int v] (xtys cI cF cC cZ cQ cS) [(h0, .inr (10, [.ref zq, h0_past, h0_kept, h0_spare, h0_pastMany, h0_isKept, h0_text, h0_typed, h0_isUsed, h0_planBatch, h0_planUnits, h0_planCents, h0_planMany, h0_planGot, h0_planSubstitutes, h0_at, h0_fault, h0_entries, h0_entry])), (zq, .inl (cI, 1002, .inl z))]) (vp_Si (fun r0 => r0 = (if xhas v bz then nI 1 else nI 0))) 0 0 (fun _ => False) := by
  refine Met.ofW (cc := cX10_isBatch) (maxL := 2) (ret := (some .boolean)) (by decide) rfl ?_
  intro p e s m args below meth c s₁ B hml hv
  obtain ⟨rfl, hP, hK, hD0, hN⟩ := hv
  have hx := B.exec
  have hb := B.bytes
  have hr := B.returns
  have hts := atoms_spec (ws := wsX10_isBatch) B.pre
  have hown : s.vm.findClass RX10 = some m.cls := findClass_of_methodNamed B.named
  have hlocks := B.notSynchronized
  have k_7 := hts (Cond.fieldLink RX10 7 "ShelfStagesModel" "z" "[I") (by decide +kernel)
  have i_X10 : ∀ w ∈ wsX100, w ∈ wsX10_isBatch := by decide +kernel
  have hD := hD0
  have hl := lv_entry ([.ref h0, .int v]) (n := 2) (Nat.le_of_ble_eq_true rfl)
  rw [lg_entry_eq]
  generalize (lg_sl ([.ref h0, .int v]) ++ List.replicate (2 - (lg_sl ([.ref h0, .int v])).length) Slot.unset).toArray = ls at hl ⊢
  have hl : lv_has ls 2 [(0, .ref h0), (1, .int v)] := hl
  refine lv_iload_n hx hb dX10_isBatch_0 rfl (lv_at hl 1 rfl) ?_
  refine lv_if_lt (tgt := 18) hx hb dX10_isBatch_1 (by decide) (fun c_1 => ?_) (fun c_1 => ?_)
  · skip
    refine lv_iconst (v := nI 0) hx hb dX10_isBatch_18 (by decide) ?_
    exact W.zret (v := nI 0) hx hb hr rfl (fun t ht hW => ⟨_, rfl, (show nI 0 = (if xhas v bz then nI 1 else nI 0) from (if_neg (by simp only [xhas, Int32.lt_iff_toInt_lt, Int32.le_iff_toInt_le, Int32.toInt_zero] at c_1 ⊢; omega)).symm), ht⟩) (fun q h => by cases h) dX10_isBatch_19
  refine lv_iload_n hx hb dX10_isBatch_4 rfl (lv_at hl 1 rfl) ?_
  refine lv_aload_n hx hb dX10_isBatch_5 rfl (lv_at hl 0 rfl) ?_
  refine va_get (D := (dC, dI)) (ci := 10) (v := .ref zq) (C := RX10) (T := TX10) (N := 19) hx hb hts i_X10 hown hK hP 0 rfl rfl 0 (by decide) k_7 (fun _ h9 => h9) rfl dX10_isBatch_6 ?_
  refine lv_iconst (v := nI 2) hx hb dX10_isBatch_9 (by decide) ?_
  refine xr_iald hx hb hK hP 1 0 rfl rfl (i := 2) (by omega) (by decide) dX10_isBatch_10 ?_
  refine xr_top (show z 2 = nI bz from hz2) ?_
  refine lv_icmp_ge (tgt := 18) hx hb dX10_isBatch_11 (by decide) (fun c_2 => ?_) (fun c_2 => ?_)
  · skip
    refine lv_iconst (v := nI 0) hx hb dX10_isBatch_18 (by decide) ?_
    exact W.zret (v := nI 0) hx hb hr rfl (fun t ht hW => ⟨_, rfl, (show nI 0 = (if xhas v bz then nI 1 else nI 0) from (if_neg (by simp only [xhas, Int32.lt_iff_toInt_lt, Int32.le_iff_toInt_le, Int32.toInt_zero] at c_1 c_2 ⊢; rw [nI_toInt (by omega)] at *; omega)).symm), ht⟩) (fun q h => by cases h) dX10_isBatch_19
  refine lv_iconst (v := nI 1) hx hb dX10_isBatch_14 (by decide) ?_
  refine lv_goto (tgt := 19) hx hb dX10_isBatch_15 (by decide) ?_
  exact W.zret (v := nI 1) hx hb hr rfl (fun t ht hW => ⟨_, rfl, (show nI 1 = (if xhas v bz then nI 1 else nI 0) from (if_pos (by simp only [xhas, Int32.lt_iff_toInt_lt, Int32.le_iff_toInt_le, Int32.toInt_zero] at c_1 c_2 ⊢; rw [nI_toInt (by omega)] at *; omega)).symm), ht⟩) (fun q h => by cases h) dX10_isBatch_19
theorem hdV_X10_isOrder : yX10_isOrder.cls = RX10 ∧ yX10_isOrder.cls ≠ "java/lang/invoke/MethodHandle" ∧ yX10_isOrder.cls ≠ "java/lang/invoke/VarHandle" ∧ (parseMethodDescriptor yX10_isOrder.desc).map (fun d => d.parameters.length) = some 1 := by decide +kernel
set_option maxHeartbeats 4000000 in
set_option maxRecDepth 100000 in
theorem c_X10_isOrder (l : Launch) (dC : Nat → ClassId) (dI : Nat → Nat → Nat) (cI cF cC cZ cQ cS : ClassId) (h0 : Nat) (zq : Nat) (h0_past : Value) (h0_kept : Value) (h0_spare : Value) (h0_pastMany : Value) (h0_isKept : Value) (h0_text : Value) (h0_typed : Value) (h0_isUsed : Value) (h0_planBatch : Value) (h0_planUnits : Value) (h0_planCents : Value) (h0_planMany : Value) (h0_planGot : Value) (h0_planSubstitutes : Value) (h0_at : Value) (h0_fault : Value) (h0_entries : Value) (h0_entry : Value) (z : Nat → Int32) (v : Int32) (oz : Nat) (hz3 : z 3 = nI oz) (hoz : oz ≤ 30) : Met l yX10_isOrder wsX10_isOrder ({ frames := 0, cells := 0, slots := 0, locals := 0 }) (xPre (dC, dI) vwCl [.ref h0, .int v] (xtys cI cF cC cZ cQ cS) [(h0, .inr (10, [.ref zq, h0_past, h0_kept, h0_spare, h0_pastMany, h0_isKept, h0_text, h0_typed, h0_isUsed, h0_planBatch, h0_planUnits, h0_planCents, h0_planMany, h0_planGot, h0_planSubstitutes, h0_at, h0_fault, h0_entries, h0_entry])), (zq, .inl (cI, 1002, .inl z))]) (vp_Si (fun r0 => r0 = (if xhas v oz then nI 1 else nI 0))) 0 0 (fun _ => False) := by
  refine Met.ofW (cc := cX10_isOrder) (maxL := 2) (ret := (some .boolean)) (by decide) rfl ?_
  intro p e s m args below meth c s₁ B hml hv
  obtain ⟨rfl, hP, hK, hD0, hN⟩ := hv
  have hx := B.exec
  have hb := B.bytes
  have hr := B.returns
  have hts := atoms_spec (ws := wsX10_isOrder) B.pre
  have hown : s.vm.findClass RX10 = some m.cls := findClass_of_methodNamed B.named
  have hlocks := B.notSynchronized
  have k_7 := hts (Cond.fieldLink RX10 7 "ShelfStagesModel" "z" "[I") (by decide +kernel)
  have i_X10 : ∀ w ∈ wsX100, w ∈ wsX10_isOrder := by decide +kernel
  have hD := hD0
  have hl := lv_entry ([.ref h0, .int v]) (n := 2) (Nat.le_of_ble_eq_true rfl)
  rw [lg_entry_eq]
  generalize (lg_sl ([.ref h0, .int v]) ++ List.replicate (2 - (lg_sl ([.ref h0, .int v])).length) Slot.unset).toArray = ls at hl ⊢
  have hl : lv_has ls 2 [(0, .ref h0), (1, .int v)] := hl
  refine lv_iload_n hx hb dX10_isOrder_0 rfl (lv_at hl 1 rfl) ?_
  refine lv_if_lt (tgt := 18) hx hb dX10_isOrder_1 (by decide) (fun c_1 => ?_) (fun c_1 => ?_)
  · skip
    refine lv_iconst (v := nI 0) hx hb dX10_isOrder_18 (by decide) ?_
    exact W.zret (v := nI 0) hx hb hr rfl (fun t ht hW => ⟨_, rfl, (show nI 0 = (if xhas v oz then nI 1 else nI 0) from (if_neg (by simp only [xhas, Int32.lt_iff_toInt_lt, Int32.le_iff_toInt_le, Int32.toInt_zero] at c_1 ⊢; omega)).symm), ht⟩) (fun q h => by cases h) dX10_isOrder_19
  refine lv_iload_n hx hb dX10_isOrder_4 rfl (lv_at hl 1 rfl) ?_
  refine lv_aload_n hx hb dX10_isOrder_5 rfl (lv_at hl 0 rfl) ?_
  refine va_get (D := (dC, dI)) (ci := 10) (v := .ref zq) (C := RX10) (T := TX10) (N := 19) hx hb hts i_X10 hown hK hP 0 rfl rfl 0 (by decide) k_7 (fun _ h9 => h9) rfl dX10_isOrder_6 ?_
  refine lv_iconst (v := nI 3) hx hb dX10_isOrder_9 (by decide) ?_
  refine xr_iald hx hb hK hP 1 0 rfl rfl (i := 3) (by omega) (by decide) dX10_isOrder_10 ?_
  refine xr_top (show z 3 = nI oz from hz3) ?_
  refine lv_icmp_ge (tgt := 18) hx hb dX10_isOrder_11 (by decide) (fun c_2 => ?_) (fun c_2 => ?_)
  · skip
    refine lv_iconst (v := nI 0) hx hb dX10_isOrder_18 (by decide) ?_
    exact W.zret (v := nI 0) hx hb hr rfl (fun t ht hW => ⟨_, rfl, (show nI 0 = (if xhas v oz then nI 1 else nI 0) from (if_neg (by simp only [xhas, Int32.lt_iff_toInt_lt, Int32.le_iff_toInt_le, Int32.toInt_zero] at c_1 c_2 ⊢; rw [nI_toInt (by omega)] at *; omega)).symm), ht⟩) (fun q h => by cases h) dX10_isOrder_19
  refine lv_iconst (v := nI 1) hx hb dX10_isOrder_14 (by decide) ?_
  refine lv_goto (tgt := 19) hx hb dX10_isOrder_15 (by decide) ?_
  exact W.zret (v := nI 1) hx hb hr rfl (fun t ht hW => ⟨_, rfl, (show nI 1 = (if xhas v oz then nI 1 else nI 0) from (if_pos (by simp only [xhas, Int32.lt_iff_toInt_lt, Int32.le_iff_toInt_le, Int32.toInt_zero] at c_1 c_2 ⊢; rw [nI_toInt (by omega)] at *; omega)).symm), ht⟩) (fun q h => by cases h) dX10_isOrder_19
theorem hdV_X10_ofGood : yX10_ofGood.cls = RX10 ∧ yX10_ofGood.cls ≠ "java/lang/invoke/MethodHandle" ∧ yX10_ofGood.cls ≠ "java/lang/invoke/VarHandle" ∧ (parseMethodDescriptor yX10_ofGood.desc).map (fun d => d.parameters.length) = some 2 := by decide +kernel
set_option maxHeartbeats 4000000 in
set_option maxRecDepth 100000 in
theorem c_X10_ofGood (l : Launch) (dC : Nat → ClassId) (dI : Nat → Nat → Nat) (cI cF cC cZ cQ cS : ClassId) (h0 : Nat) (zq : Nat) (h0_past : Value) (h0_kept : Value) (h0_spare : Value) (h0_pastMany : Value) (h0_isKept : Value) (h0_text : Value) (h0_typed : Value) (h0_isUsed : Value) (h0_planBatch : Value) (h0_planUnits : Value) (h0_planCents : Value) (h0_planMany : Value) (h0_planGot : Value) (h0_planSubstitutes : Value) (h0_at : Value) (h0_fault : Value) (h0_entries : Value) (h0_entry : Value) (z : Nat → Int32) (ix : Nat) (wh : Nat) (hix : ix < 12) (hwh : wh < 7) : Met l yX10_ofGood wsX10_ofGood ({ frames := 0, cells := 0, slots := 0, locals := 0 }) (xPre (dC, dI) vwCl [.ref h0, .int (nI ix), .int (nI wh)] (xtys cI cF cC cZ cQ cS) [(h0, .inr (10, [.ref zq, h0_past, h0_kept, h0_spare, h0_pastMany, h0_isKept, h0_text, h0_typed, h0_isUsed, h0_planBatch, h0_planUnits, h0_planCents, h0_planMany, h0_planGot, h0_planSubstitutes, h0_at, h0_fault, h0_entries, h0_entry])), (zq, .inl (cI, 1002, .inl z))]) (vp_Si (fun r0 => r0 = zG z ix wh)) 0 0 (fun _ => False) := by
  refine Met.ofW (cc := cX10_ofGood) (maxL := 3) (ret := (some .int)) (by decide) rfl ?_
  intro p e s m args below meth c s₁ B hml hv
  obtain ⟨rfl, hP, hK, hD0, hN⟩ := hv
  have hx := B.exec
  have hb := B.bytes
  have hr := B.returns
  have hts := atoms_spec (ws := wsX10_ofGood) B.pre
  have hown : s.vm.findClass RX10 = some m.cls := findClass_of_methodNamed B.named
  have hlocks := B.notSynchronized
  have k_7 := hts (Cond.fieldLink RX10 7 "ShelfStagesModel" "z" "[I") (by decide +kernel)
  have i_X10 : ∀ w ∈ wsX100, w ∈ wsX10_ofGood := by decide +kernel
  have hD := hD0
  have hl := lv_entry ([.ref h0, .int (nI ix), .int (nI wh)]) (n := 3) (Nat.le_of_ble_eq_true rfl)
  rw [lg_entry_eq]
  generalize (lg_sl ([.ref h0, .int (nI ix), .int (nI wh)]) ++ List.replicate (3 - (lg_sl ([.ref h0, .int (nI ix), .int (nI wh)])).length) Slot.unset).toArray = ls at hl ⊢
  have hl : lv_has ls 3 [(0, .ref h0), (1, .int (nI ix)), (2, .int (nI wh))] := hl
  refine lv_aload_n hx hb dX10_ofGood_0 rfl (lv_at hl 0 rfl) ?_
  refine va_get (D := (dC, dI)) (ci := 10) (v := .ref zq) (C := RX10) (T := TX10) (N := 19) hx hb hts i_X10 hown hK hP 0 rfl rfl 0 (by decide) k_7 (fun _ h9 => h9) rfl dX10_ofGood_1 ?_
  refine lv_bipush (v := nI 10) hx hb dX10_ofGood_4 (by decide) ?_
  refine lv_bipush (v := nI 7) hx hb dX10_ofGood_6 (by decide) ?_
  refine lv_iload_n hx hb dX10_ofGood_8 rfl (lv_at hl 1 rfl) ?_
  refine xr_imul_n hx hb dX10_ofGood_9 ?_
  refine xr_iadd_n hx hb dX10_ofGood_10 ?_
  refine lv_iload_n hx hb dX10_ofGood_11 rfl (lv_at hl 2 rfl) ?_
  refine xr_iadd_n hx hb dX10_ofGood_12 ?_
  refine xr_iald hx hb hK hP 1 0 rfl rfl (i := (10 + (7 * ix)) + wh) (by omega) (by decide) dX10_ofGood_13 ?_
  exact W.iret (v := z ((10 + (7 * ix)) + wh)) hx hb hr (fun t ht hW => ⟨_, rfl, (show z ((10 + (7 * ix)) + wh) = zG z ix wh from rfl), ht⟩) (fun q h => by cases h) dX10_ofGood_14
theorem hdV_X10_ofBatch : yX10_ofBatch.cls = RX10 ∧ yX10_ofBatch.cls ≠ "java/lang/invoke/MethodHandle" ∧ yX10_ofBatch.cls ≠ "java/lang/invoke/VarHandle" ∧ (parseMethodDescriptor yX10_ofBatch.desc).map (fun d => d.parameters.length) = some 2 := by decide +kernel
set_option maxHeartbeats 4000000 in
set_option maxRecDepth 100000 in
theorem c_X10_ofBatch (l : Launch) (dC : Nat → ClassId) (dI : Nat → Nat → Nat) (cI cF cC cZ cQ cS : ClassId) (h0 : Nat) (zq : Nat) (h0_past : Value) (h0_kept : Value) (h0_spare : Value) (h0_pastMany : Value) (h0_isKept : Value) (h0_text : Value) (h0_typed : Value) (h0_isUsed : Value) (h0_planBatch : Value) (h0_planUnits : Value) (h0_planCents : Value) (h0_planMany : Value) (h0_planGot : Value) (h0_planSubstitutes : Value) (h0_at : Value) (h0_fault : Value) (h0_entries : Value) (h0_entry : Value) (z : Nat → Int32) (ix : Nat) (wh : Nat) (hix : ix < 40) (hwh : wh < 10) : Met l yX10_ofBatch wsX10_ofBatch ({ frames := 0, cells := 0, slots := 0, locals := 0 }) (xPre (dC, dI) vwCl [.ref h0, .int (nI ix), .int (nI wh)] (xtys cI cF cC cZ cQ cS) [(h0, .inr (10, [.ref zq, h0_past, h0_kept, h0_spare, h0_pastMany, h0_isKept, h0_text, h0_typed, h0_isUsed, h0_planBatch, h0_planUnits, h0_planCents, h0_planMany, h0_planGot, h0_planSubstitutes, h0_at, h0_fault, h0_entries, h0_entry])), (zq, .inl (cI, 1002, .inl z))]) (vp_Si (fun r0 => r0 = zB z ix wh)) 0 0 (fun _ => False) := by
  refine Met.ofW (cc := cX10_ofBatch) (maxL := 3) (ret := (some .int)) (by decide) rfl ?_
  intro p e s m args below meth c s₁ B hml hv
  obtain ⟨rfl, hP, hK, hD0, hN⟩ := hv
  have hx := B.exec
  have hb := B.bytes
  have hr := B.returns
  have hts := atoms_spec (ws := wsX10_ofBatch) B.pre
  have hown : s.vm.findClass RX10 = some m.cls := findClass_of_methodNamed B.named
  have hlocks := B.notSynchronized
  have k_7 := hts (Cond.fieldLink RX10 7 "ShelfStagesModel" "z" "[I") (by decide +kernel)
  have i_X10 : ∀ w ∈ wsX100, w ∈ wsX10_ofBatch := by decide +kernel
  have hD := hD0
  have hl := lv_entry ([.ref h0, .int (nI ix), .int (nI wh)]) (n := 3) (Nat.le_of_ble_eq_true rfl)
  rw [lg_entry_eq]
  generalize (lg_sl ([.ref h0, .int (nI ix), .int (nI wh)]) ++ List.replicate (3 - (lg_sl ([.ref h0, .int (nI ix), .int (nI wh)])).length) Slot.unset).toArray = ls at hl ⊢
  have hl : lv_has ls 3 [(0, .ref h0), (1, .int (nI ix)), (2, .int (nI wh))] := hl
  refine lv_aload_n hx hb dX10_ofBatch_0 rfl (lv_at hl 0 rfl) ?_
  refine va_get (D := (dC, dI)) (ci := 10) (v := .ref zq) (C := RX10) (T := TX10) (N := 19) hx hb hts i_X10 hown hK hP 0 rfl rfl 0 (by decide) k_7 (fun _ h9 => h9) rfl dX10_ofBatch_1 ?_
  refine lv_bipush (v := nI 94) hx hb dX10_ofBatch_4 (by decide) ?_
  refine lv_bipush (v := nI 10) hx hb dX10_ofBatch_6 (by decide) ?_
  refine lv_iload_n hx hb dX10_ofBatch_8 rfl (lv_at hl 1 rfl) ?_
  refine xr_imul_n hx hb dX10_ofBatch_9 ?_
  refine xr_iadd_n hx hb dX10_ofBatch_10 ?_
  refine lv_iload_n hx hb dX10_ofBatch_11 rfl (lv_at hl 2 rfl) ?_
  refine xr_iadd_n hx hb dX10_ofBatch_12 ?_
  refine xr_iald hx hb hK hP 1 0 rfl rfl (i := (94 + (10 * ix)) + wh) (by omega) (by decide) dX10_ofBatch_13 ?_
  exact W.iret (v := z ((94 + (10 * ix)) + wh)) hx hb hr (fun t ht hW => ⟨_, rfl, (show z ((94 + (10 * ix)) + wh) = zB z ix wh from rfl), ht⟩) (fun q h => by cases h) dX10_ofBatch_14
theorem hdV_X10_ofOrder : yX10_ofOrder.cls = RX10 ∧ yX10_ofOrder.cls ≠ "java/lang/invoke/MethodHandle" ∧ yX10_ofOrder.cls ≠ "java/lang/invoke/VarHandle" ∧ (parseMethodDescriptor yX10_ofOrder.desc).map (fun d => d.parameters.length) = some 2 := by decide +kernel
set_option maxHeartbeats 4000000 in
set_option maxRecDepth 100000 in
theorem c_X10_ofOrder (l : Launch) (dC : Nat → ClassId) (dI : Nat → Nat → Nat) (cI cF cC cZ cQ cS : ClassId) (h0 : Nat) (zq : Nat) (h0_past : Value) (h0_kept : Value) (h0_spare : Value) (h0_pastMany : Value) (h0_isKept : Value) (h0_text : Value) (h0_typed : Value) (h0_isUsed : Value) (h0_planBatch : Value) (h0_planUnits : Value) (h0_planCents : Value) (h0_planMany : Value) (h0_planGot : Value) (h0_planSubstitutes : Value) (h0_at : Value) (h0_fault : Value) (h0_entries : Value) (h0_entry : Value) (z : Nat → Int32) (ix : Nat) (wh : Nat) (hix : ix < 30) (hwh : wh < 10) : Met l yX10_ofOrder wsX10_ofOrder ({ frames := 0, cells := 0, slots := 0, locals := 0 }) (xPre (dC, dI) vwCl [.ref h0, .int (nI ix), .int (nI wh)] (xtys cI cF cC cZ cQ cS) [(h0, .inr (10, [.ref zq, h0_past, h0_kept, h0_spare, h0_pastMany, h0_isKept, h0_text, h0_typed, h0_isUsed, h0_planBatch, h0_planUnits, h0_planCents, h0_planMany, h0_planGot, h0_planSubstitutes, h0_at, h0_fault, h0_entries, h0_entry])), (zq, .inl (cI, 1002, .inl z))]) (vp_Si (fun r0 => r0 = zO z ix wh)) 0 0 (fun _ => False) := by
  refine Met.ofW (cc := cX10_ofOrder) (maxL := 3) (ret := (some .int)) (by decide) rfl ?_
  intro p e s m args below meth c s₁ B hml hv
  obtain ⟨rfl, hP, hK, hD0, hN⟩ := hv
  have hx := B.exec
  have hb := B.bytes
  have hr := B.returns
  have hts := atoms_spec (ws := wsX10_ofOrder) B.pre
  have hown : s.vm.findClass RX10 = some m.cls := findClass_of_methodNamed B.named
  have hlocks := B.notSynchronized
  have k_7 := hts (Cond.fieldLink RX10 7 "ShelfStagesModel" "z" "[I") (by decide +kernel)
  have i_X10 : ∀ w ∈ wsX100, w ∈ wsX10_ofOrder := by decide +kernel
  have hD := hD0
  have hl := lv_entry ([.ref h0, .int (nI ix), .int (nI wh)]) (n := 3) (Nat.le_of_ble_eq_true rfl)
  rw [lg_entry_eq]
  generalize (lg_sl ([.ref h0, .int (nI ix), .int (nI wh)]) ++ List.replicate (3 - (lg_sl ([.ref h0, .int (nI ix), .int (nI wh)])).length) Slot.unset).toArray = ls at hl ⊢
  have hl : lv_has ls 3 [(0, .ref h0), (1, .int (nI ix)), (2, .int (nI wh))] := hl
  refine lv_aload_n hx hb dX10_ofOrder_0 rfl (lv_at hl 0 rfl) ?_
  refine va_get (D := (dC, dI)) (ci := 10) (v := .ref zq) (C := RX10) (T := TX10) (N := 19) hx hb hts i_X10 hown hK hP 0 rfl rfl 0 (by decide) k_7 (fun _ h9 => h9) rfl dX10_ofOrder_1 ?_
  refine lv_sipush (v := nI 494) hx hb dX10_ofOrder_4 (by decide) ?_
  refine lv_bipush (v := nI 10) hx hb dX10_ofOrder_7 (by decide) ?_
  refine lv_iload_n hx hb dX10_ofOrder_9 rfl (lv_at hl 1 rfl) ?_
  refine xr_imul_n hx hb dX10_ofOrder_10 ?_
  refine xr_iadd_n hx hb dX10_ofOrder_11 ?_
  refine lv_iload_n hx hb dX10_ofOrder_12 rfl (lv_at hl 2 rfl) ?_
  refine xr_iadd_n hx hb dX10_ofOrder_13 ?_
  refine xr_iald hx hb hK hP 1 0 rfl rfl (i := (494 + (10 * ix)) + wh) (by omega) (by decide) dX10_ofOrder_14 ?_
  exact W.iret (v := z ((494 + (10 * ix)) + wh)) hx hb hr (fun t ht hW => ⟨_, rfl, (show z ((494 + (10 * ix)) + wh) = zO z ix wh from rfl), ht⟩) (fun q h => by cases h) dX10_ofOrder_15
theorem hdV_X10_addTo : yX10_addTo.cls = RX10 ∧ yX10_addTo.cls ≠ "java/lang/invoke/MethodHandle" ∧ yX10_addTo.cls ≠ "java/lang/invoke/VarHandle" ∧ (parseMethodDescriptor yX10_addTo.desc).map (fun d => d.parameters.length) = some 3 := by decide +kernel
set_option maxHeartbeats 4000000 in
set_option maxRecDepth 100000 in
theorem c_X10_addTo (l : Launch) (dC : Nat → ClassId) (dI : Nat → Nat → Nat) (cI cF cC cZ cQ cS : ClassId) (h0 : Nat) (zq : Nat) (h0_past : Value) (h0_kept : Value) (h0_spare : Value) (h0_pastMany : Value) (h0_isKept : Value) (h0_text : Value) (h0_typed : Value) (h0_isUsed : Value) (h0_planBatch : Value) (h0_planUnits : Value) (h0_planCents : Value) (h0_planMany : Value) (h0_planGot : Value) (h0_planSubstitutes : Value) (h0_at : Value) (h0_fault : Value) (h0_entries : Value) (h0_entry : Value) (z : Nat → Int32) (ix : Nat) (wh : Nat) (un : Int32) (hix : ix < 40) (hwh : wh < 10) : Met l yX10_addTo wsX10_addTo ({ frames := 0, cells := 0, slots := 0, locals := 0 }) (xPre (dC, dI) vwCl [.ref h0, .int (nI ix), .int (nI wh), .int un] (xtys cI cF cC cZ cQ cS) [(h0, .inr (10, [.ref zq, h0_past, h0_kept, h0_spare, h0_pastMany, h0_isKept, h0_text, h0_typed, h0_isUsed, h0_planBatch, h0_planUnits, h0_planCents, h0_planMany, h0_planGot, h0_planSubstitutes, h0_at, h0_fault, h0_entries, h0_entry])), (zq, .inl (cI, 1002, .inl z))]) (xWv (dC, dI) vwCl [(h0, .inr (10, [.ref zq, h0_past, h0_kept, h0_spare, h0_pastMany, h0_isKept, h0_text, h0_typed, h0_isUsed, h0_planBatch, h0_planUnits, h0_planCents, h0_planMany, h0_planGot, h0_planSubstitutes, h0_at, h0_fault, h0_entries, h0_entry])), (zq, .inl (cI, 1002, .inl z))] (fun w0 => w0 = [(h0, .inr (10, [.ref zq, h0_past, h0_kept, h0_spare, h0_pastMany, h0_isKept, h0_text, h0_typed, h0_isUsed, h0_planBatch, h0_planUnits, h0_planCents, h0_planMany, h0_planGot, h0_planSubstitutes, h0_at, h0_fault, h0_entries, h0_entry])), (zq, .inl (cI, 1002, .inl (zadd z ix wh un)))])) 0 0 (va_B [(h0, .inr (10, [.ref zq, h0_past, h0_kept, h0_spare, h0_pastMany, h0_isKept, h0_text, h0_typed, h0_isUsed, h0_planBatch, h0_planUnits, h0_planCents, h0_planMany, h0_planGot, h0_planSubstitutes, h0_at, h0_fault, h0_entries, h0_entry])), (zq, .inl (cI, 1002, .inl z))]) := by
  refine Met.ofW (cc := cX10_addTo) (maxL := 4) (ret := none) (by decide) rfl ?_
  intro p e s m args below meth c s₁ B hml hv
  obtain ⟨rfl, hP, hK, hD0, hN⟩ := hv
  have hx := B.exec
  have hb := B.bytes
  have hr := B.returns
  have hts := atoms_spec (ws := wsX10_addTo) B.pre
  have hown : s.vm.findClass RX10 = some m.cls := findClass_of_methodNamed B.named
  have hlocks := B.notSynchronized
  have k_7 := hts (Cond.fieldLink RX10 7 "ShelfStagesModel" "z" "[I") (by decide +kernel)
  have i_X10 : ∀ w ∈ wsX100, w ∈ wsX10_addTo := by decide +kernel
  obtain ⟨A, hA⟩ : ∃ A, A = va_B [(h0, .inr (10, [.ref zq, h0_past, h0_kept, h0_spare, h0_pastMany, h0_isKept, h0_text, h0_typed, h0_isUsed, h0_planBatch, h0_planUnits, h0_planCents, h0_planMany, h0_planGot, h0_planSubstitutes, h0_at, h0_fault, h0_entries, h0_entry])), (zq, .inl (cI, 1002, .inl z))] := ⟨_, rfl⟩
  have hD : va_D A [(h0, .inr (10, [.ref zq, h0_past, h0_kept, h0_spare, h0_pastMany, h0_isKept, h0_text, h0_typed, h0_isUsed, h0_planBatch, h0_planUnits, h0_planCents, h0_planMany, h0_planGot, h0_planSubstitutes, h0_at, h0_fault, h0_entries, h0_entry])), (zq, .inl (cI, 1002, .inl z))] := hA ▸ hD0.own
  have hS : va_S A s.heap s.heap [] := va_S.rf
  have hl := lv_entry ([.ref h0, .int (nI ix), .int (nI wh), .int un]) (n := 4) (Nat.le_of_ble_eq_true rfl)
  rw [lg_entry_eq]
  generalize (lg_sl ([.ref h0, .int (nI ix), .int (nI wh), .int un]) ++ List.replicate (4 - (lg_sl ([.ref h0, .int (nI ix), .int (nI wh), .int un])).length) Slot.unset).toArray = ls at hl ⊢
  have hl : lv_has ls 4 [(0, .ref h0), (1, .int (nI ix)), (2, .int (nI wh)), (3, .int un)] := hl
  refine lv_aload_n hx hb dX10_addTo_0 rfl (lv_at hl 0 rfl) ?_
  refine va_get (D := (dC, dI)) (ci := 10) (v := .ref zq) (C := RX10) (T := TX10) (N := 19) hx hb hts i_X10 hown hK hP 0 rfl rfl 0 (by decide) k_7 (fun _ h9 => h9) rfl dX10_addTo_1 ?_
  refine lv_bipush (v := nI 94) hx hb dX10_addTo_4 (by decide) ?_
  refine lv_bipush (v := nI 10) hx hb dX10_addTo_6 (by decide) ?_
  refine lv_iload_n hx hb dX10_addTo_8 rfl (lv_at hl 1 rfl) ?_
  refine xr_imul_n hx hb dX10_addTo_9 ?_
  refine xr_iadd_n hx hb dX10_addTo_10 ?_
  refine lv_iload_n hx hb dX10_addTo_11 rfl (lv_at hl 2 rfl) ?_
  refine xr_iadd_n hx hb dX10_addTo_12 ?_
  refine lv_dup2_11 hx hb dX10_addTo_13 rfl rfl ?_
  refine xr_iald hx hb hK hP 1 0 rfl rfl (i := (94 + (10 * ix)) + wh) (by omega) (by decide) dX10_addTo_14 ?_
  refine lv_iload_n hx hb dX10_addTo_15 rfl (lv_at hl 3 rfl) ?_
  refine lv_iadd hx hb dX10_addTo_16 ?_
  refine xr_iast hx hb hK hP hD hS 1 0 rfl rfl (i := (94 + (10 * ix)) + wh) (by omega) (by decide) dX10_addTo_17 (fun H locs hP hD hS => ?_)
  have hP : va_P (dC, dI) vwCl [(h0, .inr (10, [.ref zq, h0_past, h0_kept, h0_spare, h0_pastMany, h0_isKept, h0_text, h0_typed, h0_isUsed, h0_planBatch, h0_planUnits, h0_planCents, h0_planMany, h0_planGot, h0_planSubstitutes, h0_at, h0_fault, h0_entries, h0_entry])), (zq, .inl (cI, 1002, .inl (upd z ((94 + (10 * ix)) + wh) ((z ((94 + (10 * ix)) + wh)) + un))))] H := hP
  have hD : va_D A [(h0, .inr (10, [.ref zq, h0_past, h0_kept, h0_spare, h0_pastMany, h0_isKept, h0_text, h0_typed, h0_isUsed, h0_planBatch, h0_planUnits, h0_planCents, h0_planMany, h0_planGot, h0_planSubstitutes, h0_at, h0_fault, h0_entries, h0_entry])), (zq, .inl (cI, 1002, .inl (upd z ((94 + (10 * ix)) + wh) ((z ((94 + (10 * ix)) + wh)) + un))))] := hD
  have hP9 : va_P (dC, dI) vwCl [(h0, .inr (10, [.ref zq, h0_past, h0_kept, h0_spare, h0_pastMany, h0_isKept, h0_text, h0_typed, h0_isUsed, h0_planBatch, h0_planUnits, h0_planCents, h0_planMany, h0_planGot, h0_planSubstitutes, h0_at, h0_fault, h0_entries, h0_entry])), (zq, .inl (cI, 1002, .inl (zadd z ix wh un)))] H := hP
  have hS9 : va_S (va_B [(h0, .inr (10, [.ref zq, h0_past, h0_kept, h0_spare, h0_pastMany, h0_isKept, h0_text, h0_typed, h0_isUsed, h0_planBatch, h0_planUnits, h0_planCents, h0_planMany, h0_planGot, h0_planSubstitutes, h0_at, h0_fault, h0_entries, h0_entry])), (zq, .inl (cI, 1002, .inl z))]) s.heap H locs := by rw [← hA]; exact hS
  exact W.vret hx hb hr (fun t ht hW => ⟨⟨_, rfl, rfl, by rw [ht]; exact hP9⟩, hS9.X ht⟩) hS9.2.2 dX10_addTo_18
theorem hdV_X10_note : yX10_note.cls = RX10 ∧ yX10_note.cls ≠ "java/lang/invoke/MethodHandle" ∧ yX10_note.cls ≠ "java/lang/invoke/VarHandle" ∧ (parseMethodDescriptor yX10_note.desc).map (fun d => d.parameters.length) = some 3 := by decide +kernel
set_option maxHeartbeats 4000000 in
set_option maxRecDepth 100000 in
theorem c_X10_note (l : Launch) (dC : Nat → ClassId) (dI : Nat → Nat → Nat) (cI cF cC cZ cQ cS : ClassId) (h0 : Nat) (zq : Nat) (h0_past : Value) (h0_kept : Value) (h0_spare : Value) (h0_pastMany : Value) (h0_isKept : Value) (h0_text : Value) (h0_typed : Value) (h0_isUsed : Value) (h0_planBatch : Value) (h0_planUnits : Value) (h0_planCents : Value) (h0_planMany : Value) (h0_planGot : Value) (h0_planSubstitutes : Value) (h0_at : Value) (h0_fault : Value) (h0_entries : Value) (h0_entry : Value) (z : Nat → Int32) (vk : Int32) (vb : Int32) (vu : Int32) : Met l yX10_note wsX10_note ({ frames := 0, cells := 0, slots := 0, locals := 0 }) (xPre (dC, dI) vwCl [.ref h0, .int vk, .int vb, .int vu] (xtys cI cF cC cZ cQ cS) [(h0, .inr (10, [.ref zq, h0_past, h0_kept, h0_spare, h0_pastMany, h0_isKept, h0_text, h0_typed, h0_isUsed, h0_planBatch, h0_planUnits, h0_planCents, h0_planMany, h0_planGot, h0_planSubstitutes, h0_at, h0_fault, h0_entries, h0_entry])), (zq, .inl (cI, 1002, .inl z))]) (xWv (dC, dI) vwCl [(h0, .inr (10, [.ref zq, h0_past, h0_kept, h0_spare, h0_pastMany, h0_isKept, h0_text, h0_typed, h0_isUsed, h0_planBatch, h0_planUnits, h0_planCents, h0_planMany, h0_planGot, h0_planSubstitutes, h0_at, h0_fault, h0_entries, h0_entry])), (zq, .inl (cI, 1002, .inl z))] (fun w0 => w0 = [(h0, .inr (10, [.ref zq, h0_past, h0_kept, h0_spare, h0_pastMany, h0_isKept, h0_text, h0_typed, h0_isUsed, h0_planBatch, h0_planUnits, h0_planCents, h0_planMany, h0_planGot, h0_planSubstitutes, h0_at, h0_fault, h0_entries, h0_entry])), (zq, .inl (cI, 1002, .inl (znote z vk vb vu)))])) 0 0 (va_B [(h0, .inr (10, [.ref zq, h0_past, h0_kept, h0_spare, h0_pastMany, h0_isKept, h0_text, h0_typed, h0_isUsed, h0_planBatch, h0_planUnits, h0_planCents, h0_planMany, h0_planGot, h0_planSubstitutes, h0_at, h0_fault, h0_entries, h0_entry])), (zq, .inl (cI, 1002, .inl z))]) := by
  refine Met.ofW (cc := cX10_note) (maxL := 5) (ret := none) (by decide) rfl ?_
  intro p e s m args below meth c s₁ B hml hv
  obtain ⟨rfl, hP, hK, hD0, hN⟩ := hv
  have hx := B.exec
  have hb := B.bytes
  have hr := B.returns
  have hts := atoms_spec (ws := wsX10_note) B.pre
  have hown : s.vm.findClass RX10 = some m.cls := findClass_of_methodNamed B.named
  have hlocks := B.notSynchronized
  have k_7 := hts (Cond.fieldLink RX10 7 "ShelfStagesModel" "z" "[I") (by decide +kernel)
  have i_X10 : ∀ w ∈ wsX100, w ∈ wsX10_note := by decide +kernel
  obtain ⟨A, hA⟩ : ∃ A, A = va_B [(h0, .inr (10, [.ref zq, h0_past, h0_kept, h0_spare, h0_pastMany, h0_isKept, h0_text, h0_typed, h0_isUsed, h0_planBatch, h0_planUnits, h0_planCents, h0_planMany, h0_planGot, h0_planSubstitutes, h0_at, h0_fault, h0_entries, h0_entry])), (zq, .inl (cI, 1002, .inl z))] := ⟨_, rfl⟩
  have hD : va_D A [(h0, .inr (10, [.ref zq, h0_past, h0_kept, h0_spare, h0_pastMany, h0_isKept, h0_text, h0_typed, h0_isUsed, h0_planBatch, h0_planUnits, h0_planCents, h0_planMany, h0_planGot, h0_planSubstitutes, h0_at, h0_fault, h0_entries, h0_entry])), (zq, .inl (cI, 1002, .inl z))] := hA ▸ hD0.own
  have hS : va_S A s.heap s.heap [] := va_S.rf
  have hl := lv_entry ([.ref h0, .int vk, .int vb, .int vu]) (n := 5) (Nat.le_of_ble_eq_true rfl)
  rw [lg_entry_eq]
  generalize (lg_sl ([.ref h0, .int vk, .int vb, .int vu]) ++ List.replicate (5 - (lg_sl ([.ref h0, .int vk, .int vb, .int vu])).length) Slot.unset).toArray = ls at hl ⊢
  have hl : lv_has ls 5 [(0, .ref h0), (1, .int vk), (2, .int vb), (3, .int vu)] := hl
  refine lv_bipush (v := nI 39) hx hb dX10_note_0 (by decide) ?_
  refine lv_istore (lv' := [(4, .int (nI 39)), (0, .ref h0), (1, .int vk), (2, .int vb), (3, .int vu)]) hx hb dX10_note_2 hl (by decide) rfl (fun ls hl => ?_)
  refine xr_loop (J := Nat) (fun n0 H locs g => ∃ (k : Nat) (lf : Nat → Int32) (ls : Array Slot), n0 = k + 1 ∧ g = F0 m 4 ls [] ∧ lv_has ls 5 [(4, .int (nI k)), (0, .ref h0), (1, .int vk), (2, .int vb), (3, .int vu)] ∧ va_P (dC, dI) vwCl [(h0, .inr (10, [.ref zq, h0_past, h0_kept, h0_spare, h0_pastMany, h0_isKept, h0_text, h0_typed, h0_isUsed, h0_planBatch, h0_planUnits, h0_planCents, h0_planMany, h0_planGot, h0_planSubstitutes, h0_at, h0_fault, h0_entries, h0_entry])), (zq, .inl (cI, 1002, .inl lf))] H ∧ va_D A [(h0, .inr (10, [.ref zq, h0_past, h0_kept, h0_spare, h0_pastMany, h0_isKept, h0_text, h0_typed, h0_isUsed, h0_planBatch, h0_planUnits, h0_planCents, h0_planMany, h0_planGot, h0_planSubstitutes, h0_at, h0_fault, h0_entries, h0_entry])), (zq, .inl (cI, 1002, .inl lf))] ∧ va_S A s.heap H locs ∧ (3 ≤ k ∧ k ≤ 39) ∧ (lf = zshr z k)) (fun n => n) ?_ (39 + 1) (g := F0 m 4 ls []) ⟨39, z, ls, rfl, rfl, lv_sub hl [0, 1, 2, 3, 4] rfl, hP, hD, hS, (⟨by decide, by decide⟩), (zshr_0 _)⟩
  intro n0 ih_4 H locs g hp
  obtain ⟨k, lf, ls, rfl, rfl, hl, hP, hD, hS, hk, hlf⟩ := hp
  refine lv_iload hx hb dX10_note_4 (lv_at hl 0 rfl) ?_
  refine lv_iconst (v := nI 4) hx hb dX10_note_6 (by decide) ?_
  refine xr_lt_n (tgt := 40) hx hb (by omega) (by omega) dX10_note_7 (by decide) (fun c_1 => ?_) (fun c_1 => ?_)
  · skip
    have hk3 : k = 3 := by omega
    rw [hlf, hk3] at hP hD
    have hP : va_P (dC, dI) vwCl [(h0, .inr (10, [.ref zq, h0_past, h0_kept, h0_spare, h0_pastMany, h0_isKept, h0_text, h0_typed, h0_isUsed, h0_planBatch, h0_planUnits, h0_planCents, h0_planMany, h0_planGot, h0_planSubstitutes, h0_at, h0_fault, h0_entries, h0_entry])), (zq, .inl (cI, 1002, .inl (zshr z 3)))] H := hP
    have hD : va_D A [(h0, .inr (10, [.ref zq, h0_past, h0_kept, h0_spare, h0_pastMany, h0_isKept, h0_text, h0_typed, h0_isUsed, h0_planBatch, h0_planUnits, h0_planCents, h0_planMany, h0_planGot, h0_planSubstitutes, h0_at, h0_fault, h0_entries, h0_entry])), (zq, .inl (cI, 1002, .inl (zshr z 3)))] := hD
    refine lv_aload_n hx hb dX10_note_40 rfl (lv_at hl 1 rfl) ?_
    refine va_get (D := (dC, dI)) (ci := 10) (v := .ref zq) (C := RX10) (T := TX10) (N := 19) hx hb hts i_X10 hown hK hP 0 rfl rfl 0 (by decide) k_7 (fun _ h9 => h9) rfl dX10_note_41 ?_
    refine lv_sipush (v := nI 962) hx hb dX10_note_44 (by decide) ?_
    refine lv_iload_n hx hb dX10_note_47 rfl (lv_at hl 2 rfl) ?_
    refine xr_iast hx hb hK hP hD hS 1 0 rfl rfl (i := 962) (by omega) (by decide) dX10_note_48 (fun H locs hP hD hS => ?_)
    have hP : va_P (dC, dI) vwCl [(h0, .inr (10, [.ref zq, h0_past, h0_kept, h0_spare, h0_pastMany, h0_isKept, h0_text, h0_typed, h0_isUsed, h0_planBatch, h0_planUnits, h0_planCents, h0_planMany, h0_planGot, h0_planSubstitutes, h0_at, h0_fault, h0_entries, h0_entry])), (zq, .inl (cI, 1002, .inl (upd (zshr z 3) 962 vk)))] H := hP
    have hD : va_D A [(h0, .inr (10, [.ref zq, h0_past, h0_kept, h0_spare, h0_pastMany, h0_isKept, h0_text, h0_typed, h0_isUsed, h0_planBatch, h0_planUnits, h0_planCents, h0_planMany, h0_planGot, h0_planSubstitutes, h0_at, h0_fault, h0_entries, h0_entry])), (zq, .inl (cI, 1002, .inl (upd (zshr z 3) 962 vk)))] := hD
    refine lv_aload_n hx hb dX10_note_49 rfl (lv_at hl 1 rfl) ?_
    refine va_get (D := (dC, dI)) (ci := 10) (v := .ref zq) (C := RX10) (T := TX10) (N := 19) hx hb hts i_X10 hown hK hP 0 rfl rfl 0 (by decide) k_7 (fun _ h9 => h9) rfl dX10_note_50 ?_
    refine lv_sipush (v := nI 963) hx hb dX10_note_53 (by decide) ?_
    refine lv_iload_n hx hb dX10_note_56 rfl (lv_at hl 3 rfl) ?_
    refine xr_iast hx hb hK hP hD hS 1 0 rfl rfl (i := 963) (by omega) (by decide) dX10_note_57 (fun H locs hP hD hS => ?_)
    have hP : va_P (dC, dI) vwCl [(h0, .inr (10, [.ref zq, h0_past, h0_kept, h0_spare, h0_pastMany, h0_isKept, h0_text, h0_typed, h0_isUsed, h0_planBatch, h0_planUnits, h0_planCents, h0_planMany, h0_planGot, h0_planSubstitutes, h0_at, h0_fault, h0_entries, h0_entry])), (zq, .inl (cI, 1002, .inl (upd (upd (zshr z 3) 962 vk) 963 vb)))] H := hP
    have hD : va_D A [(h0, .inr (10, [.ref zq, h0_past, h0_kept, h0_spare, h0_pastMany, h0_isKept, h0_text, h0_typed, h0_isUsed, h0_planBatch, h0_planUnits, h0_planCents, h0_planMany, h0_planGot, h0_planSubstitutes, h0_at, h0_fault, h0_entries, h0_entry])), (zq, .inl (cI, 1002, .inl (upd (upd (zshr z 3) 962 vk) 963 vb)))] := hD
    refine lv_aload_n hx hb dX10_note_58 rfl (lv_at hl 1 rfl) ?_
    refine va_get (D := (dC, dI)) (ci := 10) (v := .ref zq) (C := RX10) (T := TX10) (N := 19) hx hb hts i_X10 hown hK hP 0 rfl rfl 0 (by decide) k_7 (fun _ h9 => h9) rfl dX10_note_59 ?_
    refine lv_sipush (v := nI 964) hx hb dX10_note_62 (by decide) ?_
    refine lv_iload_n hx hb dX10_note_65 rfl (lv_at hl 4 rfl) ?_
    refine xr_iast hx hb hK hP hD hS 1 0 rfl rfl (i := 964) (by omega) (by decide) dX10_note_66 (fun H locs hP hD hS => ?_)
    have hP : va_P (dC, dI) vwCl [(h0, .inr (10, [.ref zq, h0_past, h0_kept, h0_spare, h0_pastMany, h0_isKept, h0_text, h0_typed, h0_isUsed, h0_planBatch, h0_planUnits, h0_planCents, h0_planMany, h0_planGot, h0_planSubstitutes, h0_at, h0_fault, h0_entries, h0_entry])), (zq, .inl (cI, 1002, .inl (upd (upd (upd (zshr z 3) 962 vk) 963 vb) 964 vu)))] H := hP
    have hD : va_D A [(h0, .inr (10, [.ref zq, h0_past, h0_kept, h0_spare, h0_pastMany, h0_isKept, h0_text, h0_typed, h0_isUsed, h0_planBatch, h0_planUnits, h0_planCents, h0_planMany, h0_planGot, h0_planSubstitutes, h0_at, h0_fault, h0_entries, h0_entry])), (zq, .inl (cI, 1002, .inl (upd (upd (upd (zshr z 3) 962 vk) 963 vb) 964 vu)))] := hD
    refine lv_aload_n hx hb dX10_note_67 rfl (lv_at hl 1 rfl) ?_
    refine va_get (D := (dC, dI)) (ci := 10) (v := .ref zq) (C := RX10) (T := TX10) (N := 19) hx hb hts i_X10 hown hK hP 0 rfl rfl 0 (by decide) k_7 (fun _ h9 => h9) rfl dX10_note_68 ?_
    refine lv_sipush (v := nI 965) hx hb dX10_note_71 (by decide) ?_
    refine lv_aload_n hx hb dX10_note_74 rfl (lv_at hl 1 rfl) ?_
    refine va_get (D := (dC, dI)) (ci := 10) (v := .ref zq) (C := RX10) (T := TX10) (N := 19) hx hb hts i_X10 hown hK hP 0 rfl rfl 0 (by decide) k_7 (fun _ h9 => h9) rfl dX10_note_75 ?_
    refine lv_iconst (v := nI 0) hx hb dX10_note_78 (by decide) ?_
    refine xr_iald hx hb hK hP 1 0 rfl rfl (i := 0) (by omega) (by decide) dX10_note_79 ?_
    refine xr_iast hx hb hK hP hD hS 1 0 rfl rfl (i := 965) (by omega) (by decide) dX10_note_80 (fun H locs hP hD hS => ?_)
    have hP : va_P (dC, dI) vwCl [(h0, .inr (10, [.ref zq, h0_past, h0_kept, h0_spare, h0_pastMany, h0_isKept, h0_text, h0_typed, h0_isUsed, h0_planBatch, h0_planUnits, h0_planCents, h0_planMany, h0_planGot, h0_planSubstitutes, h0_at, h0_fault, h0_entries, h0_entry])), (zq, .inl (cI, 1002, .inl (upd (upd (upd (upd (zshr z 3) 962 vk) 963 vb) 964 vu) 965 ((upd (upd (upd (zshr z 3) 962 vk) 963 vb) 964 vu) 0))))] H := hP
    have hD : va_D A [(h0, .inr (10, [.ref zq, h0_past, h0_kept, h0_spare, h0_pastMany, h0_isKept, h0_text, h0_typed, h0_isUsed, h0_planBatch, h0_planUnits, h0_planCents, h0_planMany, h0_planGot, h0_planSubstitutes, h0_at, h0_fault, h0_entries, h0_entry])), (zq, .inl (cI, 1002, .inl (upd (upd (upd (upd (zshr z 3) 962 vk) 963 vb) 964 vu) 965 ((upd (upd (upd (zshr z 3) 962 vk) 963 vb) 964 vu) 0))))] := hD
    obtain ⟨zt, hzt⟩ : ∃ x, x = upd (upd (upd (upd (zshr z 3) 962 vk) 963 vb) 964 vu) 965 ((upd (upd (upd (zshr z 3) 962 vk) 963 vb) 964 vu) 0) := ⟨_, rfl⟩
    rw [← hzt] at hP hD
    have hP : va_P (dC, dI) vwCl [(h0, .inr (10, [.ref zq, h0_past, h0_kept, h0_spare, h0_pastMany, h0_isKept, h0_text, h0_typed, h0_isUsed, h0_planBatch, h0_planUnits, h0_planCents, h0_planMany, h0_planGot, h0_planSubstitutes, h0_at, h0_fault, h0_entries, h0_entry])), (zq, .inl (cI, 1002, .inl zt))] H := hP
    have hD : va_D A [(h0, .inr (10, [.ref zq, h0_past, h0_kept, h0_spare, h0_pastMany, h0_isKept, h0_text, h0_typed, h0_isUsed, h0_planBatch, h0_planUnits, h0_planCents, h0_planMany, h0_planGot, h0_planSubstitutes, h0_at, h0_fault, h0_entries, h0_entry])), (zq, .inl (cI, 1002, .inl zt))] := hD
    refine lv_aload_n hx hb dX10_note_81 rfl (lv_at hl 1 rfl) ?_
    refine va_get (D := (dC, dI)) (ci := 10) (v := .ref zq) (C := RX10) (T := TX10) (N := 19) hx hb hts i_X10 hown hK hP 0 rfl rfl 0 (by decide) k_7 (fun _ h9 => h9) rfl dX10_note_82 ?_
    refine lv_bipush (v := nI 9) hx hb dX10_note_85 (by decide) ?_
    refine lv_dup2_11 hx hb dX10_note_87 rfl rfl ?_
    refine xr_iald hx hb hK hP 1 0 rfl rfl (i := 9) (by omega) (by decide) dX10_note_88 ?_
    refine xr_cut (g2 := F0 m 106 ls [.int (if zt 9 < nI 10 then nI 1 else nI 0), .int (zt 9), .int (nI 9), .ref zq]) (fun kj_2 => ?_) ?_
    · skip
      refine lv_aload_n hx hb dX10_note_89 rfl (lv_at hl 1 rfl) ?_
      refine va_get (D := (dC, dI)) (ci := 10) (v := .ref zq) (C := RX10) (T := TX10) (N := 19) hx hb hts i_X10 hown hK hP 0 rfl rfl 0 (by decide) k_7 (fun _ h9 => h9) rfl dX10_note_90 ?_
      refine lv_bipush (v := nI 9) hx hb dX10_note_93 (by decide) ?_
      refine xr_iald hx hb hK hP 1 0 rfl rfl (i := 9) (by omega) (by decide) dX10_note_95 ?_
      refine lv_bipush (v := nI 10) hx hb dX10_note_96 (by decide) ?_
      refine lv_icmp_ge (tgt := 105) hx hb dX10_note_98 (by decide) (fun c_3 => ?_) (fun c_3 => ?_)
      · skip
        refine lv_iconst (v := nI 0) hx hb dX10_note_105 (by decide) ?_
        refine xr_top (show nI 0 = if zt 9 < nI 10 then nI 1 else nI 0 from (if_neg (Int32.not_lt.mpr c_3)).symm) ?_
        exact kj_2
      refine lv_iconst (v := nI 1) hx hb dX10_note_101 (by decide) ?_
      refine lv_goto (tgt := 106) hx hb dX10_note_102 (by decide) ?_
      refine xr_top (show nI 1 = if zt 9 < nI 10 then nI 1 else nI 0 from (if_pos (Int32.not_le.mp c_3)).symm) ?_
      exact kj_2
    refine lv_iadd hx hb dX10_note_106 ?_
    refine xr_iast hx hb hK hP hD hS 1 0 rfl rfl (i := 9) (by omega) (by decide) dX10_note_107 (fun H locs hP hD hS => ?_)
    have hP : va_P (dC, dI) vwCl [(h0, .inr (10, [.ref zq, h0_past, h0_kept, h0_spare, h0_pastMany, h0_isKept, h0_text, h0_typed, h0_isUsed, h0_planBatch, h0_planUnits, h0_planCents, h0_planMany, h0_planGot, h0_planSubstitutes, h0_at, h0_fault, h0_entries, h0_entry])), (zq, .inl (cI, 1002, .inl (upd zt 9 ((zt 9) + (if zt 9 < nI 10 then nI 1 else nI 0)))))] H := hP
    have hD : va_D A [(h0, .inr (10, [.ref zq, h0_past, h0_kept, h0_spare, h0_pastMany, h0_isKept, h0_text, h0_typed, h0_isUsed, h0_planBatch, h0_planUnits, h0_planCents, h0_planMany, h0_planGot, h0_planSubstitutes, h0_at, h0_fault, h0_entries, h0_entry])), (zq, .inl (cI, 1002, .inl (upd zt 9 ((zt 9) + (if zt 9 < nI 10 then nI 1 else nI 0)))))] := hD
    rw [hzt] at hP
    have hP9 : va_P (dC, dI) vwCl [(h0, .inr (10, [.ref zq, h0_past, h0_kept, h0_spare, h0_pastMany, h0_isKept, h0_text, h0_typed, h0_isUsed, h0_planBatch, h0_planUnits, h0_planCents, h0_planMany, h0_planGot, h0_planSubstitutes, h0_at, h0_fault, h0_entries, h0_entry])), (zq, .inl (cI, 1002, .inl (znote z vk vb vu)))] H := hP
    have hS9 : va_S (va_B [(h0, .inr (10, [.ref zq, h0_past, h0_kept, h0_spare, h0_pastMany, h0_isKept, h0_text, h0_typed, h0_isUsed, h0_planBatch, h0_planUnits, h0_planCents, h0_planMany, h0_planGot, h0_planSubstitutes, h0_at, h0_fault, h0_entries, h0_entry])), (zq, .inl (cI, 1002, .inl z))]) s.heap H locs := by rw [← hA]; exact hS
    exact W.vret hx hb hr (fun t ht hW => ⟨⟨_, rfl, rfl, by rw [ht]; exact hP9⟩, hS9.X ht⟩) hS9.2.2 dX10_note_108
  refine lv_aload_n hx hb dX10_note_10 rfl (lv_at hl 1 rfl) ?_
  refine va_get (D := (dC, dI)) (ci := 10) (v := .ref zq) (C := RX10) (T := TX10) (N := 19) hx hb hts i_X10 hown hK hP 0 rfl rfl 0 (by decide) k_7 (fun _ h9 => h9) rfl dX10_note_11 ?_
  refine lv_sipush (v := nI 962) hx hb dX10_note_14 (by decide) ?_
  refine lv_iload hx hb dX10_note_17 (lv_at hl 0 rfl) ?_
  refine xr_iadd_n hx hb dX10_note_19 ?_
  refine lv_aload_n hx hb dX10_note_20 rfl (lv_at hl 1 rfl) ?_
  refine va_get (D := (dC, dI)) (ci := 10) (v := .ref zq) (C := RX10) (T := TX10) (N := 19) hx hb hts i_X10 hown hK hP 0 rfl rfl 0 (by decide) k_7 (fun _ h9 => h9) rfl dX10_note_21 ?_
  refine lv_sipush (v := nI 962) hx hb dX10_note_24 (by decide) ?_
  refine lv_iload hx hb dX10_note_27 (lv_at hl 0 rfl) ?_
  refine xr_iadd_n hx hb dX10_note_29 ?_
  refine lv_iconst (v := nI 4) hx hb dX10_note_30 (by decide) ?_
  refine xr_isub_n hx hb (by omega) dX10_note_31 ?_
  refine xr_iald hx hb hK hP 1 0 rfl rfl (i := (962 + k) - 4) (by omega) (by decide) dX10_note_32 ?_
  refine xr_iast hx hb hK hP hD hS 1 0 rfl rfl (i := 962 + k) (by omega) (by decide) dX10_note_33 (fun H locs hP hD hS => ?_)
  have hP : va_P (dC, dI) vwCl [(h0, .inr (10, [.ref zq, h0_past, h0_kept, h0_spare, h0_pastMany, h0_isKept, h0_text, h0_typed, h0_isUsed, h0_planBatch, h0_planUnits, h0_planCents, h0_planMany, h0_planGot, h0_planSubstitutes, h0_at, h0_fault, h0_entries, h0_entry])), (zq, .inl (cI, 1002, .inl (upd lf (962 + k) (lf ((962 + k) - 4)))))] H := hP
  have hD : va_D A [(h0, .inr (10, [.ref zq, h0_past, h0_kept, h0_spare, h0_pastMany, h0_isKept, h0_text, h0_typed, h0_isUsed, h0_planBatch, h0_planUnits, h0_planCents, h0_planMany, h0_planGot, h0_planSubstitutes, h0_at, h0_fault, h0_entries, h0_entry])), (zq, .inl (cI, 1002, .inl (upd lf (962 + k) (lf ((962 + k) - 4)))))] := hD
  refine lv_iinc (v := nI (k - 1)) (lv' := [(4, .int (nI (k - 1))), (0, .ref h0), (1, .int vk), (2, .int vb), (3, .int vu)]) hx hb dX10_note_34 hl (k := 0) rfl (nI_dec1 (by omega)) (by decide) rfl (fun ls hl => ?_)
  refine lv_goto (tgt := 4) hx hb dX10_note_37 (by decide) ?_
  exact ih_4 ((k - 1) + 1) _ _ _ (show (k - 1) + 1 < k + 1 from by omega) ⟨(k - 1), (upd lf (962 + k) (lf ((962 + k) - 4))), ls, rfl, rfl, lv_sub hl [0, 1, 2, 3, 4] rfl, hP, hD, hS, (⟨by omega, by omega⟩), (by rw [hlf]; exact zshr_1 (by omega) (by omega))⟩
theorem hdV_X10_record : yX10_record.cls = RX10 ∧ yX10_record.cls ≠ "java/lang/invoke/MethodHandle" ∧ yX10_record.cls ≠ "java/lang/invoke/VarHandle" ∧ (parseMethodDescriptor yX10_record.desc).map (fun d => d.parameters.length) = some 0 := by decide +kernel
set_option maxHeartbeats 4000000 in
set_option maxRecDepth 100000 in
theorem c_X10_record (l : Launch) (dC : Nat → ClassId) (dI : Nat → Nat → Nat) (cI cF cC cZ cQ cS : ClassId) (h0 : Nat) (zq : Nat) (pq : Nat) (h0_kept : Value) (h0_spare : Value) (h0_isKept : Value) (h0_text : Value) (h0_typed : Value) (h0_isUsed : Value) (h0_planBatch : Value) (h0_planUnits : Value) (h0_planCents : Value) (h0_planMany : Value) (h0_planGot : Value) (h0_planSubstitutes : Value) (h0_at : Value) (h0_fault : Value) (h0_entries : Value) (h0_entry : Value) (z : Nat → Int32) (past : Nat → Int32) (pm : Nat) (hpm : pm ≤ 4) : Met l yX10_record wsX10_record ({ frames := 0, cells := 0, slots := 0, locals := 0 }) (xPre (dC, dI) vwCl [.ref h0] (xtys cI cF cC cZ cQ cS) [(h0, .inr (10, [.ref zq, .ref pq, h0_kept, h0_spare, .int (nI pm), h0_isKept, h0_text, h0_typed, h0_isUsed, h0_planBatch, h0_planUnits, h0_planCents, h0_planMany, h0_planGot, h0_planSubstitutes, h0_at, h0_fault, h0_entries, h0_entry])), (zq, .inl (cI, 1002, .inl z)), (pq, .inl (cI, 4008, .inl past))]) (xWv (dC, dI) vwCl [(h0, .inr (10, [.ref zq, .ref pq, h0_kept, h0_spare, .int (nI pm), h0_isKept, h0_text, h0_typed, h0_isUsed, h0_planBatch, h0_planUnits, h0_planCents, h0_planMany, h0_planGot, h0_planSubstitutes, h0_at, h0_fault, h0_entries, h0_entry])), (zq, .inl (cI, 1002, .inl z)), (pq, .inl (cI, 4008, .inl past))] (fun w0 => w0 = [(h0, .inr (10, [.ref zq, .ref pq, h0_kept, h0_spare, .int (nI (if pm = 4 then 4 else pm + 1)), h0_isKept, h0_text, h0_typed, h0_isUsed, h0_planBatch, h0_planUnits, h0_planCents, h0_planMany, h0_planGot, h0_planSubstitutes, h0_at, h0_fault, h0_entries, h0_entry])), (zq, .inl (cI, 1002, .inl z)), (pq, .inl (cI, 4008, .inl (zrec z past pm)))])) 0 0 (va_B [(h0, .inr (10, [.ref zq, .ref pq, h0_kept, h0_spare, .int (nI pm), h0_isKept, h0_text, h0_typed, h0_isUsed, h0_planBatch, h0_planUnits, h0_planCents, h0_planMany, h0_planGot, h0_planSubstitutes, h0_at, h0_fault, h0_entries, h0_entry])), (zq, .inl (cI, 1002, .inl z)), (pq, .inl (cI, 4008, .inl past))]) := by
  refine Met.ofW (cc := cX10_record) (maxL := 2) (ret := none) (by decide) rfl ?_
  intro p e s m args below meth c s₁ B hml hv
  obtain ⟨rfl, hP, hK, hD0, hN⟩ := hv
  have hx := B.exec
  have hb := B.bytes
  have hr := B.returns
  have hts := atoms_spec (ws := wsX10_record) B.pre
  have hown : s.vm.findClass RX10 = some m.cls := findClass_of_methodNamed B.named
  have hlocks := B.notSynchronized
  have k_13 := hts (Cond.fieldLink RX10 13 "ShelfStagesModel" "past" "[I") (by decide +kernel)
  have k_45 := hts (Cond.fieldLink RX10 45 "ShelfStagesModel" "pastMany" "I") (by decide +kernel)
  have k_7 := hts (Cond.fieldLink RX10 7 "ShelfStagesModel" "z" "[I") (by decide +kernel)
  have i_X10 : ∀ w ∈ wsX100, w ∈ wsX10_record := by decide +kernel
  obtain ⟨A, hA⟩ : ∃ A, A = va_B [(h0, .inr (10, [.ref zq, .ref pq, h0_kept, h0_spare, .int (nI pm), h0_isKept, h0_text, h0_typed, h0_isUsed, h0_planBatch, h0_planUnits, h0_planCents, h0_planMany, h0_planGot, h0_planSubstitutes, h0_at, h0_fault, h0_entries, h0_entry])), (zq, .inl (cI, 1002, .inl z)), (pq, .inl (cI, 4008, .inl past))] := ⟨_, rfl⟩
  have hD : va_D A [(h0, .inr (10, [.ref zq, .ref pq, h0_kept, h0_spare, .int (nI pm), h0_isKept, h0_text, h0_typed, h0_isUsed, h0_planBatch, h0_planUnits, h0_planCents, h0_planMany, h0_planGot, h0_planSubstitutes, h0_at, h0_fault, h0_entries, h0_entry])), (zq, .inl (cI, 1002, .inl z)), (pq, .inl (cI, 4008, .inl past))] := hA ▸ hD0.own
  have hS : va_S A s.heap s.heap [] := va_S.rf
  have hl := lv_entry ([.ref h0]) (n := 2) (Nat.le_of_ble_eq_true rfl)
  rw [lg_entry_eq]
  generalize (lg_sl ([.ref h0]) ++ List.replicate (2 - (lg_sl ([.ref h0])).length) Slot.unset).toArray = ls at hl ⊢
  have hl : lv_has ls 2 [(0, .ref h0)] := hl
  refine lv_aload_n hx hb dX10_record_0 rfl (lv_at hl 0 rfl) ?_
  refine va_get (D := (dC, dI)) (ci := 10) (v := .int (nI pm)) (C := RX10) (T := TX10) (N := 19) hx hb hts i_X10 hown hK hP 0 rfl rfl 4 (by decide) k_45 (fun _ h9 => h9) rfl dX10_record_1 ?_
  refine lv_iconst (v := nI 4) hx hb dX10_record_4 (by decide) ?_
  refine xr_ne_n (tgt := 49) hx hb (by omega) (by omega) dX10_record_5 (by decide) (fun c_1 => ?_) (fun c_1 => ?_)
  · skip
    refine lv_iconst (v := nI 0) hx hb dX10_record_49 (by decide) ?_
    refine lv_istore_n (lv' := [(1, .int (nI 0)), (0, .ref h0)]) hx hb dX10_record_50 rfl hl (by decide) rfl (fun ls hl => ?_)
    refine xr_loop (J := Nat) (fun n0 H locs g => ∃ (j : Nat) (lg : Nat → Int32) (ls : Array Slot), n0 = 1002 - j ∧ g = F0 m 51 ls [] ∧ lv_has ls 2 [(1, .int (nI j)), (0, .ref h0)] ∧ va_P (dC, dI) vwCl [(h0, .inr (10, [.ref zq, .ref pq, h0_kept, h0_spare, .int (nI pm), h0_isKept, h0_text, h0_typed, h0_isUsed, h0_planBatch, h0_planUnits, h0_planCents, h0_planMany, h0_planGot, h0_planSubstitutes, h0_at, h0_fault, h0_entries, h0_entry])), (zq, .inl (cI, 1002, .inl z)), (pq, .inl (cI, 4008, .inl lg))] H ∧ va_D A [(h0, .inr (10, [.ref zq, .ref pq, h0_kept, h0_spare, .int (nI pm), h0_isKept, h0_text, h0_typed, h0_isUsed, h0_planBatch, h0_planUnits, h0_planCents, h0_planMany, h0_planGot, h0_planSubstitutes, h0_at, h0_fault, h0_entries, h0_entry])), (zq, .inl (cI, 1002, .inl z)), (pq, .inl (cI, 4008, .inl lg))] ∧ va_S A s.heap H locs ∧ (j ≤ 1002) ∧ (lg = zput z past pm j)) (fun n => n) ?_ (1002 - 0) (g := F0 m 51 ls []) ⟨0, past, ls, rfl, rfl, lv_sub hl [0, 1] rfl, hP, hD, hS, (Nat.zero_le _), (zput_0 _ _ _)⟩
    intro n0 ih_51 H locs g hp
    obtain ⟨j, lg, ls, rfl, rfl, hl, hP, hD, hS, hj, hlg⟩ := hp
    refine lv_iload_n hx hb dX10_record_51 rfl (lv_at hl 0 rfl) ?_
    refine lv_sipush (v := nI 1002) hx hb dX10_record_52 (by decide) ?_
    refine xr_ge_n (tgt := 85) hx hb (by omega) (by omega) dX10_record_55 (by decide) (fun c_2 => ?_) (fun c_2 => ?_)
    · skip
      refine lv_aload_n hx hb dX10_record_85 rfl (lv_at hl 1 rfl) ?_
      refine lv_dup hx hb dX10_record_86 rfl ?_
      refine va_get (D := (dC, dI)) (ci := 10) (v := .int (nI pm)) (C := RX10) (T := TX10) (N := 19) hx hb hts i_X10 hown hK hP 0 rfl rfl 4 (by decide) k_45 (fun _ h9 => h9) rfl dX10_record_87 ?_
      refine lv_iconst (v := nI 1) hx hb dX10_record_90 (by decide) ?_
      refine xr_iadd_n hx hb dX10_record_91 ?_
      refine va_put (D := (dC, dI)) (ci := 10) (v := .int (nI (pm + 1))) (ty := .int) (C := RX10) (T := TX10) (N := 19) hx hb hts i_X10 tyX10 tyX10_ok nmX10 hown hK hP hD hS 0 rfl rfl 4 (by decide) k_45 (fun _ h9 => h9) rfl (by decide +kernel) rfl rfl (Nat.le_of_ble_eq_true rfl) dX10_record_92 (fun H locs hP hD hS => ?_)
      have hP : va_P (dC, dI) vwCl [(h0, .inr (10, [.ref zq, .ref pq, h0_kept, h0_spare, .int (nI (pm + 1)), h0_isKept, h0_text, h0_typed, h0_isUsed, h0_planBatch, h0_planUnits, h0_planCents, h0_planMany, h0_planGot, h0_planSubstitutes, h0_at, h0_fault, h0_entries, h0_entry])), (zq, .inl (cI, 1002, .inl z)), (pq, .inl (cI, 4008, .inl lg))] H := hP
      have hD : va_D A [(h0, .inr (10, [.ref zq, .ref pq, h0_kept, h0_spare, .int (nI (pm + 1)), h0_isKept, h0_text, h0_typed, h0_isUsed, h0_planBatch, h0_planUnits, h0_planCents, h0_planMany, h0_planGot, h0_planSubstitutes, h0_at, h0_fault, h0_entries, h0_entry])), (zq, .inl (cI, 1002, .inl z)), (pq, .inl (cI, 4008, .inl lg))] := hD
      rw [hlg, show j = 1002 from by omega] at hP
      have hP9 : va_P (dC, dI) vwCl [(h0, .inr (10, [.ref zq, .ref pq, h0_kept, h0_spare, .int (nI (if pm = 4 then 4 else pm + 1)), h0_isKept, h0_text, h0_typed, h0_isUsed, h0_planBatch, h0_planUnits, h0_planCents, h0_planMany, h0_planGot, h0_planSubstitutes, h0_at, h0_fault, h0_entries, h0_entry])), (zq, .inl (cI, 1002, .inl z)), (pq, .inl (cI, 4008, .inl (zrec z past pm)))] H := by rw [show (if pm = 4 then 4 else pm + 1) = pm + 1 from by rw [if_neg c_1], show zrec z past pm = zput z past pm 1002 from if_neg c_1]; exact hP
      have hS9 : va_S (va_B [(h0, .inr (10, [.ref zq, .ref pq, h0_kept, h0_spare, .int (nI pm), h0_isKept, h0_text, h0_typed, h0_isUsed, h0_planBatch, h0_planUnits, h0_planCents, h0_planMany, h0_planGot, h0_planSubstitutes, h0_at, h0_fault, h0_entries, h0_entry])), (zq, .inl (cI, 1002, .inl z)), (pq, .inl (cI, 4008, .inl past))]) s.heap H locs := by rw [← hA]; exact hS
      exact W.vret hx hb hr (fun t ht hW => ⟨⟨_, rfl, rfl, by rw [ht]; exact hP9⟩, hS9.X ht⟩) hS9.2.2 dX10_record_95
    refine lv_aload_n hx hb dX10_record_58 rfl (lv_at hl 1 rfl) ?_
    refine va_get (D := (dC, dI)) (ci := 10) (v := .ref pq) (C := RX10) (T := TX10) (N := 19) hx hb hts i_X10 hown hK hP 0 rfl rfl 1 (by decide) k_13 (fun _ h9 => h9) rfl dX10_record_59 ?_
    refine lv_aload_n hx hb dX10_record_62 rfl (lv_at hl 1 rfl) ?_
    refine va_get (D := (dC, dI)) (ci := 10) (v := .int (nI pm)) (C := RX10) (T := TX10) (N := 19) hx hb hts i_X10 hown hK hP 0 rfl rfl 4 (by decide) k_45 (fun _ h9 => h9) rfl dX10_record_63 ?_
    refine lv_sipush (v := nI 1002) hx hb dX10_record_66 (by decide) ?_
    refine xr_imul_n hx hb dX10_record_69 ?_
    refine lv_iload_n hx hb dX10_record_70 rfl (lv_at hl 0 rfl) ?_
    refine xr_iadd_n hx hb dX10_record_71 ?_
    refine lv_aload_n hx hb dX10_record_72 rfl (lv_at hl 1 rfl) ?_
    refine va_get (D := (dC, dI)) (ci := 10) (v := .ref zq) (C := RX10) (T := TX10) (N := 19) hx hb hts i_X10 hown hK hP 0 rfl rfl 0 (by decide) k_7 (fun _ h9 => h9) rfl dX10_record_73 ?_
    refine lv_iload_n hx hb dX10_record_76 rfl (lv_at hl 0 rfl) ?_
    refine xr_iald hx hb hK hP 1 0 rfl rfl (i := j) (by omega) (by decide) dX10_record_77 ?_
    refine xr_iast hx hb hK hP hD hS 2 0 rfl rfl (i := (pm * 1002) + j) (by omega) (by decide) dX10_record_78 (fun H locs hP hD hS => ?_)
    have hP : va_P (dC, dI) vwCl [(h0, .inr (10, [.ref zq, .ref pq, h0_kept, h0_spare, .int (nI pm), h0_isKept, h0_text, h0_typed, h0_isUsed, h0_planBatch, h0_planUnits, h0_planCents, h0_planMany, h0_planGot, h0_planSubstitutes, h0_at, h0_fault, h0_entries, h0_entry])), (zq, .inl (cI, 1002, .inl z)), (pq, .inl (cI, 4008, .inl (upd lg ((pm * 1002) + j) (z j))))] H := hP
    have hD : va_D A [(h0, .inr (10, [.ref zq, .ref pq, h0_kept, h0_spare, .int (nI pm), h0_isKept, h0_text, h0_typed, h0_isUsed, h0_planBatch, h0_planUnits, h0_planCents, h0_planMany, h0_planGot, h0_planSubstitutes, h0_at, h0_fault, h0_entries, h0_entry])), (zq, .inl (cI, 1002, .inl z)), (pq, .inl (cI, 4008, .inl (upd lg ((pm * 1002) + j) (z j))))] := hD
    refine lv_iinc (v := nI (j + 1)) (lv' := [(1, .int (nI (j + 1))), (0, .ref h0)]) hx hb dX10_record_79 hl (k := 0) rfl (nI_inc1 j) (by decide) rfl (fun ls hl => ?_)
    refine lv_goto (tgt := 51) hx hb dX10_record_82 (by decide) ?_
    exact ih_51 (1002 - (j + 1)) _ _ _ (show 1002 - (j + 1) < 1002 - j from by omega) ⟨(j + 1), (upd lg ((pm * 1002) + j) (z j)), ls, rfl, rfl, lv_sub hl [0, 1] rfl, hP, hD, hS, (by omega), (by rw [hlg]; exact zput_1 _ _ _ _)⟩
  refine lv_iconst (v := nI 0) hx hb dX10_record_8 (by decide) ?_
  refine lv_istore_n (lv' := [(1, .int (nI 0)), (0, .ref h0)]) hx hb dX10_record_9 rfl hl (by decide) rfl (fun ls hl => ?_)
  refine xr_loop (J := Nat) (fun n0 H locs g => ∃ (k : Nat) (lf : Nat → Int32) (ls : Array Slot), n0 = 3006 - k ∧ g = F0 m 10 ls [] ∧ lv_has ls 2 [(1, .int (nI k)), (0, .ref h0)] ∧ va_P (dC, dI) vwCl [(h0, .inr (10, [.ref zq, .ref pq, h0_kept, h0_spare, .int (nI pm), h0_isKept, h0_text, h0_typed, h0_isUsed, h0_planBatch, h0_planUnits, h0_planCents, h0_planMany, h0_planGot, h0_planSubstitutes, h0_at, h0_fault, h0_entries, h0_entry])), (zq, .inl (cI, 1002, .inl z)), (pq, .inl (cI, 4008, .inl lf))] H ∧ va_D A [(h0, .inr (10, [.ref zq, .ref pq, h0_kept, h0_spare, .int (nI pm), h0_isKept, h0_text, h0_typed, h0_isUsed, h0_planBatch, h0_planUnits, h0_planCents, h0_planMany, h0_planGot, h0_planSubstitutes, h0_at, h0_fault, h0_entries, h0_entry])), (zq, .inl (cI, 1002, .inl z)), (pq, .inl (cI, 4008, .inl lf))] ∧ va_S A s.heap H locs ∧ (k ≤ 3006) ∧ (lf = zmv past k)) (fun n => n) ?_ (3006 - 0) (g := F0 m 10 ls []) ⟨0, past, ls, rfl, rfl, lv_sub hl [0, 1] rfl, hP, hD, hS, (Nat.zero_le _), (zmv_0 _)⟩
  intro n0 ih_10 H locs g hp
  obtain ⟨k, lf, ls, rfl, rfl, hl, hP, hD, hS, hk, hlf⟩ := hp
  refine lv_iload_n hx hb dX10_record_10 rfl (lv_at hl 0 rfl) ?_
  refine lv_sipush (v := nI 3006) hx hb dX10_record_11 (by decide) ?_
  refine xr_ge_n (tgt := 39) hx hb (by omega) (by omega) dX10_record_14 (by decide) (fun c_3 => ?_) (fun c_3 => ?_)
  · skip
    have hk6 : k = 3006 := by omega
    rw [hlf, hk6] at hP hD
    have hP : va_P (dC, dI) vwCl [(h0, .inr (10, [.ref zq, .ref pq, h0_kept, h0_spare, .int (nI pm), h0_isKept, h0_text, h0_typed, h0_isUsed, h0_planBatch, h0_planUnits, h0_planCents, h0_planMany, h0_planGot, h0_planSubstitutes, h0_at, h0_fault, h0_entries, h0_entry])), (zq, .inl (cI, 1002, .inl z)), (pq, .inl (cI, 4008, .inl (zmv past 3006)))] H := hP
    have hD : va_D A [(h0, .inr (10, [.ref zq, .ref pq, h0_kept, h0_spare, .int (nI pm), h0_isKept, h0_text, h0_typed, h0_isUsed, h0_planBatch, h0_planUnits, h0_planCents, h0_planMany, h0_planGot, h0_planSubstitutes, h0_at, h0_fault, h0_entries, h0_entry])), (zq, .inl (cI, 1002, .inl z)), (pq, .inl (cI, 4008, .inl (zmv past 3006)))] := hD
    refine lv_aload_n hx hb dX10_record_39 rfl (lv_at hl 1 rfl) ?_
    refine lv_dup hx hb dX10_record_40 rfl ?_
    refine va_get (D := (dC, dI)) (ci := 10) (v := .int (nI pm)) (C := RX10) (T := TX10) (N := 19) hx hb hts i_X10 hown hK hP 0 rfl rfl 4 (by decide) k_45 (fun _ h9 => h9) rfl dX10_record_41 ?_
    refine lv_iconst (v := nI 1) hx hb dX10_record_44 (by decide) ?_
    refine xr_isub_n hx hb (by omega) dX10_record_45 ?_
    refine va_put (D := (dC, dI)) (ci := 10) (v := .int (nI (pm - 1))) (ty := .int) (C := RX10) (T := TX10) (N := 19) hx hb hts i_X10 tyX10 tyX10_ok nmX10 hown hK hP hD hS 0 rfl rfl 4 (by decide) k_45 (fun _ h9 => h9) rfl (by decide +kernel) rfl rfl (Nat.le_of_ble_eq_true rfl) dX10_record_46 (fun H locs hP hD hS => ?_)
    have hP : va_P (dC, dI) vwCl [(h0, .inr (10, [.ref zq, .ref pq, h0_kept, h0_spare, .int (nI (pm - 1)), h0_isKept, h0_text, h0_typed, h0_isUsed, h0_planBatch, h0_planUnits, h0_planCents, h0_planMany, h0_planGot, h0_planSubstitutes, h0_at, h0_fault, h0_entries, h0_entry])), (zq, .inl (cI, 1002, .inl z)), (pq, .inl (cI, 4008, .inl (zmv past 3006)))] H := hP
    have hD : va_D A [(h0, .inr (10, [.ref zq, .ref pq, h0_kept, h0_spare, .int (nI (pm - 1)), h0_isKept, h0_text, h0_typed, h0_isUsed, h0_planBatch, h0_planUnits, h0_planCents, h0_planMany, h0_planGot, h0_planSubstitutes, h0_at, h0_fault, h0_entries, h0_entry])), (zq, .inl (cI, 1002, .inl z)), (pq, .inl (cI, 4008, .inl (zmv past 3006)))] := hD
    refine lv_iconst (v := nI 0) hx hb dX10_record_49 (by decide) ?_
    refine lv_istore_n (lv' := [(1, .int (nI 0)), (0, .ref h0)]) hx hb dX10_record_50 rfl hl (by decide) rfl (fun ls hl => ?_)
    refine xr_loop (J := Nat) (fun n0 H locs g => ∃ (j : Nat) (lg : Nat → Int32) (ls : Array Slot), n0 = 1002 - j ∧ g = F0 m 51 ls [] ∧ lv_has ls 2 [(1, .int (nI j)), (0, .ref h0)] ∧ va_P (dC, dI) vwCl [(h0, .inr (10, [.ref zq, .ref pq, h0_kept, h0_spare, .int (nI (pm - 1)), h0_isKept, h0_text, h0_typed, h0_isUsed, h0_planBatch, h0_planUnits, h0_planCents, h0_planMany, h0_planGot, h0_planSubstitutes, h0_at, h0_fault, h0_entries, h0_entry])), (zq, .inl (cI, 1002, .inl z)), (pq, .inl (cI, 4008, .inl lg))] H ∧ va_D A [(h0, .inr (10, [.ref zq, .ref pq, h0_kept, h0_spare, .int (nI (pm - 1)), h0_isKept, h0_text, h0_typed, h0_isUsed, h0_planBatch, h0_planUnits, h0_planCents, h0_planMany, h0_planGot, h0_planSubstitutes, h0_at, h0_fault, h0_entries, h0_entry])), (zq, .inl (cI, 1002, .inl z)), (pq, .inl (cI, 4008, .inl lg))] ∧ va_S A s.heap H locs ∧ (j ≤ 1002) ∧ (lg = zput z (zmv past 3006) (pm - 1) j)) (fun n => n) ?_ (1002 - 0) (g := F0 m 51 ls []) ⟨0, (zmv past 3006), ls, rfl, rfl, lv_sub hl [0, 1] rfl, hP, hD, hS, (Nat.zero_le _), (zput_0 _ _ _)⟩
    intro n0 ih_51 H locs g hp
    obtain ⟨j, lg, ls, rfl, rfl, hl, hP, hD, hS, hj, hlg⟩ := hp
    refine lv_iload_n hx hb dX10_record_51 rfl (lv_at hl 0 rfl) ?_
    refine lv_sipush (v := nI 1002) hx hb dX10_record_52 (by decide) ?_
    refine xr_ge_n (tgt := 85) hx hb (by omega) (by omega) dX10_record_55 (by decide) (fun c_4 => ?_) (fun c_4 => ?_)
    · skip
      refine lv_aload_n hx hb dX10_record_85 rfl (lv_at hl 1 rfl) ?_
      refine lv_dup hx hb dX10_record_86 rfl ?_
      refine va_get (D := (dC, dI)) (ci := 10) (v := .int (nI (pm - 1))) (C := RX10) (T := TX10) (N := 19) hx hb hts i_X10 hown hK hP 0 rfl rfl 4 (by decide) k_45 (fun _ h9 => h9) rfl dX10_record_87 ?_
      refine lv_iconst (v := nI 1) hx hb dX10_record_90 (by decide) ?_
      refine xr_iadd_n hx hb dX10_record_91 ?_
      refine va_put (D := (dC, dI)) (ci := 10) (v := .int (nI ((pm - 1) + 1))) (ty := .int) (C := RX10) (T := TX10) (N := 19) hx hb hts i_X10 tyX10 tyX10_ok nmX10 hown hK hP hD hS 0 rfl rfl 4 (by decide) k_45 (fun _ h9 => h9) rfl (by decide +kernel) rfl rfl (Nat.le_of_ble_eq_true rfl) dX10_record_92 (fun H locs hP hD hS => ?_)
      have hP : va_P (dC, dI) vwCl [(h0, .inr (10, [.ref zq, .ref pq, h0_kept, h0_spare, .int (nI ((pm - 1) + 1)), h0_isKept, h0_text, h0_typed, h0_isUsed, h0_planBatch, h0_planUnits, h0_planCents, h0_planMany, h0_planGot, h0_planSubstitutes, h0_at, h0_fault, h0_entries, h0_entry])), (zq, .inl (cI, 1002, .inl z)), (pq, .inl (cI, 4008, .inl lg))] H := hP
      have hD : va_D A [(h0, .inr (10, [.ref zq, .ref pq, h0_kept, h0_spare, .int (nI ((pm - 1) + 1)), h0_isKept, h0_text, h0_typed, h0_isUsed, h0_planBatch, h0_planUnits, h0_planCents, h0_planMany, h0_planGot, h0_planSubstitutes, h0_at, h0_fault, h0_entries, h0_entry])), (zq, .inl (cI, 1002, .inl z)), (pq, .inl (cI, 4008, .inl lg))] := hD
      rw [hlg, show j = 1002 from by omega] at hP
      have hP9 : va_P (dC, dI) vwCl [(h0, .inr (10, [.ref zq, .ref pq, h0_kept, h0_spare, .int (nI (if pm = 4 then 4 else pm + 1)), h0_isKept, h0_text, h0_typed, h0_isUsed, h0_planBatch, h0_planUnits, h0_planCents, h0_planMany, h0_planGot, h0_planSubstitutes, h0_at, h0_fault, h0_entries, h0_entry])), (zq, .inl (cI, 1002, .inl z)), (pq, .inl (cI, 4008, .inl (zrec z past pm)))] H := by rw [show (if pm = 4 then 4 else pm + 1) = pm - 1 + 1 from by rw [if_pos c_1]; omega, show zrec z past pm = zput z (zmv past 3006) (pm - 1) 1002 from if_pos c_1]; exact hP
      have hS9 : va_S (va_B [(h0, .inr (10, [.ref zq, .ref pq, h0_kept, h0_spare, .int (nI pm), h0_isKept, h0_text, h0_typed, h0_isUsed, h0_planBatch, h0_planUnits, h0_planCents, h0_planMany, h0_planGot, h0_planSubstitutes, h0_at, h0_fault, h0_entries, h0_entry])), (zq, .inl (cI, 1002, .inl z)), (pq, .inl (cI, 4008, .inl past))]) s.heap H locs := by rw [← hA]; exact hS
      exact W.vret hx hb hr (fun t ht hW => ⟨⟨_, rfl, rfl, by rw [ht]; exact hP9⟩, hS9.X ht⟩) hS9.2.2 dX10_record_95
    refine lv_aload_n hx hb dX10_record_58 rfl (lv_at hl 1 rfl) ?_
    refine va_get (D := (dC, dI)) (ci := 10) (v := .ref pq) (C := RX10) (T := TX10) (N := 19) hx hb hts i_X10 hown hK hP 0 rfl rfl 1 (by decide) k_13 (fun _ h9 => h9) rfl dX10_record_59 ?_
    refine lv_aload_n hx hb dX10_record_62 rfl (lv_at hl 1 rfl) ?_
    refine va_get (D := (dC, dI)) (ci := 10) (v := .int (nI (pm - 1))) (C := RX10) (T := TX10) (N := 19) hx hb hts i_X10 hown hK hP 0 rfl rfl 4 (by decide) k_45 (fun _ h9 => h9) rfl dX10_record_63 ?_
    refine lv_sipush (v := nI 1002) hx hb dX10_record_66 (by decide) ?_
    refine xr_imul_n hx hb dX10_record_69 ?_
    refine lv_iload_n hx hb dX10_record_70 rfl (lv_at hl 0 rfl) ?_
    refine xr_iadd_n hx hb dX10_record_71 ?_
    refine lv_aload_n hx hb dX10_record_72 rfl (lv_at hl 1 rfl) ?_
    refine va_get (D := (dC, dI)) (ci := 10) (v := .ref zq) (C := RX10) (T := TX10) (N := 19) hx hb hts i_X10 hown hK hP 0 rfl rfl 0 (by decide) k_7 (fun _ h9 => h9) rfl dX10_record_73 ?_
    refine lv_iload_n hx hb dX10_record_76 rfl (lv_at hl 0 rfl) ?_
    refine xr_iald hx hb hK hP 1 0 rfl rfl (i := j) (by omega) (by decide) dX10_record_77 ?_
    refine xr_iast hx hb hK hP hD hS 2 0 rfl rfl (i := ((pm - 1) * 1002) + j) (by omega) (by decide) dX10_record_78 (fun H locs hP hD hS => ?_)
    have hP : va_P (dC, dI) vwCl [(h0, .inr (10, [.ref zq, .ref pq, h0_kept, h0_spare, .int (nI (pm - 1)), h0_isKept, h0_text, h0_typed, h0_isUsed, h0_planBatch, h0_planUnits, h0_planCents, h0_planMany, h0_planGot, h0_planSubstitutes, h0_at, h0_fault, h0_entries, h0_entry])), (zq, .inl (cI, 1002, .inl z)), (pq, .inl (cI, 4008, .inl (upd lg (((pm - 1) * 1002) + j) (z j))))] H := hP
    have hD : va_D A [(h0, .inr (10, [.ref zq, .ref pq, h0_kept, h0_spare, .int (nI (pm - 1)), h0_isKept, h0_text, h0_typed, h0_isUsed, h0_planBatch, h0_planUnits, h0_planCents, h0_planMany, h0_planGot, h0_planSubstitutes, h0_at, h0_fault, h0_entries, h0_entry])), (zq, .inl (cI, 1002, .inl z)), (pq, .inl (cI, 4008, .inl (upd lg (((pm - 1) * 1002) + j) (z j))))] := hD
    refine lv_iinc (v := nI (j + 1)) (lv' := [(1, .int (nI (j + 1))), (0, .ref h0)]) hx hb dX10_record_79 hl (k := 0) rfl (nI_inc1 j) (by decide) rfl (fun ls hl => ?_)
    refine lv_goto (tgt := 51) hx hb dX10_record_82 (by decide) ?_
    exact ih_51 (1002 - (j + 1)) _ _ _ (show 1002 - (j + 1) < 1002 - j from by omega) ⟨(j + 1), (upd lg (((pm - 1) * 1002) + j) (z j)), ls, rfl, rfl, lv_sub hl [0, 1] rfl, hP, hD, hS, (by omega), (by rw [hlg]; exact zput_1 _ _ _ _)⟩
  refine lv_aload_n hx hb dX10_record_17 rfl (lv_at hl 1 rfl) ?_
  refine va_get (D := (dC, dI)) (ci := 10) (v := .ref pq) (C := RX10) (T := TX10) (N := 19) hx hb hts i_X10 hown hK hP 0 rfl rfl 1 (by decide) k_13 (fun _ h9 => h9) rfl dX10_record_18 ?_
  refine lv_iload_n hx hb dX10_record_21 rfl (lv_at hl 0 rfl) ?_
  refine lv_aload_n hx hb dX10_record_22 rfl (lv_at hl 1 rfl) ?_
  refine va_get (D := (dC, dI)) (ci := 10) (v := .ref pq) (C := RX10) (T := TX10) (N := 19) hx hb hts i_X10 hown hK hP 0 rfl rfl 1 (by decide) k_13 (fun _ h9 => h9) rfl dX10_record_23 ?_
  refine lv_iload_n hx hb dX10_record_26 rfl (lv_at hl 0 rfl) ?_
  refine lv_sipush (v := nI 1002) hx hb dX10_record_27 (by decide) ?_
  refine xr_iadd_n hx hb dX10_record_30 ?_
  refine xr_iald hx hb hK hP 2 0 rfl rfl (i := k + 1002) (by omega) (by decide) dX10_record_31 ?_
  refine xr_iast hx hb hK hP hD hS 2 0 rfl rfl (i := k) (by omega) (by decide) dX10_record_32 (fun H locs hP hD hS => ?_)
  have hP : va_P (dC, dI) vwCl [(h0, .inr (10, [.ref zq, .ref pq, h0_kept, h0_spare, .int (nI pm), h0_isKept, h0_text, h0_typed, h0_isUsed, h0_planBatch, h0_planUnits, h0_planCents, h0_planMany, h0_planGot, h0_planSubstitutes, h0_at, h0_fault, h0_entries, h0_entry])), (zq, .inl (cI, 1002, .inl z)), (pq, .inl (cI, 4008, .inl (upd lf k (lf (k + 1002)))))] H := hP
  have hD : va_D A [(h0, .inr (10, [.ref zq, .ref pq, h0_kept, h0_spare, .int (nI pm), h0_isKept, h0_text, h0_typed, h0_isUsed, h0_planBatch, h0_planUnits, h0_planCents, h0_planMany, h0_planGot, h0_planSubstitutes, h0_at, h0_fault, h0_entries, h0_entry])), (zq, .inl (cI, 1002, .inl z)), (pq, .inl (cI, 4008, .inl (upd lf k (lf (k + 1002)))))] := hD
  refine lv_iinc (v := nI (k + 1)) (lv' := [(1, .int (nI (k + 1))), (0, .ref h0)]) hx hb dX10_record_33 hl (k := 0) rfl (nI_inc1 k) (by decide) rfl (fun ls hl => ?_)
  refine lv_goto (tgt := 10) hx hb dX10_record_36 (by decide) ?_
  exact ih_10 (3006 - (k + 1)) _ _ _ (show 3006 - (k + 1) < 3006 - k from by omega) ⟨(k + 1), (upd lf k (lf (k + 1002))), ls, rfl, rfl, lv_sub hl [0, 1] rfl, hP, hD, hS, (by omega), (by rw [hlf]; exact zmv_1 _ _)⟩
