def zprice (z : Nat → Int32) (b : Nat) : UInt32 := xprice (zG z (zB z b 0).toNatClampNeg 0) (xf1 (z (958 + zstg z b)))
theorem zprice_mag {z : Nat → Int32} (hmk : ∀ j, j < 4 → (z (958 + j)).toNatClampNeg ≤ 1120403456 ∧ z (958 + j) = nI (z (958 + j)).toNatClampNeg) (b : Nat) : (zprice z b).toNat % 2 ^ 31 < 170 * 2 ^ 23 := by
  have h := hmk (zstg z b) (xreach_lt _ _ _ _ _)
  unfold zprice
  rw [h.2]
  exact xprice_mag h.1 _
abbrev zsooner (z : Nat → Int32) (b f : Nat) : Prop := if z 4 = nI 2 then Op.cmpValue (FP.fcmp (zprice z b) (zprice z f)) .g < 0 else if z 4 = 0 then zB z b 2 - zB z f 2 < 0 else 0 < zB z b 2 - zB z f 2
abbrev zopen (z us : Nat → Int32) (le w : Int32) (b : Nat) : Prop := us b = 0 ∧ zB z b 0 = w ∧ ¬ zB z b 3 ≤ 0 ∧ ¬ zB z b 2 < le
def zon (o : Option Nat) : Int32 := match o with
  | none => -5
  | some b => nI b
def zcents (z : Nat → Int32) (b : Nat) (un : Int32) (gk : Nat) : Int32 := FP.f2i (FP.fmul (FP.i2f un) (xcharge (zG z gk 0) (zG z (zB z b 0).toNatClampNeg 0) (zprice z b)))
theorem hdV_X10_priceOf : yX10_priceOf.cls = RX10 ∧ yX10_priceOf.cls ≠ "java/lang/invoke/MethodHandle" ∧ yX10_priceOf.cls ≠ "java/lang/invoke/VarHandle" ∧ (parseMethodDescriptor yX10_priceOf.desc).map (fun d => d.parameters.length) = some 1 := by decide +kernel
set_option maxHeartbeats 4000000 in
set_option maxRecDepth 100000 in
theorem c_X10_priceOf (l : Launch) (dC : Nat → ClassId) (dI : Nat → Nat → Nat) (cI cF cC cZ cQ cS : ClassId) (h0 : Nat) (zq : Nat) (h0_past : Value) (h0_kept : Value) (h0_spare : Value) (h0_pastMany : Value) (h0_isKept : Value) (h0_text : Value) (h0_typed : Value) (h0_isUsed : Value) (h0_planBatch : Value) (h0_planUnits : Value) (h0_planCents : Value) (h0_planMany : Value) (h0_planGot : Value) (h0_planSubstitutes : Value) (h0_at : Value) (h0_fault : Value) (h0_entries : Value) (h0_entry : Value) (z : Nat → Int32) (bt : Nat) (hbt : bt < 40) (hg0 : (zB z bt 0).toNatClampNeg < 12 ∧ zB z bt 0 = nI (zB z bt 0).toNatClampNeg) (hmk : ∀ j, j < 4 → (z (958 + j)).toNatClampNeg ≤ 1120403456 ∧ z (958 + j) = nI (z (958 + j)).toNatClampNeg) : Met l yX10_priceOf wsX10_priceOf ({ frames := 2, cells := 0, slots := 0, locals := 45 }) (xPre (dC, dI) vwCl [.ref h0, .int (nI bt)] (xtys cI cF cC cZ cQ cS) [(h0, .inr (10, [.ref zq, h0_past, h0_kept, h0_spare, h0_pastMany, h0_isKept, h0_text, h0_typed, h0_isUsed, h0_planBatch, h0_planUnits, h0_planCents, h0_planMany, h0_planGot, h0_planSubstitutes, h0_at, h0_fault, h0_entries, h0_entry])), (zq, .inl (cI, 1002, .inl z))]) (vp_Sf (fun r0 => r0 = zprice z bt)) 0 0 (fun _ => False) := by
  refine Met.ofW (cc := cX10_priceOf) (maxL := 6) (ret := (some .float)) (by decide) rfl ?_
  intro p e s m args below meth c s₁ B hml hv
  obtain ⟨rfl, hP, hK, hD0, hN⟩ := hv
  have hx := B.exec
  have hb := B.bytes
  have hr := B.returns
  have hts := atoms_spec (ws := wsX10_priceOf) B.pre
  have hown : s.vm.findClass RX10 = some m.cls := findClass_of_methodNamed B.named
  have hlocks := B.notSynchronized
  have k_7 := hts (Cond.fieldLink RX10 7 "ShelfStagesModel" "z" "[I") (by decide +kernel)
  have kf_86 := hts (Cond.constantFloat RX10 86 (1120403456)) (by decide +kernel)
  have i_X10 : ∀ w ∈ wsX100, w ∈ wsX10_priceOf := by decide +kernel
  have hD := hD0
  have hl := lv_entry ([.ref h0, .int (nI bt)]) (n := 6) (Nat.le_of_ble_eq_true rfl)
  rw [lg_entry_eq]
  generalize (lg_sl ([.ref h0, .int (nI bt)]) ++ List.replicate (6 - (lg_sl ([.ref h0, .int (nI bt)])).length) Slot.unset).toArray = ls at hl ⊢
  have hl : lv_has ls 6 [(0, .ref h0), (1, .int (nI bt))] := hl
  refine lv_aload_n hx hb dX10_priceOf_0 rfl (lv_at hl 0 rfl) ?_
  refine va_get (D := (dC, dI)) (ci := 10) (v := .ref zq) (C := RX10) (T := TX10) (N := 19) hx hb hts i_X10 hown hK hP 0 rfl rfl 0 (by decide) k_7 (fun _ h9 => h9) rfl dX10_priceOf_1 ?_
  have hst4 : zstg z bt < 4 := xreach_lt _ _ _ _ _
  refine lv_sipush (v := nI 958) hx hb dX10_priceOf_4 (by decide) ?_
  refine lv_aload_n hx hb dX10_priceOf_7 rfl (lv_at hl 0 rfl) ?_
  refine lv_iload_n hx hb dX10_priceOf_8 rfl (lv_at hl 1 rfl) ?_
  refine xkRi (xV (As := [.int (nI bt)]) (rest := [.int (nI 958), .ref zq]) (wc := [(h0, .inr (10, [.ref zq, h0_past, h0_kept, h0_spare, h0_pastMany, h0_isKept, h0_text, h0_typed, h0_isUsed, h0_planBatch, h0_planUnits, h0_planCents, h0_planMany, h0_planGot, h0_planSubstitutes, h0_at, h0_fault, h0_entries, h0_entry])), (zq, .inl (cI, 1002, .inl z))]) hx hb hml hown hts (c_X10_stageOfBatch l dC dI cI cF cC cZ cQ cS h0 zq h0_past h0_kept h0_spare h0_pastMany h0_isKept h0_text h0_typed h0_isUsed h0_planBatch h0_planUnits h0_planCents h0_planMany h0_planGot h0_planSubstitutes h0_at h0_fault h0_entries h0_entry z bt (by omega) hg0) 1 gX10_priceOf_X10_stageOfBatch rfl rfl rfl hdV_X10_stageOfBatch ⟨Nat.le_of_ble_eq_true rfl, Nat.le_of_ble_eq_true rfl⟩ hN hK hP hD [0, 1] rfl rfl 10 0 rfl rfl rfl hl.1 rfl (Nat.le_of_ble_eq_true rfl) dX10_priceOf_9 ⟨Nat.zero_le _, Nat.zero_le _⟩) (fun r_1 hr_1 => ?_)
  obtain rfl : r_1 = nI (zstg z bt) := hr_1
  refine xr_iadd_n hx hb dX10_priceOf_12 ?_
  refine xr_iald hx hb hK hP 1 0 rfl rfl (i := 958 + (zstg z bt)) (by omega) (by decide) dX10_priceOf_13 ?_
  refine xr_top (show z (958 + (zstg z bt)) = nI ((z (958 + zstg z bt)).toNatClampNeg) from (hmk _ hst4).2) ?_
  have hmd9 := xmd_bits (hmk _ hst4).1
  rw [← (hmk _ hst4).2] at hmd9
  refine xkRf (xSs (Ws' := ([] : List Cond)) (As := [.int (nI ((z (958 + zstg z bt)).toNatClampNeg))]) (rest := []) (wc := []) hx hb hml hown hts (c_X10_floatOf l dC dI cI cF cC cZ cQ cS ((z (958 + zstg z bt)).toNatClampNeg) (hmk _ hst4).1) 1 (fun hR => va_cwS 1 hts gX10_priceOf_X10_floatOf rfl rfl rfl hdN_X10_floatOf hR) ⟨Nat.le_of_ble_eq_true rfl, Nat.le_of_ble_eq_true rfl⟩ hN hK hP hD [] rfl rfl rfl hl.1 rfl (Nat.le_of_ble_eq_true rfl) dX10_priceOf_14 ⟨Nat.zero_le _, Nat.zero_le _⟩) (fun r_2 hr_2 => ?_)
  obtain rfl : r_2 = xf1 (nI ((z (958 + zstg z bt)).toNatClampNeg)) := hr_2
  refine xr_topf (show xf1 (nI ((z (958 + zstg z bt)).toNatClampNeg)) = xf1 (z (958 + zstg z bt)) from (by rw [← (hmk _ hst4).2])) ?_
  refine lv_fstore_n (lv' := [(2, .float (xf1 (z (958 + zstg z bt)))), (0, .ref h0), (1, .int (nI bt))]) hx hb dX10_priceOf_17 rfl hl (by decide) rfl (fun ls hl => ?_)
  refine lv_fload_n hx hb dX10_priceOf_18 rfl (lv_at hl 0 rfl) ?_
  refine lv_ldcf hx hb hown kf_86 dX10_priceOf_19 ?_
  refine lv_fdiv hx hb dX10_priceOf_21 hmd9.1 ?_
  refine lv_fstore_n (lv' := [(3, .float (FP.fdiv (xf1 (z (958 + zstg z bt))) 1120403456)), (2, .float (xf1 (z (958 + zstg z bt)))), (0, .ref h0), (1, .int (nI bt))]) hx hb dX10_priceOf_22 rfl hl (by decide) rfl (fun ls hl => ?_)
  refine lv_fconst1 hx hb dX10_priceOf_23 ?_
  refine lv_fload_n hx hb dX10_priceOf_24 rfl (lv_at hl 0 rfl) ?_
  refine lv_fsub hx hb dX10_priceOf_25 hmd9.2.1 ?_
  refine lv_fstore (lv' := [(4, .float (FP.fsub FP.fconst1 (FP.fdiv (xf1 (z (958 + zstg z bt))) 1120403456))), (3, .float (FP.fdiv (xf1 (z (958 + zstg z bt))) 1120403456)), (2, .float (xf1 (z (958 + zstg z bt)))), (0, .ref h0), (1, .int (nI bt))]) hx hb dX10_priceOf_26 hl (by decide) rfl (fun ls hl => ?_)
  refine lv_aload_n hx hb dX10_priceOf_28 rfl (lv_at hl 3 rfl) ?_
  refine lv_aload_n hx hb dX10_priceOf_29 rfl (lv_at hl 3 rfl) ?_
  refine lv_iload_n hx hb dX10_priceOf_30 rfl (lv_at hl 4 rfl) ?_
  refine lv_iconst (v := nI 0) hx hb dX10_priceOf_31 (by decide) ?_
  refine xkRi (xV (As := [.int (nI bt), .int (nI 0)]) (rest := [.ref h0]) (wc := [(h0, .inr (10, [.ref zq, h0_past, h0_kept, h0_spare, h0_pastMany, h0_isKept, h0_text, h0_typed, h0_isUsed, h0_planBatch, h0_planUnits, h0_planCents, h0_planMany, h0_planGot, h0_planSubstitutes, h0_at, h0_fault, h0_entries, h0_entry])), (zq, .inl (cI, 1002, .inl z))]) hx hb hml hown hts (c_X10_ofBatch l dC dI cI cF cC cZ cQ cS h0 zq h0_past h0_kept h0_spare h0_pastMany h0_isKept h0_text h0_typed h0_isUsed h0_planBatch h0_planUnits h0_planCents h0_planMany h0_planGot h0_planSubstitutes h0_at h0_fault h0_entries h0_entry z bt 0 (by omega) (by omega)) 2 gX10_priceOf_X10_ofBatch rfl rfl rfl hdV_X10_ofBatch ⟨Nat.le_of_ble_eq_true rfl, Nat.le_of_ble_eq_true rfl⟩ hN hK hP hD [0, 1] rfl rfl 10 0 rfl rfl rfl hl.1 rfl (Nat.le_of_ble_eq_true rfl) dX10_priceOf_32 ⟨Nat.zero_le _, Nat.zero_le _⟩) (fun r_3 hr_3 => ?_)
  obtain rfl : r_3 = zB z bt 0 := hr_3
  refine xr_top (show zB z bt 0 = nI ((zB z bt 0).toNatClampNeg) from hg0.2) ?_
  refine lv_iconst (v := nI 0) hx hb dX10_priceOf_35 (by decide) ?_
  refine xkRi (xV (As := [.int (nI ((zB z bt 0).toNatClampNeg)), .int (nI 0)]) (rest := []) (wc := [(h0, .inr (10, [.ref zq, h0_past, h0_kept, h0_spare, h0_pastMany, h0_isKept, h0_text, h0_typed, h0_isUsed, h0_planBatch, h0_planUnits, h0_planCents, h0_planMany, h0_planGot, h0_planSubstitutes, h0_at, h0_fault, h0_entries, h0_entry])), (zq, .inl (cI, 1002, .inl z))]) hx hb hml hown hts (c_X10_ofGood l dC dI cI cF cC cZ cQ cS h0 zq h0_past h0_kept h0_spare h0_pastMany h0_isKept h0_text h0_typed h0_isUsed h0_planBatch h0_planUnits h0_planCents h0_planMany h0_planGot h0_planSubstitutes h0_at h0_fault h0_entries h0_entry z ((zB z bt 0).toNatClampNeg) 0 (by omega) (by omega)) 2 gX10_priceOf_X10_ofGood rfl rfl rfl hdV_X10_ofGood ⟨Nat.le_of_ble_eq_true rfl, Nat.le_of_ble_eq_true rfl⟩ hN hK hP hD [0, 1] rfl rfl 10 0 rfl rfl rfl hl.1 rfl (Nat.le_of_ble_eq_true rfl) dX10_priceOf_36 ⟨Nat.zero_le _, Nat.zero_le _⟩) (fun r_4 hr_4 => ?_)
  obtain rfl : r_4 = zG z ((zB z bt 0).toNatClampNeg) 0 := hr_4
  refine lv_i2f hx hb dX10_priceOf_39 ?_
  refine lv_fstore (lv' := [(5, .float (FP.i2f (zG z ((zB z bt 0).toNatClampNeg) 0))), (4, .float (FP.fsub FP.fconst1 (FP.fdiv (xf1 (z (958 + zstg z bt))) 1120403456))), (3, .float (FP.fdiv (xf1 (z (958 + zstg z bt))) 1120403456)), (2, .float (xf1 (z (958 + zstg z bt)))), (0, .ref h0), (1, .int (nI bt))]) hx hb dX10_priceOf_40 hl (by decide) rfl (fun ls hl => ?_)
  refine lv_fload hx hb dX10_priceOf_42 (lv_at hl 0 rfl) ?_
  refine lv_fload hx hb dX10_priceOf_44 (lv_at hl 1 rfl) ?_
  refine lv_fmul hx hb dX10_priceOf_46 (hmd9.2.2 _) ?_
  exact W.fret (v := FP.fmul (FP.i2f (zG z ((zB z bt 0).toNatClampNeg) 0)) (FP.fsub FP.fconst1 (FP.fdiv (xf1 (z (958 + zstg z bt))) 1120403456))) hx hb hr (fun t ht hW => ⟨_, rfl, (show FP.fmul (FP.i2f (zG z ((zB z bt 0).toNatClampNeg) 0)) (FP.fsub FP.fconst1 (FP.fdiv (xf1 (z (958 + zstg z bt))) 1120403456)) = zprice z bt from rfl), ht⟩) (fun q h => by cases h) dX10_priceOf_47
theorem hdV_X10_isSooner : yX10_isSooner.cls = RX10 ∧ yX10_isSooner.cls ≠ "java/lang/invoke/MethodHandle" ∧ yX10_isSooner.cls ≠ "java/lang/invoke/VarHandle" ∧ (parseMethodDescriptor yX10_isSooner.desc).map (fun d => d.parameters.length) = some 2 := by decide +kernel
set_option maxHeartbeats 4000000 in
set_option maxRecDepth 100000 in
theorem c_X10_isSooner (l : Launch) (dC : Nat → ClassId) (dI : Nat → Nat → Nat) (cI cF cC cZ cQ cS : ClassId) (h0 : Nat) (zq : Nat) (h0_past : Value) (h0_kept : Value) (h0_spare : Value) (h0_pastMany : Value) (h0_isKept : Value) (h0_text : Value) (h0_typed : Value) (h0_isUsed : Value) (h0_planBatch : Value) (h0_planUnits : Value) (h0_planCents : Value) (h0_planMany : Value) (h0_planGot : Value) (h0_planSubstitutes : Value) (h0_at : Value) (h0_fault : Value) (h0_entries : Value) (h0_entry : Value) (z : Nat → Int32) (bq : Nat) (fq : Nat) (hbq : bq < 40) (hfq : fq < 40) (hg_bq : (zB z bq 0).toNatClampNeg < 12 ∧ zB z bq 0 = nI (zB z bq 0).toNatClampNeg) (hg_fq : (zB z fq 0).toNatClampNeg < 12 ∧ zB z fq 0 = nI (zB z fq 0).toNatClampNeg) (hmk : ∀ j, j < 4 → (z (958 + j)).toNatClampNeg ≤ 1120403456 ∧ z (958 + j) = nI (z (958 + j)).toNatClampNeg) : Met l yX10_isSooner wsX10_isSooner ({ frames := 3, cells := 0, slots := 0, locals := 70 }) (xPre (dC, dI) vwCl [.ref h0, .int (nI bq), .int (nI fq)] (xtys cI cF cC cZ cQ cS) [(h0, .inr (10, [.ref zq, h0_past, h0_kept, h0_spare, h0_pastMany, h0_isKept, h0_text, h0_typed, h0_isUsed, h0_planBatch, h0_planUnits, h0_planCents, h0_planMany, h0_planGot, h0_planSubstitutes, h0_at, h0_fault, h0_entries, h0_entry])), (zq, .inl (cI, 1002, .inl z))]) (vp_Si (fun r0 => r0 = (if zsooner z bq fq then nI 1 else nI 0))) 0 0 (fun _ => False) := by
  refine Met.ofW (cc := cX10_isSooner) (maxL := 4) (ret := (some .boolean)) (by decide) rfl ?_
  intro p e s m args below meth c s₁ B hml hv
  obtain ⟨rfl, hP, hK, hD0, hN⟩ := hv
  have hx := B.exec
  have hb := B.bytes
  have hr := B.returns
  have hts := atoms_spec (ws := wsX10_isSooner) B.pre
  have hown : s.vm.findClass RX10 = some m.cls := findClass_of_methodNamed B.named
  have hlocks := B.notSynchronized
  have k_7 := hts (Cond.fieldLink RX10 7 "ShelfStagesModel" "z" "[I") (by decide +kernel)
  have i_X10 : ∀ w ∈ wsX100, w ∈ wsX10_isSooner := by decide +kernel
  have hD := hD0
  have hl := lv_entry ([.ref h0, .int (nI bq), .int (nI fq)]) (n := 4) (Nat.le_of_ble_eq_true rfl)
  rw [lg_entry_eq]
  generalize (lg_sl ([.ref h0, .int (nI bq), .int (nI fq)]) ++ List.replicate (4 - (lg_sl ([.ref h0, .int (nI bq), .int (nI fq)])).length) Slot.unset).toArray = ls at hl ⊢
  have hl : lv_has ls 4 [(0, .ref h0), (1, .int (nI bq)), (2, .int (nI fq))] := hl
  refine lv_aload_n hx hb dX10_isSooner_0 rfl (lv_at hl 0 rfl) ?_
  refine va_get (D := (dC, dI)) (ci := 10) (v := .ref zq) (C := RX10) (T := TX10) (N := 19) hx hb hts i_X10 hown hK hP 0 rfl rfl 0 (by decide) k_7 (fun _ h9 => h9) rfl dX10_isSooner_1 ?_
  refine lv_iconst (v := nI 4) hx hb dX10_isSooner_4 (by decide) ?_
  refine xr_iald hx hb hK hP 1 0 rfl rfl (i := 4) (by omega) (by decide) dX10_isSooner_5 ?_
  refine lv_iconst (v := nI 2) hx hb dX10_isSooner_6 (by decide) ?_
  refine lv_icmp_ne (tgt := 30) hx hb dX10_isSooner_7 (by decide) (fun c_1 => ?_) (fun c_1 => ?_)
  · skip
    refine lv_aload_n hx hb dX10_isSooner_30 rfl (lv_at hl 0 rfl) ?_
    refine lv_iload_n hx hb dX10_isSooner_31 rfl (lv_at hl 1 rfl) ?_
    refine lv_iconst (v := nI 2) hx hb dX10_isSooner_32 (by decide) ?_
    refine xkRi (xV (As := [.int (nI bq), .int (nI 2)]) (rest := []) (wc := [(h0, .inr (10, [.ref zq, h0_past, h0_kept, h0_spare, h0_pastMany, h0_isKept, h0_text, h0_typed, h0_isUsed, h0_planBatch, h0_planUnits, h0_planCents, h0_planMany, h0_planGot, h0_planSubstitutes, h0_at, h0_fault, h0_entries, h0_entry])), (zq, .inl (cI, 1002, .inl z))]) hx hb hml hown hts (c_X10_ofBatch l dC dI cI cF cC cZ cQ cS h0 zq h0_past h0_kept h0_spare h0_pastMany h0_isKept h0_text h0_typed h0_isUsed h0_planBatch h0_planUnits h0_planCents h0_planMany h0_planGot h0_planSubstitutes h0_at h0_fault h0_entries h0_entry z bq 2 (by omega) (by omega)) 2 gX10_isSooner_X10_ofBatch rfl rfl rfl hdV_X10_ofBatch ⟨Nat.le_of_ble_eq_true rfl, Nat.le_of_ble_eq_true rfl⟩ hN hK hP hD [0, 1] rfl rfl 10 0 rfl rfl rfl hl.1 rfl (Nat.le_of_ble_eq_true rfl) dX10_isSooner_33 ⟨Nat.zero_le _, Nat.zero_le _⟩) (fun r_2 hr_2 => ?_)
    obtain rfl : r_2 = zB z bq 2 := hr_2
    refine lv_aload_n hx hb dX10_isSooner_36 rfl (lv_at hl 0 rfl) ?_
    refine lv_iload_n hx hb dX10_isSooner_37 rfl (lv_at hl 2 rfl) ?_
    refine lv_iconst (v := nI 2) hx hb dX10_isSooner_38 (by decide) ?_
    refine xkRi (xV (As := [.int (nI fq), .int (nI 2)]) (rest := [.int (zB z bq 2)]) (wc := [(h0, .inr (10, [.ref zq, h0_past, h0_kept, h0_spare, h0_pastMany, h0_isKept, h0_text, h0_typed, h0_isUsed, h0_planBatch, h0_planUnits, h0_planCents, h0_planMany, h0_planGot, h0_planSubstitutes, h0_at, h0_fault, h0_entries, h0_entry])), (zq, .inl (cI, 1002, .inl z))]) hx hb hml hown hts (c_X10_ofBatch l dC dI cI cF cC cZ cQ cS h0 zq h0_past h0_kept h0_spare h0_pastMany h0_isKept h0_text h0_typed h0_isUsed h0_planBatch h0_planUnits h0_planCents h0_planMany h0_planGot h0_planSubstitutes h0_at h0_fault h0_entries h0_entry z fq 2 (by omega) (by omega)) 2 gX10_isSooner_X10_ofBatch rfl rfl rfl hdV_X10_ofBatch ⟨Nat.le_of_ble_eq_true rfl, Nat.le_of_ble_eq_true rfl⟩ hN hK hP hD [0, 1] rfl rfl 10 0 rfl rfl rfl hl.1 rfl (Nat.le_of_ble_eq_true rfl) dX10_isSooner_39 ⟨Nat.zero_le _, Nat.zero_le _⟩) (fun r_3 hr_3 => ?_)
    obtain rfl : r_3 = zB z fq 2 := hr_3
    refine lv_isub hx hb dX10_isSooner_42 ?_
    refine lv_istore_n (lv' := [(3, .int ((zB z bq 2) - (zB z fq 2))), (0, .ref h0), (1, .int (nI bq)), (2, .int (nI fq))]) hx hb dX10_isSooner_43 rfl hl (by decide) rfl (fun ls hl => ?_)
    refine lv_aload_n hx hb dX10_isSooner_44 rfl (lv_at hl 1 rfl) ?_
    refine va_get (D := (dC, dI)) (ci := 10) (v := .ref zq) (C := RX10) (T := TX10) (N := 19) hx hb hts i_X10 hown hK hP 0 rfl rfl 0 (by decide) k_7 (fun _ h9 => h9) rfl dX10_isSooner_45 ?_
    refine lv_iconst (v := nI 4) hx hb dX10_isSooner_48 (by decide) ?_
    refine xr_iald hx hb hK hP 1 0 rfl rfl (i := 4) (by omega) (by decide) dX10_isSooner_49 ?_
    refine lv_if_ne (tgt := 65) hx hb dX10_isSooner_50 (by decide) (fun c_4 => ?_) (fun c_4 => ?_)
    · skip
      refine lv_iload_n hx hb dX10_isSooner_65 rfl (lv_at hl 0 rfl) ?_
      refine lv_if_le (tgt := 73) hx hb dX10_isSooner_66 (by decide) (fun c_5 => ?_) (fun c_5 => ?_)
      · skip
        refine lv_iconst (v := nI 0) hx hb dX10_isSooner_73 (by decide) ?_
        exact W.zret (v := nI 0) hx hb hr rfl (fun t ht hW => ⟨_, rfl, (show nI 0 = (if zsooner z bq fq then nI 1 else nI 0) from (by unfold zsooner; rw [if_neg]; rw [if_neg c_1, if_neg c_4]; exact Int32.not_lt.mpr c_5)), ht⟩) (fun q h => by cases h) dX10_isSooner_74
      refine lv_iconst (v := nI 1) hx hb dX10_isSooner_69 (by decide) ?_
      refine lv_goto (tgt := 74) hx hb dX10_isSooner_70 (by decide) ?_
      exact W.zret (v := nI 1) hx hb hr rfl (fun t ht hW => ⟨_, rfl, (show nI 1 = (if zsooner z bq fq then nI 1 else nI 0) from (by unfold zsooner; rw [if_pos]; rw [if_neg c_1, if_neg c_4]; exact Int32.not_le.mp c_5)), ht⟩) (fun q h => by cases h) dX10_isSooner_74
    refine lv_iload_n hx hb dX10_isSooner_53 rfl (lv_at hl 0 rfl) ?_
    refine lv_if_ge (tgt := 61) hx hb dX10_isSooner_54 (by decide) (fun c_6 => ?_) (fun c_6 => ?_)
    · skip
      refine lv_iconst (v := nI 0) hx hb dX10_isSooner_61 (by decide) ?_
      refine lv_goto (tgt := 74) hx hb dX10_isSooner_62 (by decide) ?_
      exact W.zret (v := nI 0) hx hb hr rfl (fun t ht hW => ⟨_, rfl, (show nI 0 = (if zsooner z bq fq then nI 1 else nI 0) from (by unfold zsooner; rw [if_neg]; rw [if_neg c_1, if_pos c_4]; exact Int32.not_lt.mpr c_6)), ht⟩) (fun q h => by cases h) dX10_isSooner_74
    refine lv_iconst (v := nI 1) hx hb dX10_isSooner_57 (by decide) ?_
    refine lv_goto (tgt := 74) hx hb dX10_isSooner_58 (by decide) ?_
    exact W.zret (v := nI 1) hx hb hr rfl (fun t ht hW => ⟨_, rfl, (show nI 1 = (if zsooner z bq fq then nI 1 else nI 0) from (by unfold zsooner; rw [if_pos]; rw [if_neg c_1, if_pos c_4]; exact Int32.not_le.mp c_6)), ht⟩) (fun q h => by cases h) dX10_isSooner_74
  refine lv_aload_n hx hb dX10_isSooner_10 rfl (lv_at hl 0 rfl) ?_
  refine lv_iload_n hx hb dX10_isSooner_11 rfl (lv_at hl 1 rfl) ?_
  refine xkRf (xV (As := [.int (nI bq)]) (rest := []) (wc := [(h0, .inr (10, [.ref zq, h0_past, h0_kept, h0_spare, h0_pastMany, h0_isKept, h0_text, h0_typed, h0_isUsed, h0_planBatch, h0_planUnits, h0_planCents, h0_planMany, h0_planGot, h0_planSubstitutes, h0_at, h0_fault, h0_entries, h0_entry])), (zq, .inl (cI, 1002, .inl z))]) hx hb hml hown hts (c_X10_priceOf l dC dI cI cF cC cZ cQ cS h0 zq h0_past h0_kept h0_spare h0_pastMany h0_isKept h0_text h0_typed h0_isUsed h0_planBatch h0_planUnits h0_planCents h0_planMany h0_planGot h0_planSubstitutes h0_at h0_fault h0_entries h0_entry z bq (by omega) hg_bq hmk) 1 gX10_isSooner_X10_priceOf rfl rfl rfl hdV_X10_priceOf ⟨Nat.le_of_ble_eq_true rfl, Nat.le_of_ble_eq_true rfl⟩ hN hK hP hD [0, 1] rfl rfl 10 0 rfl rfl rfl hl.1 rfl (Nat.le_of_ble_eq_true rfl) dX10_isSooner_12 ⟨Nat.zero_le _, Nat.zero_le _⟩) (fun r_7 hr_7 => ?_)
  obtain rfl : r_7 = zprice z bq := hr_7
  refine lv_aload_n hx hb dX10_isSooner_15 rfl (lv_at hl 0 rfl) ?_
  refine lv_iload_n hx hb dX10_isSooner_16 rfl (lv_at hl 2 rfl) ?_
  refine xkRf (xV (As := [.int (nI fq)]) (rest := [.float (zprice z bq)]) (wc := [(h0, .inr (10, [.ref zq, h0_past, h0_kept, h0_spare, h0_pastMany, h0_isKept, h0_text, h0_typed, h0_isUsed, h0_planBatch, h0_planUnits, h0_planCents, h0_planMany, h0_planGot, h0_planSubstitutes, h0_at, h0_fault, h0_entries, h0_entry])), (zq, .inl (cI, 1002, .inl z))]) hx hb hml hown hts (c_X10_priceOf l dC dI cI cF cC cZ cQ cS h0 zq h0_past h0_kept h0_spare h0_pastMany h0_isKept h0_text h0_typed h0_isUsed h0_planBatch h0_planUnits h0_planCents h0_planMany h0_planGot h0_planSubstitutes h0_at h0_fault h0_entries h0_entry z fq (by omega) hg_fq hmk) 1 gX10_isSooner_X10_priceOf rfl rfl rfl hdV_X10_priceOf ⟨Nat.le_of_ble_eq_true rfl, Nat.le_of_ble_eq_true rfl⟩ hN hK hP hD [0, 1] rfl rfl 10 0 rfl rfl rfl hl.1 rfl (Nat.le_of_ble_eq_true rfl) dX10_isSooner_17 ⟨Nat.zero_le _, Nat.zero_le _⟩) (fun r_8 hr_8 => ?_)
  obtain rfl : r_8 = zprice z fq := hr_8
  refine lv_fcmp hx hb dX10_isSooner_20 ?_
  refine lv_if_ge (tgt := 28) hx hb dX10_isSooner_21 (by decide) (fun c_9 => ?_) (fun c_9 => ?_)
  · skip
    refine lv_iconst (v := nI 0) hx hb dX10_isSooner_28 (by decide) ?_
    exact W.zret (v := nI 0) hx hb hr rfl (fun t ht hW => ⟨_, rfl, (show nI 0 = (if zsooner z bq fq then nI 1 else nI 0) from (by unfold zsooner; rw [if_neg]; rw [if_pos c_1]; exact Int32.not_lt.mpr c_9)), ht⟩) (fun q h => by cases h) dX10_isSooner_29
  refine lv_iconst (v := nI 1) hx hb dX10_isSooner_24 (by decide) ?_
  refine lv_goto (tgt := 29) hx hb dX10_isSooner_25 (by decide) ?_
  exact W.zret (v := nI 1) hx hb hr rfl (fun t ht hW => ⟨_, rfl, (show nI 1 = (if zsooner z bq fq then nI 1 else nI 0) from (by unfold zsooner; rw [if_pos]; rw [if_pos c_1]; exact Int32.not_le.mp c_9)), ht⟩) (fun q h => by cases h) dX10_isSooner_29
theorem hdV_X10_centsOf : yX10_centsOf.cls = RX10 ∧ yX10_centsOf.cls ≠ "java/lang/invoke/MethodHandle" ∧ yX10_centsOf.cls ≠ "java/lang/invoke/VarHandle" ∧ (parseMethodDescriptor yX10_centsOf.desc).map (fun d => d.parameters.length) = some 3 := by decide +kernel
set_option maxHeartbeats 4000000 in
set_option maxRecDepth 100000 in
theorem c_X10_centsOf (l : Launch) (dC : Nat → ClassId) (dI : Nat → Nat → Nat) (cI cF cC cZ cQ cS : ClassId) (h0 : Nat) (zq : Nat) (h0_past : Value) (h0_kept : Value) (h0_spare : Value) (h0_pastMany : Value) (h0_isKept : Value) (h0_text : Value) (h0_typed : Value) (h0_isUsed : Value) (h0_planBatch : Value) (h0_planUnits : Value) (h0_planCents : Value) (h0_planMany : Value) (h0_planGot : Value) (h0_planSubstitutes : Value) (h0_at : Value) (h0_fault : Value) (h0_entries : Value) (h0_entry : Value) (z : Nat → Int32) (bq : Nat) (un : Int32) (gk : Nat) (hbq : bq < 40) (hgk : gk < 12) (hg_bq : (zB z bq 0).toNatClampNeg < 12 ∧ zB z bq 0 = nI (zB z bq 0).toNatClampNeg) (hmk : ∀ j, j < 4 → (z (958 + j)).toNatClampNeg ≤ 1120403456 ∧ z (958 + j) = nI (z (958 + j)).toNatClampNeg) : Met l yX10_centsOf wsX10_centsOf ({ frames := 3, cells := 0, slots := 0, locals := 70 }) (xPre (dC, dI) vwCl [.ref h0, .int (nI bq), .int un, .int (nI gk)] (xtys cI cF cC cZ cQ cS) [(h0, .inr (10, [.ref zq, h0_past, h0_kept, h0_spare, h0_pastMany, h0_isKept, h0_text, h0_typed, h0_isUsed, h0_planBatch, h0_planUnits, h0_planCents, h0_planMany, h0_planGot, h0_planSubstitutes, h0_at, h0_fault, h0_entries, h0_entry])), (zq, .inl (cI, 1002, .inl z))]) (vp_Si (fun r0 => r0 = zcents z bq un gk)) 0 0 (fun _ => False) := by
  refine Met.ofW (cc := cX10_centsOf) (maxL := 10) (ret := (some .int)) (by decide) rfl ?_
  intro p e s m args below meth c s₁ B hml hv
  obtain ⟨rfl, hP, hK, hD0, hN⟩ := hv
  have hx := B.exec
  have hb := B.bytes
  have hr := B.returns
  have hts := atoms_spec (ws := wsX10_centsOf) B.pre
  have hown : s.vm.findClass RX10 = some m.cls := findClass_of_methodNamed B.named
  have hlocks := B.notSynchronized
  have hD := hD0
  have hl := lv_entry ([.ref h0, .int (nI bq), .int un, .int (nI gk)]) (n := 10) (Nat.le_of_ble_eq_true rfl)
  rw [lg_entry_eq]
  generalize (lg_sl ([.ref h0, .int (nI bq), .int un, .int (nI gk)]) ++ List.replicate (10 - (lg_sl ([.ref h0, .int (nI bq), .int un, .int (nI gk)])).length) Slot.unset).toArray = ls at hl ⊢
  have hl : lv_has ls 10 [(0, .ref h0), (1, .int (nI bq)), (2, .int un), (3, .int (nI gk))] := hl
  refine lv_aload_n hx hb dX10_centsOf_0 rfl (lv_at hl 0 rfl) ?_
  refine lv_iload_n hx hb dX10_centsOf_1 rfl (lv_at hl 1 rfl) ?_
  refine xkRf (xV (As := [.int (nI bq)]) (rest := []) (wc := [(h0, .inr (10, [.ref zq, h0_past, h0_kept, h0_spare, h0_pastMany, h0_isKept, h0_text, h0_typed, h0_isUsed, h0_planBatch, h0_planUnits, h0_planCents, h0_planMany, h0_planGot, h0_planSubstitutes, h0_at, h0_fault, h0_entries, h0_entry])), (zq, .inl (cI, 1002, .inl z))]) hx hb hml hown hts (c_X10_priceOf l dC dI cI cF cC cZ cQ cS h0 zq h0_past h0_kept h0_spare h0_pastMany h0_isKept h0_text h0_typed h0_isUsed h0_planBatch h0_planUnits h0_planCents h0_planMany h0_planGot h0_planSubstitutes h0_at h0_fault h0_entries h0_entry z bq (by omega) hg_bq hmk) 1 gX10_centsOf_X10_priceOf rfl rfl rfl hdV_X10_priceOf ⟨Nat.le_of_ble_eq_true rfl, Nat.le_of_ble_eq_true rfl⟩ hN hK hP hD [0, 1] rfl rfl 10 0 rfl rfl rfl hl.1 rfl (Nat.le_of_ble_eq_true rfl) dX10_centsOf_2 ⟨Nat.zero_le _, Nat.zero_le _⟩) (fun r_1 hr_1 => ?_)
  obtain rfl : r_1 = zprice z bq := hr_1
  refine lv_fstore (lv' := [(4, .float (zprice z bq)), (0, .ref h0), (1, .int (nI bq)), (2, .int un), (3, .int (nI gk))]) hx hb dX10_centsOf_5 hl (by decide) rfl (fun ls hl => ?_)
  refine lv_aload_n hx hb dX10_centsOf_7 rfl (lv_at hl 1 rfl) ?_
  refine lv_aload_n hx hb dX10_centsOf_8 rfl (lv_at hl 1 rfl) ?_
  refine lv_iload_n hx hb dX10_centsOf_9 rfl (lv_at hl 2 rfl) ?_
  refine lv_iconst (v := nI 0) hx hb dX10_centsOf_10 (by decide) ?_
  refine xkRi (xV (As := [.int (nI bq), .int (nI 0)]) (rest := [.ref h0]) (wc := [(h0, .inr (10, [.ref zq, h0_past, h0_kept, h0_spare, h0_pastMany, h0_isKept, h0_text, h0_typed, h0_isUsed, h0_planBatch, h0_planUnits, h0_planCents, h0_planMany, h0_planGot, h0_planSubstitutes, h0_at, h0_fault, h0_entries, h0_entry])), (zq, .inl (cI, 1002, .inl z))]) hx hb hml hown hts (c_X10_ofBatch l dC dI cI cF cC cZ cQ cS h0 zq h0_past h0_kept h0_spare h0_pastMany h0_isKept h0_text h0_typed h0_isUsed h0_planBatch h0_planUnits h0_planCents h0_planMany h0_planGot h0_planSubstitutes h0_at h0_fault h0_entries h0_entry z bq 0 (by omega) (by omega)) 2 gX10_centsOf_X10_ofBatch rfl rfl rfl hdV_X10_ofBatch ⟨Nat.le_of_ble_eq_true rfl, Nat.le_of_ble_eq_true rfl⟩ hN hK hP hD [0, 1] rfl rfl 10 0 rfl rfl rfl hl.1 rfl (Nat.le_of_ble_eq_true rfl) dX10_centsOf_11 ⟨Nat.zero_le _, Nat.zero_le _⟩) (fun r_2 hr_2 => ?_)
  obtain rfl : r_2 = zB z bq 0 := hr_2
  refine xr_top (show zB z bq 0 = nI ((zB z bq 0).toNatClampNeg) from hg_bq.2) ?_
  refine lv_iconst (v := nI 0) hx hb dX10_centsOf_14 (by decide) ?_
  refine xkRi (xV (As := [.int (nI ((zB z bq 0).toNatClampNeg)), .int (nI 0)]) (rest := []) (wc := [(h0, .inr (10, [.ref zq, h0_past, h0_kept, h0_spare, h0_pastMany, h0_isKept, h0_text, h0_typed, h0_isUsed, h0_planBatch, h0_planUnits, h0_planCents, h0_planMany, h0_planGot, h0_planSubstitutes, h0_at, h0_fault, h0_entries, h0_entry])), (zq, .inl (cI, 1002, .inl z))]) hx hb hml hown hts (c_X10_ofGood l dC dI cI cF cC cZ cQ cS h0 zq h0_past h0_kept h0_spare h0_pastMany h0_isKept h0_text h0_typed h0_isUsed h0_planBatch h0_planUnits h0_planCents h0_planMany h0_planGot h0_planSubstitutes h0_at h0_fault h0_entries h0_entry z ((zB z bq 0).toNatClampNeg) 0 (by omega) (by omega)) 2 gX10_centsOf_X10_ofGood rfl rfl rfl hdV_X10_ofGood ⟨Nat.le_of_ble_eq_true rfl, Nat.le_of_ble_eq_true rfl⟩ hN hK hP hD [0, 1] rfl rfl 10 0 rfl rfl rfl hl.1 rfl (Nat.le_of_ble_eq_true rfl) dX10_centsOf_15 ⟨Nat.zero_le _, Nat.zero_le _⟩) (fun r_3 hr_3 => ?_)
  obtain rfl : r_3 = zG z ((zB z bq 0).toNatClampNeg) 0 := hr_3
  refine lv_istore (lv' := [(5, .int (zG z ((zB z bq 0).toNatClampNeg) 0)), (4, .float (zprice z bq)), (0, .ref h0), (1, .int (nI bq)), (2, .int un), (3, .int (nI gk))]) hx hb dX10_centsOf_18 hl (by decide) rfl (fun ls hl => ?_)
  refine lv_aload_n hx hb dX10_centsOf_20 rfl (lv_at hl 2 rfl) ?_
  refine lv_iload_n hx hb dX10_centsOf_21 rfl (lv_at hl 5 rfl) ?_
  refine lv_iconst (v := nI 0) hx hb dX10_centsOf_22 (by decide) ?_
  refine xkRi (xV (As := [.int (nI gk), .int (nI 0)]) (rest := []) (wc := [(h0, .inr (10, [.ref zq, h0_past, h0_kept, h0_spare, h0_pastMany, h0_isKept, h0_text, h0_typed, h0_isUsed, h0_planBatch, h0_planUnits, h0_planCents, h0_planMany, h0_planGot, h0_planSubstitutes, h0_at, h0_fault, h0_entries, h0_entry])), (zq, .inl (cI, 1002, .inl z))]) hx hb hml hown hts (c_X10_ofGood l dC dI cI cF cC cZ cQ cS h0 zq h0_past h0_kept h0_spare h0_pastMany h0_isKept h0_text h0_typed h0_isUsed h0_planBatch h0_planUnits h0_planCents h0_planMany h0_planGot h0_planSubstitutes h0_at h0_fault h0_entries h0_entry z gk 0 (by omega) (by omega)) 2 gX10_centsOf_X10_ofGood rfl rfl rfl hdV_X10_ofGood ⟨Nat.le_of_ble_eq_true rfl, Nat.le_of_ble_eq_true rfl⟩ hN hK hP hD [0, 1] rfl rfl 10 0 rfl rfl rfl hl.1 rfl (Nat.le_of_ble_eq_true rfl) dX10_centsOf_23 ⟨Nat.zero_le _, Nat.zero_le _⟩) (fun r_4 hr_4 => ?_)
  obtain rfl : r_4 = zG z gk 0 := hr_4
  refine lv_istore (lv' := [(6, .int (zG z gk 0)), (5, .int (zG z ((zB z bq 0).toNatClampNeg) 0)), (4, .float (zprice z bq)), (0, .ref h0), (1, .int (nI bq)), (2, .int un), (3, .int (nI gk))]) hx hb dX10_centsOf_26 hl (by decide) rfl (fun ls hl => ?_)
  refine lv_iload hx hb dX10_centsOf_28 (lv_at hl 0 rfl) ?_
  refine lv_i2f hx hb dX10_centsOf_30 ?_
  refine lv_fstore (lv' := [(7, .float (FP.i2f (zG z gk 0))), (6, .int (zG z gk 0)), (5, .int (zG z ((zB z bq 0).toNatClampNeg) 0)), (4, .float (zprice z bq)), (0, .ref h0), (1, .int (nI bq)), (2, .int un), (3, .int (nI gk))]) hx hb dX10_centsOf_31 hl (by decide) rfl (fun ls hl => ?_)
  refine xr_cut (g2 := F0 m 65 ls [.float (xcharge (zG z gk 0) (zG z (zB z bq 0).toNatClampNeg 0) (zprice z bq))]) (fun kj_5 => ?_) ?_
  · skip
    refine lv_aload_n hx hb dX10_centsOf_33 rfl (lv_at hl 4 rfl) ?_
    refine lv_iload_n hx hb dX10_centsOf_34 rfl (lv_at hl 5 rfl) ?_
    refine lv_iconst (v := nI 0) hx hb dX10_centsOf_35 (by decide) ?_
    refine xkRi (xV (As := [.int (nI bq), .int (nI 0)]) (rest := []) (wc := [(h0, .inr (10, [.ref zq, h0_past, h0_kept, h0_spare, h0_pastMany, h0_isKept, h0_text, h0_typed, h0_isUsed, h0_planBatch, h0_planUnits, h0_planCents, h0_planMany, h0_planGot, h0_planSubstitutes, h0_at, h0_fault, h0_entries, h0_entry])), (zq, .inl (cI, 1002, .inl z))]) hx hb hml hown hts (c_X10_ofBatch l dC dI cI cF cC cZ cQ cS h0 zq h0_past h0_kept h0_spare h0_pastMany h0_isKept h0_text h0_typed h0_isUsed h0_planBatch h0_planUnits h0_planCents h0_planMany h0_planGot h0_planSubstitutes h0_at h0_fault h0_entries h0_entry z bq 0 (by omega) (by omega)) 2 gX10_centsOf_X10_ofBatch rfl rfl rfl hdV_X10_ofBatch ⟨Nat.le_of_ble_eq_true rfl, Nat.le_of_ble_eq_true rfl⟩ hN hK hP hD [0, 1] rfl rfl 10 0 rfl rfl rfl hl.1 rfl (Nat.le_of_ble_eq_true rfl) dX10_centsOf_36 ⟨Nat.zero_le _, Nat.zero_le _⟩) (fun r_6 hr_6 => ?_)
    obtain rfl : r_6 = zB z bq 0 := hr_6
    refine lv_iload_n hx hb dX10_centsOf_39 rfl (lv_at hl 7 rfl) ?_
    refine lv_icmp_eq (tgt := 63) hx hb dX10_centsOf_40 (by decide) (fun c_7 => ?_) (fun c_7 => ?_)
    · skip
      refine lv_fload hx hb dX10_centsOf_63 (lv_at hl 3 rfl) ?_
      refine xr_topf (show zprice z bq = xcharge (zG z gk 0) (zG z (zB z bq 0).toNatClampNeg 0) (zprice z bq) from (if_neg (fun q => absurd q.1 (by rw [c_7, nI_clamp (by omega)]; exact Int32.lt_irrefl))).symm) ?_
      exact kj_5
    refine lv_iload hx hb dX10_centsOf_43 (lv_at hl 2 rfl) ?_
    refine lv_iload hx hb dX10_centsOf_45 (lv_at hl 1 rfl) ?_
    refine lv_icmp_le (tgt := 63) hx hb dX10_centsOf_47 (by decide) (fun c_8 => ?_) (fun c_8 => ?_)
    · skip
      refine lv_fload hx hb dX10_centsOf_63 (lv_at hl 3 rfl) ?_
      refine xr_topf (show zprice z bq = xcharge (zG z gk 0) (zG z (zB z bq 0).toNatClampNeg 0) (zprice z bq) from (if_neg (fun q => absurd q.1 (Int32.not_lt.mpr c_8))).symm) ?_
      exact kj_5
    refine lv_fload hx hb dX10_centsOf_50 (lv_at hl 3 rfl) ?_
    refine lv_fload hx hb dX10_centsOf_52 (lv_at hl 0 rfl) ?_
    refine lv_fcmp hx hb dX10_centsOf_54 ?_
    refine lv_if_le (tgt := 63) hx hb dX10_centsOf_55 (by decide) (fun c_9 => ?_) (fun c_9 => ?_)
    · skip
      refine lv_fload hx hb dX10_centsOf_63 (lv_at hl 3 rfl) ?_
      refine xr_topf (show zprice z bq = xcharge (zG z gk 0) (zG z (zB z bq 0).toNatClampNeg 0) (zprice z bq) from (if_neg (fun q => absurd q.2 (Int32.not_lt.mpr c_9))).symm) ?_
      exact kj_5
    refine lv_fload hx hb dX10_centsOf_58 (lv_at hl 0 rfl) ?_
    refine lv_goto (tgt := 65) hx hb dX10_centsOf_60 (by decide) ?_
    refine xr_topf (show FP.i2f (zG z gk 0) = xcharge (zG z gk 0) (zG z (zB z bq 0).toNatClampNeg 0) (zprice z bq) from (if_pos ⟨Int32.not_le.mp c_8, Int32.not_le.mp c_9⟩).symm) ?_
    exact kj_5
  refine lv_fstore (lv' := [(8, .float (xcharge (zG z gk 0) (zG z (zB z bq 0).toNatClampNeg 0) (zprice z bq))), (7, .float (FP.i2f (zG z gk 0))), (6, .int (zG z gk 0)), (5, .int (zG z ((zB z bq 0).toNatClampNeg) 0)), (4, .float (zprice z bq)), (0, .ref h0), (1, .int (nI bq)), (2, .int un), (3, .int (nI gk))]) hx hb dX10_centsOf_65 hl (by decide) rfl (fun ls hl => ?_)
  refine lv_iload_n hx hb dX10_centsOf_67 rfl (lv_at hl 7 rfl) ?_
  refine lv_i2f hx hb dX10_centsOf_68 ?_
  refine lv_fstore (lv' := [(9, .float (FP.i2f un)), (8, .float (xcharge (zG z gk 0) (zG z (zB z bq 0).toNatClampNeg 0) (zprice z bq))), (7, .float (FP.i2f (zG z gk 0))), (6, .int (zG z gk 0)), (5, .int (zG z ((zB z bq 0).toNatClampNeg) 0)), (4, .float (zprice z bq)), (0, .ref h0), (1, .int (nI bq)), (2, .int un), (3, .int (nI gk))]) hx hb dX10_centsOf_69 hl (by decide) rfl (fun ls hl => ?_)
  refine lv_fload hx hb dX10_centsOf_71 (lv_at hl 0 rfl) ?_
  refine lv_fload hx hb dX10_centsOf_73 (lv_at hl 1 rfl) ?_
  refine lv_fmul hx hb dX10_centsOf_75 (xfmul_n (xcharge_mag (zprice_mag hmk _))) ?_
  refine lv_f2i hx hb dX10_centsOf_76 ?_
  exact W.iret (v := FP.f2i (FP.fmul (FP.i2f un) (xcharge (zG z gk 0) (zG z (zB z bq 0).toNatClampNeg 0) (zprice z bq)))) hx hb hr (fun t ht hW => ⟨_, rfl, (show FP.f2i (FP.fmul (FP.i2f un) (xcharge (zG z gk 0) (zG z (zB z bq 0).toNatClampNeg 0) (zprice z bq))) = zcents z bq un gk from rfl), ht⟩) (fun q h => by cases h) dX10_centsOf_77
