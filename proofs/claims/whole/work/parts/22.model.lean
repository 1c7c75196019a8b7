theorem hdV_X10_stageOf : yX10_stageOf.cls = RX10 ∧ yX10_stageOf.cls ≠ "java/lang/invoke/MethodHandle" ∧ yX10_stageOf.cls ≠ "java/lang/invoke/VarHandle" ∧ (parseMethodDescriptor yX10_stageOf.desc).map (fun d => d.parameters.length) = some 2 := by decide +kernel
set_option maxHeartbeats 4000000 in
set_option maxRecDepth 100000 in
theorem c_X10_stageOf (l : Launch) (dC : Nat → ClassId) (dI : Nat → Nat → Nat) (cI cF cC cZ cQ cS : ClassId) (h0 : Nat) (zq : Nat) (h0_past : Value) (h0_kept : Value) (h0_spare : Value) (h0_pastMany : Value) (h0_isKept : Value) (h0_text : Value) (h0_typed : Value) (h0_isUsed : Value) (h0_planBatch : Value) (h0_planUnits : Value) (h0_planCents : Value) (h0_planMany : Value) (h0_planGot : Value) (h0_planSubstitutes : Value) (h0_at : Value) (h0_fault : Value) (h0_entries : Value) (h0_entry : Value) (z : Nat → Int32) (dl : Int32) (lf : Int32) : Met l yX10_stageOf wsX10_stageOf ({ frames := 0, cells := 0, slots := 0, locals := 0 }) (xPre (dC, dI) vwCl [.ref h0, .int dl, .int lf] (xtys cI cF cC cZ cQ cS) [(h0, .inr (10, [.ref zq, h0_past, h0_kept, h0_spare, h0_pastMany, h0_isKept, h0_text, h0_typed, h0_isUsed, h0_planBatch, h0_planUnits, h0_planCents, h0_planMany, h0_planGot, h0_planSubstitutes, h0_at, h0_fault, h0_entries, h0_entry])), (zq, .inl (cI, 1002, .inl z))]) (vp_Si (fun r0 => r0 = nI (xreach (z 955) (z 956) (z 957) dl lf))) 0 0 (fun _ => False) := by
  refine Met.ofW (cc := cX10_stageOf) (maxL := 5) (ret := (some .int)) (by decide) rfl ?_
  intro p e s m args below meth c s₁ B hml hv
  obtain ⟨rfl, hP, hK, hD0, hN⟩ := hv
  have hx := B.exec
  have hb := B.bytes
  have hr := B.returns
  have hts := atoms_spec (ws := wsX10_stageOf) B.pre
  have hown : s.vm.findClass RX10 = some m.cls := findClass_of_methodNamed B.named
  have hlocks := B.notSynchronized
  have k_7 := hts (Cond.fieldLink RX10 7 "ShelfStagesModel" "z" "[I") (by decide +kernel)
  have i_X10 : ∀ w ∈ wsX100, w ∈ wsX10_stageOf := by decide +kernel
  have hD := hD0
  have hl := lv_entry ([.ref h0, .int dl, .int lf]) (n := 5) (Nat.le_of_ble_eq_true rfl)
  rw [lg_entry_eq]
  generalize (lg_sl ([.ref h0, .int dl, .int lf]) ++ List.replicate (5 - (lg_sl ([.ref h0, .int dl, .int lf])).length) Slot.unset).toArray = ls at hl ⊢
  have hl : lv_has ls 5 [(0, .ref h0), (1, .int dl), (2, .int lf)] := hl
  refine lv_iconst (v := nI 0) hx hb dX10_stageOf_0 (by decide) ?_
  refine lv_istore_n (lv' := [(3, .int (nI 0)), (0, .ref h0), (1, .int dl), (2, .int lf)]) hx hb dX10_stageOf_1 rfl hl (by decide) rfl (fun ls hl => ?_)
  refine lv_iconst (v := nI 1) hx hb dX10_stageOf_2 (by decide) ?_
  refine lv_istore (lv' := [(4, .int (nI 1)), (3, .int (nI 0)), (0, .ref h0), (1, .int dl), (2, .int lf)]) hx hb dX10_stageOf_3 hl (by decide) rfl (fun ls hl => ?_)
  refine lv_iload hx hb dX10_stageOf_5 (lv_at hl 0 rfl) ?_
  refine lv_iconst (v := nI 4) hx hb dX10_stageOf_7 (by decide) ?_
  refine xr_ge_n (a := 1) (b := 4) (tgt := 44) hx hb (by decide) (by decide) dX10_stageOf_8 (by decide) (fun c9 => absurd c9 (by decide)) (fun _ => ?_)
  refine xr_cut (g2 := F0 m 37 ls [.int (nI (if z (954 + 1) * lf < dl * nI 100 then 0 else 1))]) (fun kj_1 => ?_) ?_
  · skip
    refine lv_iload_n hx hb dX10_stageOf_11 rfl (lv_at hl 3 rfl) ?_
    refine lv_bipush (v := nI 100) hx hb dX10_stageOf_12 (by decide) ?_
    refine lv_imul hx hb dX10_stageOf_14 ?_
    refine lv_aload_n hx hb dX10_stageOf_15 rfl (lv_at hl 2 rfl) ?_
    refine va_get (D := (dC, dI)) (ci := 10) (v := .ref zq) (C := RX10) (T := TX10) (N := 19) hx hb hts i_X10 hown hK hP 0 rfl rfl 0 (by decide) k_7 (fun _ h9 => h9) rfl dX10_stageOf_16 ?_
    refine lv_sipush (v := nI 954) hx hb dX10_stageOf_19 (by decide) ?_
    refine lv_iload hx hb dX10_stageOf_22 (lv_at hl 0 rfl) ?_
    refine xr_iadd_n hx hb dX10_stageOf_24 ?_
    refine xr_iald hx hb hK hP 1 0 rfl rfl (i := 954 + 1) (by omega) (by decide) dX10_stageOf_25 ?_
    refine lv_iload_n hx hb dX10_stageOf_26 rfl (lv_at hl 4 rfl) ?_
    refine lv_imul hx hb dX10_stageOf_27 ?_
    refine lv_icmp_gt (tgt := 36) hx hb dX10_stageOf_28 (by decide) (fun c_2 => ?_) (fun c_2 => ?_)
    · skip
      refine lv_iload_n hx hb dX10_stageOf_36 rfl (lv_at hl 1 rfl) ?_
      refine xr_top (show nI 0 = nI (if z (954 + 1) * lf < dl * nI 100 then 0 else 1) from congrArg nI (if_pos c_2).symm) ?_
      exact kj_1
    refine lv_iload hx hb dX10_stageOf_31 (lv_at hl 0 rfl) ?_
    refine lv_goto (tgt := 37) hx hb dX10_stageOf_33 (by decide) ?_
    refine xr_top (show nI 1 = nI (if z (954 + 1) * lf < dl * nI 100 then 0 else 1) from congrArg nI (if_neg c_2).symm) ?_
    exact kj_1
  refine lv_istore_n (lv' := [(3, .int (nI (if z (954 + 1) * lf < dl * nI 100 then 0 else 1))), (4, .int (nI 1)), (0, .ref h0), (1, .int dl), (2, .int lf)]) hx hb dX10_stageOf_37 rfl hl (by decide) rfl (fun ls hl => ?_)
  refine lv_iinc (v := nI 2) (lv' := [(4, .int (nI 2)), (3, .int (nI (if z (954 + 1) * lf < dl * nI 100 then 0 else 1))), (0, .ref h0), (1, .int dl), (2, .int lf)]) hx hb dX10_stageOf_38 hl (k := 1) rfl (nI_inc1 1) (by decide) rfl (fun ls hl => ?_)
  refine lv_goto (tgt := 5) hx hb dX10_stageOf_41 (by decide) ?_
  refine lv_iload hx hb dX10_stageOf_5 (lv_at hl 0 rfl) ?_
  refine lv_iconst (v := nI 4) hx hb dX10_stageOf_7 (by decide) ?_
  refine xr_ge_n (a := 2) (b := 4) (tgt := 44) hx hb (by decide) (by decide) dX10_stageOf_8 (by decide) (fun c9 => absurd c9 (by decide)) (fun _ => ?_)
  refine xr_cut (g2 := F0 m 37 ls [.int (nI (if z (954 + 2) * lf < dl * nI 100 then if z (954 + 1) * lf < dl * nI 100 then 0 else 1 else 2))]) (fun kj_3 => ?_) ?_
  · skip
    refine lv_iload_n hx hb dX10_stageOf_11 rfl (lv_at hl 3 rfl) ?_
    refine lv_bipush (v := nI 100) hx hb dX10_stageOf_12 (by decide) ?_
    refine lv_imul hx hb dX10_stageOf_14 ?_
    refine lv_aload_n hx hb dX10_stageOf_15 rfl (lv_at hl 2 rfl) ?_
    refine va_get (D := (dC, dI)) (ci := 10) (v := .ref zq) (C := RX10) (T := TX10) (N := 19) hx hb hts i_X10 hown hK hP 0 rfl rfl 0 (by decide) k_7 (fun _ h9 => h9) rfl dX10_stageOf_16 ?_
    refine lv_sipush (v := nI 954) hx hb dX10_stageOf_19 (by decide) ?_
    refine lv_iload hx hb dX10_stageOf_22 (lv_at hl 0 rfl) ?_
    refine xr_iadd_n hx hb dX10_stageOf_24 ?_
    refine xr_iald hx hb hK hP 1 0 rfl rfl (i := 954 + 2) (by omega) (by decide) dX10_stageOf_25 ?_
    refine lv_iload_n hx hb dX10_stageOf_26 rfl (lv_at hl 4 rfl) ?_
    refine lv_imul hx hb dX10_stageOf_27 ?_
    refine lv_icmp_gt (tgt := 36) hx hb dX10_stageOf_28 (by decide) (fun c_4 => ?_) (fun c_4 => ?_)
    · skip
      refine lv_iload_n hx hb dX10_stageOf_36 rfl (lv_at hl 1 rfl) ?_
      refine xr_top (show nI (if z (954 + 1) * lf < dl * nI 100 then 0 else 1) = nI (if z (954 + 2) * lf < dl * nI 100 then if z (954 + 1) * lf < dl * nI 100 then 0 else 1 else 2) from congrArg nI (if_pos c_4).symm) ?_
      exact kj_3
    refine lv_iload hx hb dX10_stageOf_31 (lv_at hl 0 rfl) ?_
    refine lv_goto (tgt := 37) hx hb dX10_stageOf_33 (by decide) ?_
    refine xr_top (show nI 2 = nI (if z (954 + 2) * lf < dl * nI 100 then if z (954 + 1) * lf < dl * nI 100 then 0 else 1 else 2) from congrArg nI (if_neg c_4).symm) ?_
    exact kj_3
  refine lv_istore_n (lv' := [(3, .int (nI (if z (954 + 2) * lf < dl * nI 100 then if z (954 + 1) * lf < dl * nI 100 then 0 else 1 else 2))), (4, .int (nI 2)), (0, .ref h0), (1, .int dl), (2, .int lf)]) hx hb dX10_stageOf_37 rfl hl (by decide) rfl (fun ls hl => ?_)
  refine lv_iinc (v := nI 3) (lv' := [(4, .int (nI 3)), (3, .int (nI (if z (954 + 2) * lf < dl * nI 100 then if z (954 + 1) * lf < dl * nI 100 then 0 else 1 else 2))), (0, .ref h0), (1, .int dl), (2, .int lf)]) hx hb dX10_stageOf_38 hl (k := 1) rfl (nI_inc1 2) (by decide) rfl (fun ls hl => ?_)
  refine lv_goto (tgt := 5) hx hb dX10_stageOf_41 (by decide) ?_
  refine lv_iload hx hb dX10_stageOf_5 (lv_at hl 0 rfl) ?_
  refine lv_iconst (v := nI 4) hx hb dX10_stageOf_7 (by decide) ?_
  refine xr_ge_n (a := 3) (b := 4) (tgt := 44) hx hb (by decide) (by decide) dX10_stageOf_8 (by decide) (fun c9 => absurd c9 (by decide)) (fun _ => ?_)
  refine xr_cut (g2 := F0 m 37 ls [.int (nI (if z (954 + 3) * lf < dl * nI 100 then if z (954 + 2) * lf < dl * nI 100 then if z (954 + 1) * lf < dl * nI 100 then 0 else 1 else 2 else 3))]) (fun kj_5 => ?_) ?_
  · skip
    refine lv_iload_n hx hb dX10_stageOf_11 rfl (lv_at hl 3 rfl) ?_
    refine lv_bipush (v := nI 100) hx hb dX10_stageOf_12 (by decide) ?_
    refine lv_imul hx hb dX10_stageOf_14 ?_
    refine lv_aload_n hx hb dX10_stageOf_15 rfl (lv_at hl 2 rfl) ?_
    refine va_get (D := (dC, dI)) (ci := 10) (v := .ref zq) (C := RX10) (T := TX10) (N := 19) hx hb hts i_X10 hown hK hP 0 rfl rfl 0 (by decide) k_7 (fun _ h9 => h9) rfl dX10_stageOf_16 ?_
    refine lv_sipush (v := nI 954) hx hb dX10_stageOf_19 (by decide) ?_
    refine lv_iload hx hb dX10_stageOf_22 (lv_at hl 0 rfl) ?_
    refine xr_iadd_n hx hb dX10_stageOf_24 ?_
    refine xr_iald hx hb hK hP 1 0 rfl rfl (i := 954 + 3) (by omega) (by decide) dX10_stageOf_25 ?_
    refine lv_iload_n hx hb dX10_stageOf_26 rfl (lv_at hl 4 rfl) ?_
    refine lv_imul hx hb dX10_stageOf_27 ?_
    refine lv_icmp_gt (tgt := 36) hx hb dX10_stageOf_28 (by decide) (fun c_6 => ?_) (fun c_6 => ?_)
    · skip
      refine lv_iload_n hx hb dX10_stageOf_36 rfl (lv_at hl 1 rfl) ?_
      refine xr_top (show nI (if z (954 + 2) * lf < dl * nI 100 then if z (954 + 1) * lf < dl * nI 100 then 0 else 1 else 2) = nI (if z (954 + 3) * lf < dl * nI 100 then if z (954 + 2) * lf < dl * nI 100 then if z (954 + 1) * lf < dl * nI 100 then 0 else 1 else 2 else 3) from congrArg nI (if_pos c_6).symm) ?_
      exact kj_5
    refine lv_iload hx hb dX10_stageOf_31 (lv_at hl 0 rfl) ?_
    refine lv_goto (tgt := 37) hx hb dX10_stageOf_33 (by decide) ?_
    refine xr_top (show nI 3 = nI (if z (954 + 3) * lf < dl * nI 100 then if z (954 + 2) * lf < dl * nI 100 then if z (954 + 1) * lf < dl * nI 100 then 0 else 1 else 2 else 3) from congrArg nI (if_neg c_6).symm) ?_
    exact kj_5
  refine lv_istore_n (lv' := [(3, .int (nI (if z (954 + 3) * lf < dl * nI 100 then if z (954 + 2) * lf < dl * nI 100 then if z (954 + 1) * lf < dl * nI 100 then 0 else 1 else 2 else 3))), (4, .int (nI 3)), (0, .ref h0), (1, .int dl), (2, .int lf)]) hx hb dX10_stageOf_37 rfl hl (by decide) rfl (fun ls hl => ?_)
  refine lv_iinc (v := nI 4) (lv' := [(4, .int (nI 4)), (3, .int (nI (if z (954 + 3) * lf < dl * nI 100 then if z (954 + 2) * lf < dl * nI 100 then if z (954 + 1) * lf < dl * nI 100 then 0 else 1 else 2 else 3))), (0, .ref h0), (1, .int dl), (2, .int lf)]) hx hb dX10_stageOf_38 hl (k := 1) rfl (nI_inc1 3) (by decide) rfl (fun ls hl => ?_)
  refine lv_goto (tgt := 5) hx hb dX10_stageOf_41 (by decide) ?_
  refine lv_iload hx hb dX10_stageOf_5 (lv_at hl 0 rfl) ?_
  refine lv_iconst (v := nI 4) hx hb dX10_stageOf_7 (by decide) ?_
  refine xr_ge_n (a := 4) (b := 4) (tgt := 44) hx hb (by decide) (by decide) dX10_stageOf_8 (by decide) (fun _ => ?_) (fun c9 => absurd c9 (by decide))
  refine lv_iload_n hx hb dX10_stageOf_44 rfl (lv_at hl 1 rfl) ?_
  exact W.iret (v := nI (if z (954 + 3) * lf < dl * nI 100 then if z (954 + 2) * lf < dl * nI 100 then if z (954 + 1) * lf < dl * nI 100 then 0 else 1 else 2 else 3)) hx hb hr (fun t ht hW => ⟨_, rfl, (show nI (if z (954 + 3) * lf < dl * nI 100 then if z (954 + 2) * lf < dl * nI 100 then if z (954 + 1) * lf < dl * nI 100 then 0 else 1 else 2 else 3) = nI (xreach (z 955) (z 956) (z 957) dl lf) from (by rfl)), ht⟩) (fun q h => by cases h) dX10_stageOf_45
theorem hdV_X10_stageOfBatch : yX10_stageOfBatch.cls = RX10 ∧ yX10_stageOfBatch.cls ≠ "java/lang/invoke/MethodHandle" ∧ yX10_stageOfBatch.cls ≠ "java/lang/invoke/VarHandle" ∧ (parseMethodDescriptor yX10_stageOfBatch.desc).map (fun d => d.parameters.length) = some 1 := by decide +kernel
set_option maxHeartbeats 4000000 in
set_option maxRecDepth 100000 in
theorem c_X10_stageOfBatch (l : Launch) (dC : Nat → ClassId) (dI : Nat → Nat → Nat) (cI cF cC cZ cQ cS : ClassId) (h0 : Nat) (zq : Nat) (h0_past : Value) (h0_kept : Value) (h0_spare : Value) (h0_pastMany : Value) (h0_isKept : Value) (h0_text : Value) (h0_typed : Value) (h0_isUsed : Value) (h0_planBatch : Value) (h0_planUnits : Value) (h0_planCents : Value) (h0_planMany : Value) (h0_planGot : Value) (h0_planSubstitutes : Value) (h0_at : Value) (h0_fault : Value) (h0_entries : Value) (h0_entry : Value) (z : Nat → Int32) (bt : Nat) (hbt : bt < 40) (hg0 : (zB z bt 0).toNatClampNeg < 12 ∧ zB z bt 0 = nI (zB z bt 0).toNatClampNeg) : Met l yX10_stageOfBatch wsX10_stageOfBatch ({ frames := 1, cells := 0, slots := 0, locals := 24 }) (xPre (dC, dI) vwCl [.ref h0, .int (nI bt)] (xtys cI cF cC cZ cQ cS) [(h0, .inr (10, [.ref zq, h0_past, h0_kept, h0_spare, h0_pastMany, h0_isKept, h0_text, h0_typed, h0_isUsed, h0_planBatch, h0_planUnits, h0_planCents, h0_planMany, h0_planGot, h0_planSubstitutes, h0_at, h0_fault, h0_entries, h0_entry])), (zq, .inl (cI, 1002, .inl z))]) (vp_Si (fun r0 => r0 = nI (zstg z bt))) 0 0 (fun _ => False) := by
  refine Met.ofW (cc := cX10_stageOfBatch) (maxL := 2) (ret := (some .int)) (by decide) rfl ?_
  intro p e s m args below meth c s₁ B hml hv
  obtain ⟨rfl, hP, hK, hD0, hN⟩ := hv
  have hx := B.exec
  have hb := B.bytes
  have hr := B.returns
  have hts := atoms_spec (ws := wsX10_stageOfBatch) B.pre
  have hown : s.vm.findClass RX10 = some m.cls := findClass_of_methodNamed B.named
  have hlocks := B.notSynchronized
  have hD := hD0
  have hl := lv_entry ([.ref h0, .int (nI bt)]) (n := 2) (Nat.le_of_ble_eq_true rfl)
  rw [lg_entry_eq]
  generalize (lg_sl ([.ref h0, .int (nI bt)]) ++ List.replicate (2 - (lg_sl ([.ref h0, .int (nI bt)])).length) Slot.unset).toArray = ls at hl ⊢
  have hl : lv_has ls 2 [(0, .ref h0), (1, .int (nI bt))] := hl
  refine lv_aload_n hx hb dX10_stageOfBatch_0 rfl (lv_at hl 0 rfl) ?_
  refine lv_aload_n hx hb dX10_stageOfBatch_1 rfl (lv_at hl 0 rfl) ?_
  refine lv_iload_n hx hb dX10_stageOfBatch_2 rfl (lv_at hl 1 rfl) ?_
  refine lv_iconst (v := nI 2) hx hb dX10_stageOfBatch_3 (by decide) ?_
  refine xkRi (xV (As := [.int (nI bt), .int (nI 2)]) (rest := [.ref h0]) (wc := [(h0, .inr (10, [.ref zq, h0_past, h0_kept, h0_spare, h0_pastMany, h0_isKept, h0_text, h0_typed, h0_isUsed, h0_planBatch, h0_planUnits, h0_planCents, h0_planMany, h0_planGot, h0_planSubstitutes, h0_at, h0_fault, h0_entries, h0_entry])), (zq, .inl (cI, 1002, .inl z))]) hx hb hml hown hts (c_X10_ofBatch l dC dI cI cF cC cZ cQ cS h0 zq h0_past h0_kept h0_spare h0_pastMany h0_isKept h0_text h0_typed h0_isUsed h0_planBatch h0_planUnits h0_planCents h0_planMany h0_planGot h0_planSubstitutes h0_at h0_fault h0_entries h0_entry z bt 2 (by omega) (by omega)) 2 gX10_stageOfBatch_X10_ofBatch rfl rfl rfl hdV_X10_ofBatch ⟨Nat.le_of_ble_eq_true rfl, Nat.le_of_ble_eq_true rfl⟩ hN hK hP hD [0, 1] rfl rfl 10 0 rfl rfl rfl hl.1 rfl (Nat.le_of_ble_eq_true rfl) dX10_stageOfBatch_4 ⟨Nat.zero_le _, Nat.zero_le _⟩) (fun r_1 hr_1 => ?_)
  obtain rfl : r_1 = zB z bt 2 := hr_1
  refine lv_aload_n hx hb dX10_stageOfBatch_7 rfl (lv_at hl 0 rfl) ?_
  refine lv_aload_n hx hb dX10_stageOfBatch_8 rfl (lv_at hl 0 rfl) ?_
  refine lv_iload_n hx hb dX10_stageOfBatch_9 rfl (lv_at hl 1 rfl) ?_
  refine lv_iconst (v := nI 0) hx hb dX10_stageOfBatch_10 (by decide) ?_
  refine xkRi (xV (As := [.int (nI bt), .int (nI 0)]) (rest := [.ref h0, .int (zB z bt 2), .ref h0]) (wc := [(h0, .inr (10, [.ref zq, h0_past, h0_kept, h0_spare, h0_pastMany, h0_isKept, h0_text, h0_typed, h0_isUsed, h0_planBatch, h0_planUnits, h0_planCents, h0_planMany, h0_planGot, h0_planSubstitutes, h0_at, h0_fault, h0_entries, h0_entry])), (zq, .inl (cI, 1002, .inl z))]) hx hb hml hown hts (c_X10_ofBatch l dC dI cI cF cC cZ cQ cS h0 zq h0_past h0_kept h0_spare h0_pastMany h0_isKept h0_text h0_typed h0_isUsed h0_planBatch h0_planUnits h0_planCents h0_planMany h0_planGot h0_planSubstitutes h0_at h0_fault h0_entries h0_entry z bt 0 (by omega) (by omega)) 2 gX10_stageOfBatch_X10_ofBatch rfl rfl rfl hdV_X10_ofBatch ⟨Nat.le_of_ble_eq_true rfl, Nat.le_of_ble_eq_true rfl⟩ hN hK hP hD [0, 1] rfl rfl 10 0 rfl rfl rfl hl.1 rfl (Nat.le_of_ble_eq_true rfl) dX10_stageOfBatch_11 ⟨Nat.zero_le _, Nat.zero_le _⟩) (fun r_2 hr_2 => ?_)
  obtain rfl : r_2 = zB z bt 0 := hr_2
  refine xr_top (show zB z bt 0 = nI ((zB z bt 0).toNatClampNeg) from hg0.2) ?_
  refine lv_iconst (v := nI 1) hx hb dX10_stageOfBatch_14 (by decide) ?_
  refine xkRi (xV (As := [.int (nI ((zB z bt 0).toNatClampNeg)), .int (nI 1)]) (rest := [.int (zB z bt 2), .ref h0]) (wc := [(h0, .inr (10, [.ref zq, h0_past, h0_kept, h0_spare, h0_pastMany, h0_isKept, h0_text, h0_typed, h0_isUsed, h0_planBatch, h0_planUnits, h0_planCents, h0_planMany, h0_planGot, h0_planSubstitutes, h0_at, h0_fault, h0_entries, h0_entry])), (zq, .inl (cI, 1002, .inl z))]) hx hb hml hown hts (c_X10_ofGood l dC dI cI cF cC cZ cQ cS h0 zq h0_past h0_kept h0_spare h0_pastMany h0_isKept h0_text h0_typed h0_isUsed h0_planBatch h0_planUnits h0_planCents h0_planMany h0_planGot h0_planSubstitutes h0_at h0_fault h0_entries h0_entry z ((zB z bt 0).toNatClampNeg) 1 (by omega) (by omega)) 2 gX10_stageOfBatch_X10_ofGood rfl rfl rfl hdV_X10_ofGood ⟨Nat.le_of_ble_eq_true rfl, Nat.le_of_ble_eq_true rfl⟩ hN hK hP hD [0, 1] rfl rfl 10 0 rfl rfl rfl hl.1 rfl (Nat.le_of_ble_eq_true rfl) dX10_stageOfBatch_15 ⟨Nat.zero_le _, Nat.zero_le _⟩) (fun r_3 hr_3 => ?_)
  obtain rfl : r_3 = zG z ((zB z bt 0).toNatClampNeg) 1 := hr_3
  refine xkRi (xV (As := [.int (zB z bt 2), .int (zG z ((zB z bt 0).toNatClampNeg) 1)]) (rest := []) (wc := [(h0, .inr (10, [.ref zq, h0_past, h0_kept, h0_spare, h0_pastMany, h0_isKept, h0_text, h0_typed, h0_isUsed, h0_planBatch, h0_planUnits, h0_planCents, h0_planMany, h0_planGot, h0_planSubstitutes, h0_at, h0_fault, h0_entries, h0_entry])), (zq, .inl (cI, 1002, .inl z))]) hx hb hml hown hts (c_X10_stageOf l dC dI cI cF cC cZ cQ cS h0 zq h0_past h0_kept h0_spare h0_pastMany h0_isKept h0_text h0_typed h0_isUsed h0_planBatch h0_planUnits h0_planCents h0_planMany h0_planGot h0_planSubstitutes h0_at h0_fault h0_entries h0_entry z (zB z bt 2) (zG z ((zB z bt 0).toNatClampNeg) 1)) 2 gX10_stageOfBatch_X10_stageOf rfl rfl rfl hdV_X10_stageOf ⟨Nat.le_of_ble_eq_true rfl, Nat.le_of_ble_eq_true rfl⟩ hN hK hP hD [0, 1] rfl rfl 10 0 rfl rfl rfl hl.1 rfl (Nat.le_of_ble_eq_true rfl) dX10_stageOfBatch_18 ⟨Nat.zero_le _, Nat.zero_le _⟩) (fun r_4 hr_4 => ?_)
  obtain rfl : r_4 = nI (xreach (z 955) (z 956) (z 957) (zB z bt 2) (zG z ((zB z bt 0).toNatClampNeg) 1)) := hr_4
  exact W.iret (v := nI (xreach (z 955) (z 956) (z 957) (zB z bt 2) (zG z ((zB z bt 0).toNatClampNeg) 1))) hx hb hr (fun t ht hW => ⟨_, rfl, (show nI (xreach (z 955) (z 956) (z 957) (zB z bt 2) (zG z ((zB z bt 0).toNatClampNeg) 1)) = nI (zstg z bt) from rfl), ht⟩) (fun q h => by cases h) dX10_stageOfBatch_21
theorem hdV_X10_putBatch : yX10_putBatch.cls = RX10 ∧ yX10_putBatch.cls ≠ "java/lang/invoke/MethodHandle" ∧ yX10_putBatch.cls ≠ "java/lang/invoke/VarHandle" ∧ (parseMethodDescriptor yX10_putBatch.desc).map (fun d => d.parameters.length) = some 3 := by decide +kernel
set_option maxHeartbeats 4000000 in
set_option maxRecDepth 100000 in
theorem c_X10_putBatch (l : Launch) (dC : Nat → ClassId) (dI : Nat → Nat → Nat) (cI cF cC cZ cQ cS : ClassId) (h0 : Nat) (zq : Nat) (h0_past : Value) (h0_kept : Value) (h0_spare : Value) (h0_pastMany : Value) (h0_isKept : Value) (h0_text : Value) (h0_typed : Value) (h0_isUsed : Value) (h0_planBatch : Value) (h0_planUnits : Value) (h0_planCents : Value) (h0_planMany : Value) (h0_planGot : Value) (h0_planSubstitutes : Value) (h0_at : Value) (h0_fault : Value) (h0_entries : Value) (h0_entry : Value) (z : Nat → Int32) (gq : Int32) (un : Int32) (dl : Int32) (bz : Nat) (hz2 : z 2 = nI bz) (hbz : bz < 40) : Met l yX10_putBatch wsX10_putBatch ({ frames := 1, cells := 0, slots := 0, locals := 24 }) (xPre (dC, dI) vwCl [.ref h0, .int gq, .int un, .int dl] (xtys cI cF cC cZ cQ cS) [(h0, .inr (10, [.ref zq, h0_past, h0_kept, h0_spare, h0_pastMany, h0_isKept, h0_text, h0_typed, h0_isUsed, h0_planBatch, h0_planUnits, h0_planCents, h0_planMany, h0_planGot, h0_planSubstitutes, h0_at, h0_fault, h0_entries, h0_entry])), (zq, .inl (cI, 1002, .inl z))]) (xWi (dC, dI) vwCl [(h0, .inr (10, [.ref zq, h0_past, h0_kept, h0_spare, h0_pastMany, h0_isKept, h0_text, h0_typed, h0_isUsed, h0_planBatch, h0_planUnits, h0_planCents, h0_planMany, h0_planGot, h0_planSubstitutes, h0_at, h0_fault, h0_entries, h0_entry])), (zq, .inl (cI, 1002, .inl z))] (fun r0 w0 => r0 = nI bz ∧ w0 = [(h0, .inr (10, [.ref zq, h0_past, h0_kept, h0_spare, h0_pastMany, h0_isKept, h0_text, h0_typed, h0_isUsed, h0_planBatch, h0_planUnits, h0_planCents, h0_planMany, h0_planGot, h0_planSubstitutes, h0_at, h0_fault, h0_entries, h0_entry])), (zq, .inl (cI, 1002, .inl (zputb z gq un dl bz)))])) 0 0 (va_B [(h0, .inr (10, [.ref zq, h0_past, h0_kept, h0_spare, h0_pastMany, h0_isKept, h0_text, h0_typed, h0_isUsed, h0_planBatch, h0_planUnits, h0_planCents, h0_planMany, h0_planGot, h0_planSubstitutes, h0_at, h0_fault, h0_entries, h0_entry])), (zq, .inl (cI, 1002, .inl z))]) := by
  refine Met.ofW (cc := cX10_putBatch) (maxL := 6) (ret := (some .int)) (by decide) rfl ?_
  intro p e s m args below meth c s₁ B hml hv
  obtain ⟨rfl, hP, hK, hD0, hN⟩ := hv
  have hx := B.exec
  have hb := B.bytes
  have hr := B.returns
  have hts := atoms_spec (ws := wsX10_putBatch) B.pre
  have hown : s.vm.findClass RX10 = some m.cls := findClass_of_methodNamed B.named
  have hlocks := B.notSynchronized
  have k_7 := hts (Cond.fieldLink RX10 7 "ShelfStagesModel" "z" "[I") (by decide +kernel)
  have i_X10 : ∀ w ∈ wsX100, w ∈ wsX10_putBatch := by decide +kernel
  obtain ⟨A, hA⟩ : ∃ A, A = va_B [(h0, .inr (10, [.ref zq, h0_past, h0_kept, h0_spare, h0_pastMany, h0_isKept, h0_text, h0_typed, h0_isUsed, h0_planBatch, h0_planUnits, h0_planCents, h0_planMany, h0_planGot, h0_planSubstitutes, h0_at, h0_fault, h0_entries, h0_entry])), (zq, .inl (cI, 1002, .inl z))] := ⟨_, rfl⟩
  have hD : va_D A [(h0, .inr (10, [.ref zq, h0_past, h0_kept, h0_spare, h0_pastMany, h0_isKept, h0_text, h0_typed, h0_isUsed, h0_planBatch, h0_planUnits, h0_planCents, h0_planMany, h0_planGot, h0_planSubstitutes, h0_at, h0_fault, h0_entries, h0_entry])), (zq, .inl (cI, 1002, .inl z))] := hA ▸ hD0.own
  have hS : va_S A s.heap s.heap [] := va_S.rf
  have hl := lv_entry ([.ref h0, .int gq, .int un, .int dl]) (n := 6) (Nat.le_of_ble_eq_true rfl)
  rw [lg_entry_eq]
  generalize (lg_sl ([.ref h0, .int gq, .int un, .int dl]) ++ List.replicate (6 - (lg_sl ([.ref h0, .int gq, .int un, .int dl])).length) Slot.unset).toArray = ls at hl ⊢
  have hl : lv_has ls 6 [(0, .ref h0), (1, .int gq), (2, .int un), (3, .int dl)] := hl
  refine lv_aload_n hx hb dX10_putBatch_0 rfl (lv_at hl 0 rfl) ?_
  refine va_get (D := (dC, dI)) (ci := 10) (v := .ref zq) (C := RX10) (T := TX10) (N := 19) hx hb hts i_X10 hown hK hP 0 rfl rfl 0 (by decide) k_7 (fun _ h9 => h9) rfl dX10_putBatch_1 ?_
  refine lv_iconst (v := nI 2) hx hb dX10_putBatch_4 (by decide) ?_
  refine xr_iald hx hb hK hP 1 0 rfl rfl (i := 2) (by omega) (by decide) dX10_putBatch_5 ?_
  refine xr_top (show z 2 = nI bz from hz2) ?_
  refine lv_istore (lv' := [(4, .int (nI bz)), (0, .ref h0), (1, .int gq), (2, .int un), (3, .int dl)]) hx hb dX10_putBatch_6 hl (by decide) rfl (fun ls hl => ?_)
  refine lv_aload_n hx hb dX10_putBatch_8 rfl (lv_at hl 1 rfl) ?_
  refine va_get (D := (dC, dI)) (ci := 10) (v := .ref zq) (C := RX10) (T := TX10) (N := 19) hx hb hts i_X10 hown hK hP 0 rfl rfl 0 (by decide) k_7 (fun _ h9 => h9) rfl dX10_putBatch_9 ?_
  refine lv_iconst (v := nI 2) hx hb dX10_putBatch_12 (by decide) ?_
  refine lv_dup2_11 hx hb dX10_putBatch_13 rfl rfl ?_
  refine xr_iald hx hb hK hP 1 0 rfl rfl (i := 2) (by omega) (by decide) dX10_putBatch_14 ?_
  refine xr_top (show z 2 = nI bz from hz2) ?_
  refine lv_iconst (v := nI 1) hx hb dX10_putBatch_15 (by decide) ?_
  refine xr_iadd_n hx hb dX10_putBatch_16 ?_
  refine xr_iast hx hb hK hP hD hS 1 0 rfl rfl (i := 2) (by omega) (by decide) dX10_putBatch_17 (fun H locs hP hD hS => ?_)
  have hP : va_P (dC, dI) vwCl [(h0, .inr (10, [.ref zq, h0_past, h0_kept, h0_spare, h0_pastMany, h0_isKept, h0_text, h0_typed, h0_isUsed, h0_planBatch, h0_planUnits, h0_planCents, h0_planMany, h0_planGot, h0_planSubstitutes, h0_at, h0_fault, h0_entries, h0_entry])), (zq, .inl (cI, 1002, .inl (upd z 2 (nI (bz + 1)))))] H := hP
  have hD : va_D A [(h0, .inr (10, [.ref zq, h0_past, h0_kept, h0_spare, h0_pastMany, h0_isKept, h0_text, h0_typed, h0_isUsed, h0_planBatch, h0_planUnits, h0_planCents, h0_planMany, h0_planGot, h0_planSubstitutes, h0_at, h0_fault, h0_entries, h0_entry])), (zq, .inl (cI, 1002, .inl (upd z 2 (nI (bz + 1)))))] := hD
  refine lv_bipush (v := nI 94) hx hb dX10_putBatch_18 (by decide) ?_
  refine lv_bipush (v := nI 10) hx hb dX10_putBatch_20 (by decide) ?_
  refine lv_iload hx hb dX10_putBatch_22 (lv_at hl 0 rfl) ?_
  refine xr_imul_n hx hb dX10_putBatch_24 ?_
  refine xr_iadd_n hx hb dX10_putBatch_25 ?_
  refine lv_istore (lv' := [(5, .int (nI (94 + (10 * bz)))), (4, .int (nI bz)), (0, .ref h0), (1, .int gq), (2, .int un), (3, .int dl)]) hx hb dX10_putBatch_26 hl (by decide) rfl (fun ls hl => ?_)
  refine lv_aload_n hx hb dX10_putBatch_28 rfl (lv_at hl 2 rfl) ?_
  refine va_get (D := (dC, dI)) (ci := 10) (v := .ref zq) (C := RX10) (T := TX10) (N := 19) hx hb hts i_X10 hown hK hP 0 rfl rfl 0 (by decide) k_7 (fun _ h9 => h9) rfl dX10_putBatch_29 ?_
  refine lv_iload hx hb dX10_putBatch_32 (lv_at hl 0 rfl) ?_
  refine lv_iconst (v := nI 0) hx hb dX10_putBatch_34 (by decide) ?_
  refine xr_iadd_n hx hb dX10_putBatch_35 ?_
  refine lv_iload_n hx hb dX10_putBatch_36 rfl (lv_at hl 3 rfl) ?_
  refine xr_iast hx hb hK hP hD hS 1 0 rfl rfl (i := (94 + (10 * bz)) + 0) (by omega) (by decide) dX10_putBatch_37 (fun H locs hP hD hS => ?_)
  have hP : va_P (dC, dI) vwCl [(h0, .inr (10, [.ref zq, h0_past, h0_kept, h0_spare, h0_pastMany, h0_isKept, h0_text, h0_typed, h0_isUsed, h0_planBatch, h0_planUnits, h0_planCents, h0_planMany, h0_planGot, h0_planSubstitutes, h0_at, h0_fault, h0_entries, h0_entry])), (zq, .inl (cI, 1002, .inl (upd (upd z 2 (nI (bz + 1))) ((94 + (10 * bz)) + 0) gq)))] H := hP
  have hD : va_D A [(h0, .inr (10, [.ref zq, h0_past, h0_kept, h0_spare, h0_pastMany, h0_isKept, h0_text, h0_typed, h0_isUsed, h0_planBatch, h0_planUnits, h0_planCents, h0_planMany, h0_planGot, h0_planSubstitutes, h0_at, h0_fault, h0_entries, h0_entry])), (zq, .inl (cI, 1002, .inl (upd (upd z 2 (nI (bz + 1))) ((94 + (10 * bz)) + 0) gq)))] := hD
  refine lv_aload_n hx hb dX10_putBatch_38 rfl (lv_at hl 2 rfl) ?_
  refine va_get (D := (dC, dI)) (ci := 10) (v := .ref zq) (C := RX10) (T := TX10) (N := 19) hx hb hts i_X10 hown hK hP 0 rfl rfl 0 (by decide) k_7 (fun _ h9 => h9) rfl dX10_putBatch_39 ?_
  refine lv_iload hx hb dX10_putBatch_42 (lv_at hl 0 rfl) ?_
  refine lv_iconst (v := nI 1) hx hb dX10_putBatch_44 (by decide) ?_
  refine xr_iadd_n hx hb dX10_putBatch_45 ?_
  refine lv_iload_n hx hb dX10_putBatch_46 rfl (lv_at hl 4 rfl) ?_
  refine xr_iast hx hb hK hP hD hS 1 0 rfl rfl (i := (94 + (10 * bz)) + 1) (by omega) (by decide) dX10_putBatch_47 (fun H locs hP hD hS => ?_)
  have hP : va_P (dC, dI) vwCl [(h0, .inr (10, [.ref zq, h0_past, h0_kept, h0_spare, h0_pastMany, h0_isKept, h0_text, h0_typed, h0_isUsed, h0_planBatch, h0_planUnits, h0_planCents, h0_planMany, h0_planGot, h0_planSubstitutes, h0_at, h0_fault, h0_entries, h0_entry])), (zq, .inl (cI, 1002, .inl (upd (upd (upd z 2 (nI (bz + 1))) ((94 + (10 * bz)) + 0) gq) ((94 + (10 * bz)) + 1) un)))] H := hP
  have hD : va_D A [(h0, .inr (10, [.ref zq, h0_past, h0_kept, h0_spare, h0_pastMany, h0_isKept, h0_text, h0_typed, h0_isUsed, h0_planBatch, h0_planUnits, h0_planCents, h0_planMany, h0_planGot, h0_planSubstitutes, h0_at, h0_fault, h0_entries, h0_entry])), (zq, .inl (cI, 1002, .inl (upd (upd (upd z 2 (nI (bz + 1))) ((94 + (10 * bz)) + 0) gq) ((94 + (10 * bz)) + 1) un)))] := hD
  refine lv_aload_n hx hb dX10_putBatch_48 rfl (lv_at hl 2 rfl) ?_
  refine va_get (D := (dC, dI)) (ci := 10) (v := .ref zq) (C := RX10) (T := TX10) (N := 19) hx hb hts i_X10 hown hK hP 0 rfl rfl 0 (by decide) k_7 (fun _ h9 => h9) rfl dX10_putBatch_49 ?_
  refine lv_iload hx hb dX10_putBatch_52 (lv_at hl 0 rfl) ?_
  refine lv_iconst (v := nI 2) hx hb dX10_putBatch_54 (by decide) ?_
  refine xr_iadd_n hx hb dX10_putBatch_55 ?_
  refine lv_iload_n hx hb dX10_putBatch_56 rfl (lv_at hl 5 rfl) ?_
  refine xr_iast hx hb hK hP hD hS 1 0 rfl rfl (i := (94 + (10 * bz)) + 2) (by omega) (by decide) dX10_putBatch_57 (fun H locs hP hD hS => ?_)
  have hP : va_P (dC, dI) vwCl [(h0, .inr (10, [.ref zq, h0_past, h0_kept, h0_spare, h0_pastMany, h0_isKept, h0_text, h0_typed, h0_isUsed, h0_planBatch, h0_planUnits, h0_planCents, h0_planMany, h0_planGot, h0_planSubstitutes, h0_at, h0_fault, h0_entries, h0_entry])), (zq, .inl (cI, 1002, .inl (upd (upd (upd (upd z 2 (nI (bz + 1))) ((94 + (10 * bz)) + 0) gq) ((94 + (10 * bz)) + 1) un) ((94 + (10 * bz)) + 2) dl)))] H := hP
  have hD : va_D A [(h0, .inr (10, [.ref zq, h0_past, h0_kept, h0_spare, h0_pastMany, h0_isKept, h0_text, h0_typed, h0_isUsed, h0_planBatch, h0_planUnits, h0_planCents, h0_planMany, h0_planGot, h0_planSubstitutes, h0_at, h0_fault, h0_entries, h0_entry])), (zq, .inl (cI, 1002, .inl (upd (upd (upd (upd z 2 (nI (bz + 1))) ((94 + (10 * bz)) + 0) gq) ((94 + (10 * bz)) + 1) un) ((94 + (10 * bz)) + 2) dl)))] := hD
  refine lv_aload_n hx hb dX10_putBatch_58 rfl (lv_at hl 2 rfl) ?_
  refine va_get (D := (dC, dI)) (ci := 10) (v := .ref zq) (C := RX10) (T := TX10) (N := 19) hx hb hts i_X10 hown hK hP 0 rfl rfl 0 (by decide) k_7 (fun _ h9 => h9) rfl dX10_putBatch_59 ?_
  refine lv_iload hx hb dX10_putBatch_62 (lv_at hl 0 rfl) ?_
  refine lv_iconst (v := nI 3) hx hb dX10_putBatch_64 (by decide) ?_
  refine xr_iadd_n hx hb dX10_putBatch_65 ?_
  refine lv_iload_n hx hb dX10_putBatch_66 rfl (lv_at hl 4 rfl) ?_
  refine xr_iast hx hb hK hP hD hS 1 0 rfl rfl (i := (94 + (10 * bz)) + 3) (by omega) (by decide) dX10_putBatch_67 (fun H locs hP hD hS => ?_)
  have hP : va_P (dC, dI) vwCl [(h0, .inr (10, [.ref zq, h0_past, h0_kept, h0_spare, h0_pastMany, h0_isKept, h0_text, h0_typed, h0_isUsed, h0_planBatch, h0_planUnits, h0_planCents, h0_planMany, h0_planGot, h0_planSubstitutes, h0_at, h0_fault, h0_entries, h0_entry])), (zq, .inl (cI, 1002, .inl (upd (upd (upd (upd (upd z 2 (nI (bz + 1))) ((94 + (10 * bz)) + 0) gq) ((94 + (10 * bz)) + 1) un) ((94 + (10 * bz)) + 2) dl) ((94 + (10 * bz)) + 3) un)))] H := hP
  have hD : va_D A [(h0, .inr (10, [.ref zq, h0_past, h0_kept, h0_spare, h0_pastMany, h0_isKept, h0_text, h0_typed, h0_isUsed, h0_planBatch, h0_planUnits, h0_planCents, h0_planMany, h0_planGot, h0_planSubstitutes, h0_at, h0_fault, h0_entries, h0_entry])), (zq, .inl (cI, 1002, .inl (upd (upd (upd (upd (upd z 2 (nI (bz + 1))) ((94 + (10 * bz)) + 0) gq) ((94 + (10 * bz)) + 1) un) ((94 + (10 * bz)) + 2) dl) ((94 + (10 * bz)) + 3) un)))] := hD
  refine lv_aload_n hx hb dX10_putBatch_68 rfl (lv_at hl 2 rfl) ?_
  refine lv_iconst (v := nI 0) hx hb dX10_putBatch_69 (by decide) ?_
  refine lv_iload hx hb dX10_putBatch_70 (lv_at hl 1 rfl) ?_
  refine lv_iload_n hx hb dX10_putBatch_72 rfl (lv_at hl 4 rfl) ?_
  refine xkV2 (xV (As := [.int (nI 0), .int (nI bz), .int un]) (rest := []) (wc := [(h0, .inr (10, [.ref zq, h0_past, h0_kept, h0_spare, h0_pastMany, h0_isKept, h0_text, h0_typed, h0_isUsed, h0_planBatch, h0_planUnits, h0_planCents, h0_planMany, h0_planGot, h0_planSubstitutes, h0_at, h0_fault, h0_entries, h0_entry])), (zq, .inl (cI, 1002, .inl (upd (upd (upd (upd (upd z 2 (nI (bz + 1))) ((94 + (10 * bz)) + 0) gq) ((94 + (10 * bz)) + 1) un) ((94 + (10 * bz)) + 2) dl) ((94 + (10 * bz)) + 3) un)))]) hx hb hml hown hts (c_X10_note l dC dI cI cF cC cZ cQ cS h0 zq h0_past h0_kept h0_spare h0_pastMany h0_isKept h0_text h0_typed h0_isUsed h0_planBatch h0_planUnits h0_planCents h0_planMany h0_planGot h0_planSubstitutes h0_at h0_fault h0_entries h0_entry (upd (upd (upd (upd (upd z 2 (nI (bz + 1))) ((94 + (10 * bz)) + 0) gq) ((94 + (10 * bz)) + 1) un) ((94 + (10 * bz)) + 2) dl) ((94 + (10 * bz)) + 3) un) (nI 0) (nI bz) un) 3 gX10_putBatch_X10_note rfl rfl rfl hdV_X10_note ⟨Nat.le_of_ble_eq_true rfl, Nat.le_of_ble_eq_true rfl⟩ hN hK hP hD [0, 1] rfl rfl 10 0 rfl rfl rfl hl.1 rfl (Nat.le_of_ble_eq_true rfl) dX10_putBatch_73 ⟨Nat.zero_le _, Nat.zero_le _⟩) hP hD hS [0, 1] [0, 1] rfl rfl 2 rfl (by decide +kernel) (fun H locs hP hD hS => ?_)
  have hP : va_P (dC, dI) vwCl [(h0, .inr (10, [.ref zq, h0_past, h0_kept, h0_spare, h0_pastMany, h0_isKept, h0_text, h0_typed, h0_isUsed, h0_planBatch, h0_planUnits, h0_planCents, h0_planMany, h0_planGot, h0_planSubstitutes, h0_at, h0_fault, h0_entries, h0_entry])), (zq, .inl (cI, 1002, .inl (znote (upd (upd (upd (upd (upd z 2 (nI (bz + 1))) ((94 + (10 * bz)) + 0) gq) ((94 + (10 * bz)) + 1) un) ((94 + (10 * bz)) + 2) dl) ((94 + (10 * bz)) + 3) un) (nI 0) (nI bz) un)))] H := hP
  have hD : va_D A [(h0, .inr (10, [.ref zq, h0_past, h0_kept, h0_spare, h0_pastMany, h0_isKept, h0_text, h0_typed, h0_isUsed, h0_planBatch, h0_planUnits, h0_planCents, h0_planMany, h0_planGot, h0_planSubstitutes, h0_at, h0_fault, h0_entries, h0_entry])), (zq, .inl (cI, 1002, .inl (znote (upd (upd (upd (upd (upd z 2 (nI (bz + 1))) ((94 + (10 * bz)) + 0) gq) ((94 + (10 * bz)) + 1) un) ((94 + (10 * bz)) + 2) dl) ((94 + (10 * bz)) + 3) un) (nI 0) (nI bz) un)))] := hD
  refine lv_iload hx hb dX10_putBatch_76 (lv_at hl 1 rfl) ?_
  have hP9 : va_P (dC, dI) vwCl [(h0, .inr (10, [.ref zq, h0_past, h0_kept, h0_spare, h0_pastMany, h0_isKept, h0_text, h0_typed, h0_isUsed, h0_planBatch, h0_planUnits, h0_planCents, h0_planMany, h0_planGot, h0_planSubstitutes, h0_at, h0_fault, h0_entries, h0_entry])), (zq, .inl (cI, 1002, .inl (zputb z gq un dl bz)))] H := hP
  have hS9 : va_S (va_B [(h0, .inr (10, [.ref zq, h0_past, h0_kept, h0_spare, h0_pastMany, h0_isKept, h0_text, h0_typed, h0_isUsed, h0_planBatch, h0_planUnits, h0_planCents, h0_planMany, h0_planGot, h0_planSubstitutes, h0_at, h0_fault, h0_entries, h0_entry])), (zq, .inl (cI, 1002, .inl z))]) s.heap H locs := by rw [← hA]; exact hS
  exact W.iret (v := nI bz) hx hb hr (fun t ht hW => ⟨⟨_, _, rfl, ⟨(show nI bz = nI bz from rfl), rfl⟩, by rw [ht]; exact hP9⟩, hS9.X ht⟩) hS9.2.2 dX10_putBatch_78
theorem hdV_X10_waste : yX10_waste.cls = RX10 ∧ yX10_waste.cls ≠ "java/lang/invoke/MethodHandle" ∧ yX10_waste.cls ≠ "java/lang/invoke/VarHandle" ∧ (parseMethodDescriptor yX10_waste.desc).map (fun d => d.parameters.length) = some 3 := by decide +kernel
set_option maxHeartbeats 4000000 in
set_option maxRecDepth 100000 in
theorem c_X10_waste (l : Launch) (dC : Nat → ClassId) (dI : Nat → Nat → Nat) (cI cF cC cZ cQ cS : ClassId) (h0 : Nat) (zq : Nat) (h0_past : Value) (h0_kept : Value) (h0_spare : Value) (h0_pastMany : Value) (h0_isKept : Value) (h0_text : Value) (h0_typed : Value) (h0_isUsed : Value) (h0_planBatch : Value) (h0_planUnits : Value) (h0_planCents : Value) (h0_planMany : Value) (h0_planGot : Value) (h0_planSubstitutes : Value) (h0_at : Value) (h0_fault : Value) (h0_entries : Value) (h0_entry : Value) (z : Nat → Int32) (bt : Nat) (un : Int32) (ca : Nat) (hbt : bt < 40) (hca : ca < 3) : Met l yX10_waste wsX10_waste ({ frames := 1, cells := 0, slots := 0, locals := 24 }) (xPre (dC, dI) vwCl [.ref h0, .int (nI bt), .int un, .int (nI ca)] (xtys cI cF cC cZ cQ cS) [(h0, .inr (10, [.ref zq, h0_past, h0_kept, h0_spare, h0_pastMany, h0_isKept, h0_text, h0_typed, h0_isUsed, h0_planBatch, h0_planUnits, h0_planCents, h0_planMany, h0_planGot, h0_planSubstitutes, h0_at, h0_fault, h0_entries, h0_entry])), (zq, .inl (cI, 1002, .inl z))]) (xWv (dC, dI) vwCl [(h0, .inr (10, [.ref zq, h0_past, h0_kept, h0_spare, h0_pastMany, h0_isKept, h0_text, h0_typed, h0_isUsed, h0_planBatch, h0_planUnits, h0_planCents, h0_planMany, h0_planGot, h0_planSubstitutes, h0_at, h0_fault, h0_entries, h0_entry])), (zq, .inl (cI, 1002, .inl z))] (fun w0 => w0 = [(h0, .inr (10, [.ref zq, h0_past, h0_kept, h0_spare, h0_pastMany, h0_isKept, h0_text, h0_typed, h0_isUsed, h0_planBatch, h0_planUnits, h0_planCents, h0_planMany, h0_planGot, h0_planSubstitutes, h0_at, h0_fault, h0_entries, h0_entry])), (zq, .inl (cI, 1002, .inl (zwaste z bt un ca)))])) 0 0 (va_B [(h0, .inr (10, [.ref zq, h0_past, h0_kept, h0_spare, h0_pastMany, h0_isKept, h0_text, h0_typed, h0_isUsed, h0_planBatch, h0_planUnits, h0_planCents, h0_planMany, h0_planGot, h0_planSubstitutes, h0_at, h0_fault, h0_entries, h0_entry])), (zq, .inl (cI, 1002, .inl z))]) := by
  refine Met.ofW (cc := cX10_waste) (maxL := 4) (ret := none) (by decide) rfl ?_
  intro p e s m args below meth c s₁ B hml hv
  obtain ⟨rfl, hP, hK, hD0, hN⟩ := hv
  have hx := B.exec
  have hb := B.bytes
  have hr := B.returns
  have hts := atoms_spec (ws := wsX10_waste) B.pre
  have hown : s.vm.findClass RX10 = some m.cls := findClass_of_methodNamed B.named
  have hlocks := B.notSynchronized
  obtain ⟨A, hA⟩ : ∃ A, A = va_B [(h0, .inr (10, [.ref zq, h0_past, h0_kept, h0_spare, h0_pastMany, h0_isKept, h0_text, h0_typed, h0_isUsed, h0_planBatch, h0_planUnits, h0_planCents, h0_planMany, h0_planGot, h0_planSubstitutes, h0_at, h0_fault, h0_entries, h0_entry])), (zq, .inl (cI, 1002, .inl z))] := ⟨_, rfl⟩
  have hD : va_D A [(h0, .inr (10, [.ref zq, h0_past, h0_kept, h0_spare, h0_pastMany, h0_isKept, h0_text, h0_typed, h0_isUsed, h0_planBatch, h0_planUnits, h0_planCents, h0_planMany, h0_planGot, h0_planSubstitutes, h0_at, h0_fault, h0_entries, h0_entry])), (zq, .inl (cI, 1002, .inl z))] := hA ▸ hD0.own
  have hS : va_S A s.heap s.heap [] := va_S.rf
  have hl := lv_entry ([.ref h0, .int (nI bt), .int un, .int (nI ca)]) (n := 4) (Nat.le_of_ble_eq_true rfl)
  rw [lg_entry_eq]
  generalize (lg_sl ([.ref h0, .int (nI bt), .int un, .int (nI ca)]) ++ List.replicate (4 - (lg_sl ([.ref h0, .int (nI bt), .int un, .int (nI ca)])).length) Slot.unset).toArray = ls at hl ⊢
  have hl : lv_has ls 4 [(0, .ref h0), (1, .int (nI bt)), (2, .int un), (3, .int (nI ca))] := hl
  refine lv_aload_n hx hb dX10_waste_0 rfl (lv_at hl 0 rfl) ?_
  refine lv_iload_n hx hb dX10_waste_1 rfl (lv_at hl 1 rfl) ?_
  refine lv_iconst (v := nI 3) hx hb dX10_waste_2 (by decide) ?_
  refine lv_iload_n hx hb dX10_waste_3 rfl (lv_at hl 2 rfl) ?_
  refine lv_ineg hx hb dX10_waste_4 ?_
  refine xkV2 (xV (As := [.int (nI bt), .int (nI 3), .int (-un)]) (rest := []) (wc := [(h0, .inr (10, [.ref zq, h0_past, h0_kept, h0_spare, h0_pastMany, h0_isKept, h0_text, h0_typed, h0_isUsed, h0_planBatch, h0_planUnits, h0_planCents, h0_planMany, h0_planGot, h0_planSubstitutes, h0_at, h0_fault, h0_entries, h0_entry])), (zq, .inl (cI, 1002, .inl z))]) hx hb hml hown hts (c_X10_addTo l dC dI cI cF cC cZ cQ cS h0 zq h0_past h0_kept h0_spare h0_pastMany h0_isKept h0_text h0_typed h0_isUsed h0_planBatch h0_planUnits h0_planCents h0_planMany h0_planGot h0_planSubstitutes h0_at h0_fault h0_entries h0_entry z bt 3 (-un) (by omega) (by omega)) 3 gX10_waste_X10_addTo rfl rfl rfl hdV_X10_addTo ⟨Nat.le_of_ble_eq_true rfl, Nat.le_of_ble_eq_true rfl⟩ hN hK hP hD [0, 1] rfl rfl 10 0 rfl rfl rfl hl.1 rfl (Nat.le_of_ble_eq_true rfl) dX10_waste_5 ⟨Nat.zero_le _, Nat.zero_le _⟩) hP hD hS [0, 1] [0, 1] rfl rfl 2 rfl (by decide +kernel) (fun H locs hP hD hS => ?_)
  have hP : va_P (dC, dI) vwCl [(h0, .inr (10, [.ref zq, h0_past, h0_kept, h0_spare, h0_pastMany, h0_isKept, h0_text, h0_typed, h0_isUsed, h0_planBatch, h0_planUnits, h0_planCents, h0_planMany, h0_planGot, h0_planSubstitutes, h0_at, h0_fault, h0_entries, h0_entry])), (zq, .inl (cI, 1002, .inl (zadd z bt 3 (-un))))] H := hP
  have hD : va_D A [(h0, .inr (10, [.ref zq, h0_past, h0_kept, h0_spare, h0_pastMany, h0_isKept, h0_text, h0_typed, h0_isUsed, h0_planBatch, h0_planUnits, h0_planCents, h0_planMany, h0_planGot, h0_planSubstitutes, h0_at, h0_fault, h0_entries, h0_entry])), (zq, .inl (cI, 1002, .inl (zadd z bt 3 (-un))))] := hD
  refine lv_aload_n hx hb dX10_waste_8 rfl (lv_at hl 0 rfl) ?_
  refine lv_iload_n hx hb dX10_waste_9 rfl (lv_at hl 1 rfl) ?_
  refine lv_bipush (v := nI 6) hx hb dX10_waste_10 (by decide) ?_
  refine lv_iload_n hx hb dX10_waste_12 rfl (lv_at hl 3 rfl) ?_
  refine xr_iadd_n hx hb dX10_waste_13 ?_
  refine lv_iload_n hx hb dX10_waste_14 rfl (lv_at hl 2 rfl) ?_
  refine xkV2 (xV (As := [.int (nI bt), .int (nI (6 + ca)), .int un]) (rest := []) (wc := [(h0, .inr (10, [.ref zq, h0_past, h0_kept, h0_spare, h0_pastMany, h0_isKept, h0_text, h0_typed, h0_isUsed, h0_planBatch, h0_planUnits, h0_planCents, h0_planMany, h0_planGot, h0_planSubstitutes, h0_at, h0_fault, h0_entries, h0_entry])), (zq, .inl (cI, 1002, .inl (zadd z bt 3 (-un))))]) hx hb hml hown hts (c_X10_addTo l dC dI cI cF cC cZ cQ cS h0 zq h0_past h0_kept h0_spare h0_pastMany h0_isKept h0_text h0_typed h0_isUsed h0_planBatch h0_planUnits h0_planCents h0_planMany h0_planGot h0_planSubstitutes h0_at h0_fault h0_entries h0_entry (zadd z bt 3 (-un)) bt (6 + ca) un (by omega) (by omega)) 3 gX10_waste_X10_addTo rfl rfl rfl hdV_X10_addTo ⟨Nat.le_of_ble_eq_true rfl, Nat.le_of_ble_eq_true rfl⟩ hN hK hP hD [0, 1] rfl rfl 10 0 rfl rfl rfl hl.1 rfl (Nat.le_of_ble_eq_true rfl) dX10_waste_15 ⟨Nat.zero_le _, Nat.zero_le _⟩) hP hD hS [0, 1] [0, 1] rfl rfl 2 rfl (by decide +kernel) (fun H locs hP hD hS => ?_)
  have hP : va_P (dC, dI) vwCl [(h0, .inr (10, [.ref zq, h0_past, h0_kept, h0_spare, h0_pastMany, h0_isKept, h0_text, h0_typed, h0_isUsed, h0_planBatch, h0_planUnits, h0_planCents, h0_planMany, h0_planGot, h0_planSubstitutes, h0_at, h0_fault, h0_entries, h0_entry])), (zq, .inl (cI, 1002, .inl (zadd (zadd z bt 3 (-un)) bt (6 + ca) un)))] H := hP
  have hD : va_D A [(h0, .inr (10, [.ref zq, h0_past, h0_kept, h0_spare, h0_pastMany, h0_isKept, h0_text, h0_typed, h0_isUsed, h0_planBatch, h0_planUnits, h0_planCents, h0_planMany, h0_planGot, h0_planSubstitutes, h0_at, h0_fault, h0_entries, h0_entry])), (zq, .inl (cI, 1002, .inl (zadd (zadd z bt 3 (-un)) bt (6 + ca) un)))] := hD
  refine lv_aload_n hx hb dX10_waste_18 rfl (lv_at hl 0 rfl) ?_
  refine lv_iconst (v := nI 3) hx hb dX10_waste_19 (by decide) ?_
  refine lv_iload_n hx hb dX10_waste_20 rfl (lv_at hl 1 rfl) ?_
  refine lv_iload_n hx hb dX10_waste_21 rfl (lv_at hl 2 rfl) ?_
  refine xkV2 (xV (As := [.int (nI 3), .int (nI bt), .int un]) (rest := []) (wc := [(h0, .inr (10, [.ref zq, h0_past, h0_kept, h0_spare, h0_pastMany, h0_isKept, h0_text, h0_typed, h0_isUsed, h0_planBatch, h0_planUnits, h0_planCents, h0_planMany, h0_planGot, h0_planSubstitutes, h0_at, h0_fault, h0_entries, h0_entry])), (zq, .inl (cI, 1002, .inl (zadd (zadd z bt 3 (-un)) bt (6 + ca) un)))]) hx hb hml hown hts (c_X10_note l dC dI cI cF cC cZ cQ cS h0 zq h0_past h0_kept h0_spare h0_pastMany h0_isKept h0_text h0_typed h0_isUsed h0_planBatch h0_planUnits h0_planCents h0_planMany h0_planGot h0_planSubstitutes h0_at h0_fault h0_entries h0_entry (zadd (zadd z bt 3 (-un)) bt (6 + ca) un) (nI 3) (nI bt) un) 3 gX10_waste_X10_note rfl rfl rfl hdV_X10_note ⟨Nat.le_of_ble_eq_true rfl, Nat.le_of_ble_eq_true rfl⟩ hN hK hP hD [0, 1] rfl rfl 10 0 rfl rfl rfl hl.1 rfl (Nat.le_of_ble_eq_true rfl) dX10_waste_22 ⟨Nat.zero_le _, Nat.zero_le _⟩) hP hD hS [0, 1] [0, 1] rfl rfl 2 rfl (by decide +kernel) (fun H locs hP hD hS => ?_)
  have hP : va_P (dC, dI) vwCl [(h0, .inr (10, [.ref zq, h0_past, h0_kept, h0_spare, h0_pastMany, h0_isKept, h0_text, h0_typed, h0_isUsed, h0_planBatch, h0_planUnits, h0_planCents, h0_planMany, h0_planGot, h0_planSubstitutes, h0_at, h0_fault, h0_entries, h0_entry])), (zq, .inl (cI, 1002, .inl (znote (zadd (zadd z bt 3 (-un)) bt (6 + ca) un) (nI 3) (nI bt) un)))] H := hP
  have hD : va_D A [(h0, .inr (10, [.ref zq, h0_past, h0_kept, h0_spare, h0_pastMany, h0_isKept, h0_text, h0_typed, h0_isUsed, h0_planBatch, h0_planUnits, h0_planCents, h0_planMany, h0_planGot, h0_planSubstitutes, h0_at, h0_fault, h0_entries, h0_entry])), (zq, .inl (cI, 1002, .inl (znote (zadd (zadd z bt 3 (-un)) bt (6 + ca) un) (nI 3) (nI bt) un)))] := hD
  have hP9 : va_P (dC, dI) vwCl [(h0, .inr (10, [.ref zq, h0_past, h0_kept, h0_spare, h0_pastMany, h0_isKept, h0_text, h0_typed, h0_isUsed, h0_planBatch, h0_planUnits, h0_planCents, h0_planMany, h0_planGot, h0_planSubstitutes, h0_at, h0_fault, h0_entries, h0_entry])), (zq, .inl (cI, 1002, .inl (zwaste z bt un ca)))] H := hP
  have hS9 : va_S (va_B [(h0, .inr (10, [.ref zq, h0_past, h0_kept, h0_spare, h0_pastMany, h0_isKept, h0_text, h0_typed, h0_isUsed, h0_planBatch, h0_planUnits, h0_planCents, h0_planMany, h0_planGot, h0_planSubstitutes, h0_at, h0_fault, h0_entries, h0_entry])), (zq, .inl (cI, 1002, .inl z))]) s.heap H locs := by rw [← hA]; exact hS
  exact W.vret hx hb hr (fun t ht hW => ⟨⟨_, rfl, rfl, by rw [ht]; exact hP9⟩, hS9.X ht⟩) hS9.2.2 dX10_waste_25
theorem hdV_X10_wasted : yX10_wasted.cls = RX10 ∧ yX10_wasted.cls ≠ "java/lang/invoke/MethodHandle" ∧ yX10_wasted.cls ≠ "java/lang/invoke/VarHandle" ∧ (parseMethodDescriptor yX10_wasted.desc).map (fun d => d.parameters.length) = some 1 := by decide +kernel
set_option maxHeartbeats 4000000 in
set_option maxRecDepth 100000 in
theorem c_X10_wasted (l : Launch) (dC : Nat → ClassId) (dI : Nat → Nat → Nat) (cI cF cC cZ cQ cS : ClassId) (h0 : Nat) (zq : Nat) (h0_past : Value) (h0_kept : Value) (h0_spare : Value) (h0_pastMany : Value) (h0_isKept : Value) (h0_text : Value) (h0_typed : Value) (h0_isUsed : Value) (h0_planBatch : Value) (h0_planUnits : Value) (h0_planCents : Value) (h0_planMany : Value) (h0_planGot : Value) (h0_planSubstitutes : Value) (h0_at : Value) (h0_fault : Value) (h0_entries : Value) (h0_entry : Value) (z : Nat → Int32) (bt : Nat) (hbt : bt < 40) : Met l yX10_wasted wsX10_wasted ({ frames := 1, cells := 0, slots := 0, locals := 22 }) (xPre (dC, dI) vwCl [.ref h0, .int (nI bt)] (xtys cI cF cC cZ cQ cS) [(h0, .inr (10, [.ref zq, h0_past, h0_kept, h0_spare, h0_pastMany, h0_isKept, h0_text, h0_typed, h0_isUsed, h0_planBatch, h0_planUnits, h0_planCents, h0_planMany, h0_planGot, h0_planSubstitutes, h0_at, h0_fault, h0_entries, h0_entry])), (zq, .inl (cI, 1002, .inl z))]) (vp_Si (fun r0 => r0 = (zB z bt 6 + zB z bt 7) + zB z bt 8)) 0 0 (fun _ => False) := by
  refine Met.ofW (cc := cX10_wasted) (maxL := 2) (ret := (some .int)) (by decide) rfl ?_
  intro p e s m args below meth c s₁ B hml hv
  obtain ⟨rfl, hP, hK, hD0, hN⟩ := hv
  have hx := B.exec
  have hb := B.bytes
  have hr := B.returns
  have hts := atoms_spec (ws := wsX10_wasted) B.pre
  have hown : s.vm.findClass RX10 = some m.cls := findClass_of_methodNamed B.named
  have hlocks := B.notSynchronized
  have hD := hD0
  have hl := lv_entry ([.ref h0, .int (nI bt)]) (n := 2) (Nat.le_of_ble_eq_true rfl)
  rw [lg_entry_eq]
  generalize (lg_sl ([.ref h0, .int (nI bt)]) ++ List.replicate (2 - (lg_sl ([.ref h0, .int (nI bt)])).length) Slot.unset).toArray = ls at hl ⊢
  have hl : lv_has ls 2 [(0, .ref h0), (1, .int (nI bt))] := hl
  refine lv_aload_n hx hb dX10_wasted_0 rfl (lv_at hl 0 rfl) ?_
  refine lv_iload_n hx hb dX10_wasted_1 rfl (lv_at hl 1 rfl) ?_
  refine lv_bipush (v := nI 6) hx hb dX10_wasted_2 (by decide) ?_
  refine xkRi (xV (As := [.int (nI bt), .int (nI 6)]) (rest := []) (wc := [(h0, .inr (10, [.ref zq, h0_past, h0_kept, h0_spare, h0_pastMany, h0_isKept, h0_text, h0_typed, h0_isUsed, h0_planBatch, h0_planUnits, h0_planCents, h0_planMany, h0_planGot, h0_planSubstitutes, h0_at, h0_fault, h0_entries, h0_entry])), (zq, .inl (cI, 1002, .inl z))]) hx hb hml hown hts (c_X10_ofBatch l dC dI cI cF cC cZ cQ cS h0 zq h0_past h0_kept h0_spare h0_pastMany h0_isKept h0_text h0_typed h0_isUsed h0_planBatch h0_planUnits h0_planCents h0_planMany h0_planGot h0_planSubstitutes h0_at h0_fault h0_entries h0_entry z bt 6 (by omega) (by omega)) 2 gX10_wasted_X10_ofBatch rfl rfl rfl hdV_X10_ofBatch ⟨Nat.le_of_ble_eq_true rfl, Nat.le_of_ble_eq_true rfl⟩ hN hK hP hD [0, 1] rfl rfl 10 0 rfl rfl rfl hl.1 rfl (Nat.le_of_ble_eq_true rfl) dX10_wasted_4 ⟨Nat.zero_le _, Nat.zero_le _⟩) (fun r_1 hr_1 => ?_)
  obtain rfl : r_1 = zB z bt 6 := hr_1
  refine lv_aload_n hx hb dX10_wasted_7 rfl (lv_at hl 0 rfl) ?_
  refine lv_iload_n hx hb dX10_wasted_8 rfl (lv_at hl 1 rfl) ?_
  refine lv_bipush (v := nI 7) hx hb dX10_wasted_9 (by decide) ?_
  refine xkRi (xV (As := [.int (nI bt), .int (nI 7)]) (rest := [.int (zB z bt 6)]) (wc := [(h0, .inr (10, [.ref zq, h0_past, h0_kept, h0_spare, h0_pastMany, h0_isKept, h0_text, h0_typed, h0_isUsed, h0_planBatch, h0_planUnits, h0_planCents, h0_planMany, h0_planGot, h0_planSubstitutes, h0_at, h0_fault, h0_entries, h0_entry])), (zq, .inl (cI, 1002, .inl z))]) hx hb hml hown hts (c_X10_ofBatch l dC dI cI cF cC cZ cQ cS h0 zq h0_past h0_kept h0_spare h0_pastMany h0_isKept h0_text h0_typed h0_isUsed h0_planBatch h0_planUnits h0_planCents h0_planMany h0_planGot h0_planSubstitutes h0_at h0_fault h0_entries h0_entry z bt 7 (by omega) (by omega)) 2 gX10_wasted_X10_ofBatch rfl rfl rfl hdV_X10_ofBatch ⟨Nat.le_of_ble_eq_true rfl, Nat.le_of_ble_eq_true rfl⟩ hN hK hP hD [0, 1] rfl rfl 10 0 rfl rfl rfl hl.1 rfl (Nat.le_of_ble_eq_true rfl) dX10_wasted_11 ⟨Nat.zero_le _, Nat.zero_le _⟩) (fun r_2 hr_2 => ?_)
  obtain rfl : r_2 = zB z bt 7 := hr_2
  refine lv_iadd hx hb dX10_wasted_14 ?_
  refine lv_aload_n hx hb dX10_wasted_15 rfl (lv_at hl 0 rfl) ?_
  refine lv_iload_n hx hb dX10_wasted_16 rfl (lv_at hl 1 rfl) ?_
  refine lv_bipush (v := nI 8) hx hb dX10_wasted_17 (by decide) ?_
  refine xkRi (xV (As := [.int (nI bt), .int (nI 8)]) (rest := [.int ((zB z bt 6) + (zB z bt 7))]) (wc := [(h0, .inr (10, [.ref zq, h0_past, h0_kept, h0_spare, h0_pastMany, h0_isKept, h0_text, h0_typed, h0_isUsed, h0_planBatch, h0_planUnits, h0_planCents, h0_planMany, h0_planGot, h0_planSubstitutes, h0_at, h0_fault, h0_entries, h0_entry])), (zq, .inl (cI, 1002, .inl z))]) hx hb hml hown hts (c_X10_ofBatch l dC dI cI cF cC cZ cQ cS h0 zq h0_past h0_kept h0_spare h0_pastMany h0_isKept h0_text h0_typed h0_isUsed h0_planBatch h0_planUnits h0_planCents h0_planMany h0_planGot h0_planSubstitutes h0_at h0_fault h0_entries h0_entry z bt 8 (by omega) (by omega)) 2 gX10_wasted_X10_ofBatch rfl rfl rfl hdV_X10_ofBatch ⟨Nat.le_of_ble_eq_true rfl, Nat.le_of_ble_eq_true rfl⟩ hN hK hP hD [0, 1] rfl rfl 10 0 rfl rfl rfl hl.1 rfl (Nat.le_of_ble_eq_true rfl) dX10_wasted_19 ⟨Nat.zero_le _, Nat.zero_le _⟩) (fun r_3 hr_3 => ?_)
  obtain rfl : r_3 = zB z bt 8 := hr_3
  refine lv_iadd hx hb dX10_wasted_22 ?_
  exact W.iret (v := ((zB z bt 6) + (zB z bt 7)) + (zB z bt 8)) hx hb hr (fun t ht hW => ⟨_, rfl, (show ((zB z bt 6) + (zB z bt 7)) + (zB z bt 8) = (zB z bt 6 + zB z bt 7) + zB z bt 8 from rfl), ht⟩) (fun q h => by cases h) dX10_wasted_23
theorem hdV_X10_allWasted : yX10_allWasted.cls = RX10 ∧ yX10_allWasted.cls ≠ "java/lang/invoke/MethodHandle" ∧ yX10_allWasted.cls ≠ "java/lang/invoke/VarHandle" ∧ (parseMethodDescriptor yX10_allWasted.desc).map (fun d => d.parameters.length) = some 0 := by decide +kernel
set_option maxHeartbeats 4000000 in
set_option maxRecDepth 100000 in
theorem c_X10_allWasted (l : Launch) (dC : Nat → ClassId) (dI : Nat → Nat → Nat) (cI cF cC cZ cQ cS : ClassId) (h0 : Nat) (zq : Nat) (h0_past : Value) (h0_kept : Value) (h0_spare : Value) (h0_pastMany : Value) (h0_isKept : Value) (h0_text : Value) (h0_typed : Value) (h0_isUsed : Value) (h0_planBatch : Value) (h0_planUnits : Value) (h0_planCents : Value) (h0_planMany : Value) (h0_planGot : Value) (h0_planSubstitutes : Value) (h0_at : Value) (h0_fault : Value) (h0_entries : Value) (h0_entry : Value) (z : Nat → Int32) (bz : Nat) (hz2 : z 2 = nI bz) (hbz : bz ≤ 40) : Met l yX10_allWasted wsX10_allWasted ({ frames := 2, cells := 0, slots := 0, locals := 43 }) (xPre (dC, dI) vwCl [.ref h0] (xtys cI cF cC cZ cQ cS) [(h0, .inr (10, [.ref zq, h0_past, h0_kept, h0_spare, h0_pastMany, h0_isKept, h0_text, h0_typed, h0_isUsed, h0_planBatch, h0_planUnits, h0_planCents, h0_planMany, h0_planGot, h0_planSubstitutes, h0_at, h0_fault, h0_entries, h0_entry])), (zq, .inl (cI, 1002, .inl z))]) (vp_Si (fun r0 => r0 = zallw z bz)) 0 0 (fun _ => False) := by
  refine Met.ofW (cc := cX10_allWasted) (maxL := 3) (ret := (some .int)) (by decide) rfl ?_
  intro p e s m args below meth c s₁ B hml hv
  obtain ⟨rfl, hP, hK, hD0, hN⟩ := hv
  have hx := B.exec
  have hb := B.bytes
  have hr := B.returns
  have hts := atoms_spec (ws := wsX10_allWasted) B.pre
  have hown : s.vm.findClass RX10 = some m.cls := findClass_of_methodNamed B.named
  have hlocks := B.notSynchronized
  have k_7 := hts (Cond.fieldLink RX10 7 "ShelfStagesModel" "z" "[I") (by decide +kernel)
  have i_X10 : ∀ w ∈ wsX100, w ∈ wsX10_allWasted := by decide +kernel
  have hD := hD0
  have hl := lv_entry ([.ref h0]) (n := 3) (Nat.le_of_ble_eq_true rfl)
  rw [lg_entry_eq]
  generalize (lg_sl ([.ref h0]) ++ List.replicate (3 - (lg_sl ([.ref h0])).length) Slot.unset).toArray = ls at hl ⊢
  have hl : lv_has ls 3 [(0, .ref h0)] := hl
  refine lv_iconst (v := nI 0) hx hb dX10_allWasted_0 (by decide) ?_
  refine lv_istore_n (lv' := [(1, .int (nI 0)), (0, .ref h0)]) hx hb dX10_allWasted_1 rfl hl (by decide) rfl (fun ls hl => ?_)
  refine lv_iconst (v := nI 0) hx hb dX10_allWasted_2 (by decide) ?_
  refine lv_istore_n (lv' := [(2, .int (nI 0)), (1, .int (nI 0)), (0, .ref h0)]) hx hb dX10_allWasted_3 rfl hl (by decide) rfl (fun ls hl => ?_)
  refine xr_loop (J := Nat) (fun n0 H locs g => ∃ (k : Nat) (acc : Int32) (ls : Array Slot), H = s.heap ∧ locs = [] ∧ n0 = bz - k ∧ g = F0 m 4 ls [] ∧ lv_has ls 3 [(2, .int (nI k)), (1, .int acc), (0, .ref h0)] ∧ (k ≤ bz) ∧ (acc = zallw z k)) (fun n => n) ?_ (bz - 0) (g := F0 m 4 ls []) ⟨0, (nI 0), ls, rfl, rfl, rfl, rfl, lv_sub hl [0, 1, 2] rfl, (Nat.zero_le _), rfl⟩
  intro n0 ih_4 H locs g hp
  obtain ⟨k, acc, ls, rfl, rfl, rfl, rfl, hl, hk, hac⟩ := hp
  refine lv_iload_n hx hb dX10_allWasted_4 rfl (lv_at hl 0 rfl) ?_
  refine lv_aload_n hx hb dX10_allWasted_5 rfl (lv_at hl 2 rfl) ?_
  refine va_get (D := (dC, dI)) (ci := 10) (v := .ref zq) (C := RX10) (T := TX10) (N := 19) hx hb hts i_X10 hown hK hP 0 rfl rfl 0 (by decide) k_7 (fun _ h9 => h9) rfl dX10_allWasted_6 ?_
  refine lv_iconst (v := nI 2) hx hb dX10_allWasted_9 (by decide) ?_
  refine xr_iald hx hb hK hP 1 0 rfl rfl (i := 2) (by omega) (by decide) dX10_allWasted_10 ?_
  refine xr_top (show z 2 = nI bz from hz2) ?_
  refine xr_ge_n (tgt := 28) hx hb (by omega) (by omega) dX10_allWasted_11 (by decide) (fun c_1 => ?_) (fun c_1 => ?_)
  · skip
    refine lv_iload_n hx hb dX10_allWasted_28 rfl (lv_at hl 1 rfl) ?_
    exact W.iret (v := acc) hx hb hr (fun t ht hW => ⟨_, rfl, (show acc = zallw z bz from (by rw [hac, show k = bz from by omega])), ht⟩) (fun q h => by cases h) dX10_allWasted_29
  refine lv_iload_n hx hb dX10_allWasted_14 rfl (lv_at hl 1 rfl) ?_
  refine lv_aload_n hx hb dX10_allWasted_15 rfl (lv_at hl 2 rfl) ?_
  refine lv_iload_n hx hb dX10_allWasted_16 rfl (lv_at hl 0 rfl) ?_
  refine xkRi (xV (As := [.int (nI k)]) (rest := [.int acc]) (wc := [(h0, .inr (10, [.ref zq, h0_past, h0_kept, h0_spare, h0_pastMany, h0_isKept, h0_text, h0_typed, h0_isUsed, h0_planBatch, h0_planUnits, h0_planCents, h0_planMany, h0_planGot, h0_planSubstitutes, h0_at, h0_fault, h0_entries, h0_entry])), (zq, .inl (cI, 1002, .inl z))]) hx hb hml hown hts (c_X10_wasted l dC dI cI cF cC cZ cQ cS h0 zq h0_past h0_kept h0_spare h0_pastMany h0_isKept h0_text h0_typed h0_isUsed h0_planBatch h0_planUnits h0_planCents h0_planMany h0_planGot h0_planSubstitutes h0_at h0_fault h0_entries h0_entry z k (by omega)) 1 gX10_allWasted_X10_wasted rfl rfl rfl hdV_X10_wasted ⟨Nat.le_of_ble_eq_true rfl, Nat.le_of_ble_eq_true rfl⟩ hN hK hP hD [0, 1] rfl rfl 10 0 rfl rfl rfl hl.1 rfl (Nat.le_of_ble_eq_true rfl) dX10_allWasted_17 ⟨Nat.zero_le _, Nat.zero_le _⟩) (fun r_2 hr_2 => ?_)
  obtain rfl : r_2 = (zB z k 6 + zB z k 7) + zB z k 8 := hr_2
  refine lv_iadd hx hb dX10_allWasted_20 ?_
  refine lv_istore_n (lv' := [(1, .int (acc + ((zB z k 6 + zB z k 7) + zB z k 8))), (2, .int (nI k)), (0, .ref h0)]) hx hb dX10_allWasted_21 rfl hl (by decide) rfl (fun ls hl => ?_)
  refine lv_iinc (v := nI (k + 1)) (lv' := [(2, .int (nI (k + 1))), (1, .int (acc + ((zB z k 6 + zB z k 7) + zB z k 8))), (0, .ref h0)]) hx hb dX10_allWasted_22 hl (k := 1) rfl (nI_inc1 k) (by decide) rfl (fun ls hl => ?_)
  refine lv_goto (tgt := 4) hx hb dX10_allWasted_25 (by decide) ?_
  exact ih_4 (bz - (k + 1)) _ _ _ (show bz - (k + 1) < bz - k from by omega) ⟨(k + 1), (acc + ((zB z k 6 + zB z k 7) + zB z k 8)), ls, rfl, rfl, rfl, rfl, lv_sub hl [0, 1, 2] rfl, (by omega), (by rw [hac]; rfl)⟩
theorem hdV_X10_shelfOf : yX10_shelfOf.cls = RX10 ∧ yX10_shelfOf.cls ≠ "java/lang/invoke/MethodHandle" ∧ yX10_shelfOf.cls ≠ "java/lang/invoke/VarHandle" ∧ (parseMethodDescriptor yX10_shelfOf.desc).map (fun d => d.parameters.length) = some 1 := by decide +kernel
set_option maxHeartbeats 4000000 in
set_option maxRecDepth 100000 in
theorem c_X10_shelfOf (l : Launch) (dC : Nat → ClassId) (dI : Nat → Nat → Nat) (cI cF cC cZ cQ cS : ClassId) (h0 : Nat) (zq : Nat) (h0_past : Value) (h0_kept : Value) (h0_spare : Value) (h0_pastMany : Value) (h0_isKept : Value) (h0_text : Value) (h0_typed : Value) (h0_isUsed : Value) (h0_planBatch : Value) (h0_planUnits : Value) (h0_planCents : Value) (h0_planMany : Value) (h0_planGot : Value) (h0_planSubstitutes : Value) (h0_at : Value) (h0_fault : Value) (h0_entries : Value) (h0_entry : Value) (z : Nat → Int32) (gq : Int32) (bz : Nat) (hz2 : z 2 = nI bz) (hbz : bz ≤ 40) : Met l yX10_shelfOf wsX10_shelfOf ({ frames := 1, cells := 0, slots := 0, locals := 22 }) (xPre (dC, dI) vwCl [.ref h0, .int gq] (xtys cI cF cC cZ cQ cS) [(h0, .inr (10, [.ref zq, h0_past, h0_kept, h0_spare, h0_pastMany, h0_isKept, h0_text, h0_typed, h0_isUsed, h0_planBatch, h0_planUnits, h0_planCents, h0_planMany, h0_planGot, h0_planSubstitutes, h0_at, h0_fault, h0_entries, h0_entry])), (zq, .inl (cI, 1002, .inl z))]) (vp_Si (fun r0 => r0 = zsumIf z 3 gq bz)) 0 0 (fun _ => False) := by
  refine Met.ofW (cc := cX10_shelfOf) (maxL := 4) (ret := (some .int)) (by decide) rfl ?_
  intro p e s m args below meth c s₁ B hml hv
  obtain ⟨rfl, hP, hK, hD0, hN⟩ := hv
  have hx := B.exec
  have hb := B.bytes
  have hr := B.returns
  have hts := atoms_spec (ws := wsX10_shelfOf) B.pre
  have hown : s.vm.findClass RX10 = some m.cls := findClass_of_methodNamed B.named
  have hlocks := B.notSynchronized
  have k_7 := hts (Cond.fieldLink RX10 7 "ShelfStagesModel" "z" "[I") (by decide +kernel)
  have i_X10 : ∀ w ∈ wsX100, w ∈ wsX10_shelfOf := by decide +kernel
  have hD := hD0
  have hl := lv_entry ([.ref h0, .int gq]) (n := 4) (Nat.le_of_ble_eq_true rfl)
  rw [lg_entry_eq]
  generalize (lg_sl ([.ref h0, .int gq]) ++ List.replicate (4 - (lg_sl ([.ref h0, .int gq])).length) Slot.unset).toArray = ls at hl ⊢
  have hl : lv_has ls 4 [(0, .ref h0), (1, .int gq)] := hl
  refine lv_iconst (v := nI 0) hx hb dX10_shelfOf_0 (by decide) ?_
  refine lv_istore_n (lv' := [(2, .int (nI 0)), (0, .ref h0), (1, .int gq)]) hx hb dX10_shelfOf_1 rfl hl (by decide) rfl (fun ls hl => ?_)
  refine lv_iconst (v := nI 0) hx hb dX10_shelfOf_2 (by decide) ?_
  refine lv_istore_n (lv' := [(3, .int (nI 0)), (2, .int (nI 0)), (0, .ref h0), (1, .int gq)]) hx hb dX10_shelfOf_3 rfl hl (by decide) rfl (fun ls hl => ?_)
  refine xr_loop (J := Nat) (fun n0 H locs g => ∃ (k : Nat) (acc : Int32) (ls : Array Slot), H = s.heap ∧ locs = [] ∧ n0 = bz - k ∧ g = F0 m 4 ls [] ∧ lv_has ls 4 [(3, .int (nI k)), (2, .int acc), (0, .ref h0), (1, .int gq)] ∧ (k ≤ bz) ∧ (acc = zsumIf z 3 gq k)) (fun n => n) ?_ (bz - 0) (g := F0 m 4 ls []) ⟨0, (nI 0), ls, rfl, rfl, rfl, rfl, lv_sub hl [0, 1, 2, 3] rfl, (Nat.zero_le _), rfl⟩
  intro n0 ih_4 H locs g hp
  obtain ⟨k, acc, ls, rfl, rfl, rfl, rfl, hl, hk, hac⟩ := hp
  refine lv_iload_n hx hb dX10_shelfOf_4 rfl (lv_at hl 0 rfl) ?_
  refine lv_aload_n hx hb dX10_shelfOf_5 rfl (lv_at hl 2 rfl) ?_
  refine va_get (D := (dC, dI)) (ci := 10) (v := .ref zq) (C := RX10) (T := TX10) (N := 19) hx hb hts i_X10 hown hK hP 0 rfl rfl 0 (by decide) k_7 (fun _ h9 => h9) rfl dX10_shelfOf_6 ?_
  refine lv_iconst (v := nI 2) hx hb dX10_shelfOf_9 (by decide) ?_
  refine xr_iald hx hb hK hP 1 0 rfl rfl (i := 2) (by omega) (by decide) dX10_shelfOf_10 ?_
  refine xr_top (show z 2 = nI bz from hz2) ?_
  refine xr_ge_n (tgt := 43) hx hb (by omega) (by omega) dX10_shelfOf_11 (by decide) (fun c_1 => ?_) (fun c_1 => ?_)
  · skip
    refine lv_iload_n hx hb dX10_shelfOf_43 rfl (lv_at hl 1 rfl) ?_
    exact W.iret (v := acc) hx hb hr (fun t ht hW => ⟨_, rfl, (show acc = zsumIf z 3 gq bz from (by rw [hac, show k = bz from by omega])), ht⟩) (fun q h => by cases h) dX10_shelfOf_44
  refine lv_iload_n hx hb dX10_shelfOf_14 rfl (lv_at hl 1 rfl) ?_
  refine xr_cut (g2 := F0 m 35 ls [.int (if zB z k 0 = gq then zB z k 3 else nI 0), .int acc]) (fun kj_2 => ?_) ?_
  · skip
    refine lv_aload_n hx hb dX10_shelfOf_15 rfl (lv_at hl 2 rfl) ?_
    refine lv_iload_n hx hb dX10_shelfOf_16 rfl (lv_at hl 0 rfl) ?_
    refine lv_iconst (v := nI 0) hx hb dX10_shelfOf_17 (by decide) ?_
    refine xkRi (xV (As := [.int (nI k), .int (nI 0)]) (rest := [.int acc]) (wc := [(h0, .inr (10, [.ref zq, h0_past, h0_kept, h0_spare, h0_pastMany, h0_isKept, h0_text, h0_typed, h0_isUsed, h0_planBatch, h0_planUnits, h0_planCents, h0_planMany, h0_planGot, h0_planSubstitutes, h0_at, h0_fault, h0_entries, h0_entry])), (zq, .inl (cI, 1002, .inl z))]) hx hb hml hown hts (c_X10_ofBatch l dC dI cI cF cC cZ cQ cS h0 zq h0_past h0_kept h0_spare h0_pastMany h0_isKept h0_text h0_typed h0_isUsed h0_planBatch h0_planUnits h0_planCents h0_planMany h0_planGot h0_planSubstitutes h0_at h0_fault h0_entries h0_entry z k 0 (by omega) (by omega)) 2 gX10_shelfOf_X10_ofBatch rfl rfl rfl hdV_X10_ofBatch ⟨Nat.le_of_ble_eq_true rfl, Nat.le_of_ble_eq_true rfl⟩ hN hK hP hD [0, 1] rfl rfl 10 0 rfl rfl rfl hl.1 rfl (Nat.le_of_ble_eq_true rfl) dX10_shelfOf_18 ⟨Nat.zero_le _, Nat.zero_le _⟩) (fun r_3 hr_3 => ?_)
    obtain rfl : r_3 = zB z k 0 := hr_3
    refine lv_iload_n hx hb dX10_shelfOf_21 rfl (lv_at hl 3 rfl) ?_
    refine lv_icmp_ne (tgt := 34) hx hb dX10_shelfOf_22 (by decide) (fun c_4 => ?_) (fun c_4 => ?_)
    · skip
      refine lv_iconst (v := nI 0) hx hb dX10_shelfOf_34 (by decide) ?_
      refine xr_top (show nI 0 = if zB z k 0 = gq then zB z k 3 else nI 0 from (if_neg c_4).symm) ?_
      exact kj_2
    refine lv_aload_n hx hb dX10_shelfOf_25 rfl (lv_at hl 2 rfl) ?_
    refine lv_iload_n hx hb dX10_shelfOf_26 rfl (lv_at hl 0 rfl) ?_
    refine lv_iconst (v := nI 3) hx hb dX10_shelfOf_27 (by decide) ?_
    refine xkRi (xV (As := [.int (nI k), .int (nI 3)]) (rest := [.int acc]) (wc := [(h0, .inr (10, [.ref zq, h0_past, h0_kept, h0_spare, h0_pastMany, h0_isKept, h0_text, h0_typed, h0_isUsed, h0_planBatch, h0_planUnits, h0_planCents, h0_planMany, h0_planGot, h0_planSubstitutes, h0_at, h0_fault, h0_entries, h0_entry])), (zq, .inl (cI, 1002, .inl z))]) hx hb hml hown hts (c_X10_ofBatch l dC dI cI cF cC cZ cQ cS h0 zq h0_past h0_kept h0_spare h0_pastMany h0_isKept h0_text h0_typed h0_isUsed h0_planBatch h0_planUnits h0_planCents h0_planMany h0_planGot h0_planSubstitutes h0_at h0_fault h0_entries h0_entry z k 3 (by omega) (by omega)) 2 gX10_shelfOf_X10_ofBatch rfl rfl rfl hdV_X10_ofBatch ⟨Nat.le_of_ble_eq_true rfl, Nat.le_of_ble_eq_true rfl⟩ hN hK hP hD [0, 1] rfl rfl 10 0 rfl rfl rfl hl.1 rfl (Nat.le_of_ble_eq_true rfl) dX10_shelfOf_28 ⟨Nat.zero_le _, Nat.zero_le _⟩) (fun r_5 hr_5 => ?_)
    obtain rfl : r_5 = zB z k 3 := hr_5
    refine lv_goto (tgt := 35) hx hb dX10_shelfOf_31 (by decide) ?_
    refine xr_top (show zB z k 3 = if zB z k 0 = gq then zB z k 3 else nI 0 from (if_pos c_4).symm) ?_
    exact kj_2
  refine lv_iadd hx hb dX10_shelfOf_35 ?_
  refine lv_istore_n (lv' := [(2, .int (acc + (if zB z k 0 = gq then zB z k 3 else nI 0))), (3, .int (nI k)), (0, .ref h0), (1, .int gq)]) hx hb dX10_shelfOf_36 rfl hl (by decide) rfl (fun ls hl => ?_)
  refine lv_iinc (v := nI (k + 1)) (lv' := [(3, .int (nI (k + 1))), (2, .int (acc + (if zB z k 0 = gq then zB z k 3 else nI 0))), (0, .ref h0), (1, .int gq)]) hx hb dX10_shelfOf_37 hl (k := 1) rfl (nI_inc1 k) (by decide) rfl (fun ls hl => ?_)
  refine lv_goto (tgt := 4) hx hb dX10_shelfOf_40 (by decide) ?_
  exact ih_4 (bz - (k + 1)) _ _ _ (show bz - (k + 1) < bz - k from by omega) ⟨(k + 1), (acc + (if zB z k 0 = gq then zB z k 3 else nI 0)), ls, rfl, rfl, rfl, rfl, lv_sub hl [0, 1, 2, 3] rfl, (by omega), (by rw [hac]; rfl)⟩
theorem hdV_X10_batchesOf : yX10_batchesOf.cls = RX10 ∧ yX10_batchesOf.cls ≠ "java/lang/invoke/MethodHandle" ∧ yX10_batchesOf.cls ≠ "java/lang/invoke/VarHandle" ∧ (parseMethodDescriptor yX10_batchesOf.desc).map (fun d => d.parameters.length) = some 1 := by decide +kernel
set_option maxHeartbeats 4000000 in
set_option maxRecDepth 100000 in
theorem c_X10_batchesOf (l : Launch) (dC : Nat → ClassId) (dI : Nat → Nat → Nat) (cI cF cC cZ cQ cS : ClassId) (h0 : Nat) (zq : Nat) (h0_past : Value) (h0_kept : Value) (h0_spare : Value) (h0_pastMany : Value) (h0_isKept : Value) (h0_text : Value) (h0_typed : Value) (h0_isUsed : Value) (h0_planBatch : Value) (h0_planUnits : Value) (h0_planCents : Value) (h0_planMany : Value) (h0_planGot : Value) (h0_planSubstitutes : Value) (h0_at : Value) (h0_fault : Value) (h0_entries : Value) (h0_entry : Value) (z : Nat → Int32) (gq : Int32) (bz : Nat) (hz2 : z 2 = nI bz) (hbz : bz ≤ 40) : Met l yX10_batchesOf wsX10_batchesOf ({ frames := 1, cells := 0, slots := 0, locals := 22 }) (xPre (dC, dI) vwCl [.ref h0, .int gq] (xtys cI cF cC cZ cQ cS) [(h0, .inr (10, [.ref zq, h0_past, h0_kept, h0_spare, h0_pastMany, h0_isKept, h0_text, h0_typed, h0_isUsed, h0_planBatch, h0_planUnits, h0_planCents, h0_planMany, h0_planGot, h0_planSubstitutes, h0_at, h0_fault, h0_entries, h0_entry])), (zq, .inl (cI, 1002, .inl z))]) (vp_Si (fun r0 => r0 = zcntIf z gq bz)) 0 0 (fun _ => False) := by
  refine Met.ofW (cc := cX10_batchesOf) (maxL := 4) (ret := (some .int)) (by decide) rfl ?_
  intro p e s m args below meth c s₁ B hml hv
  obtain ⟨rfl, hP, hK, hD0, hN⟩ := hv
  have hx := B.exec
  have hb := B.bytes
  have hr := B.returns
  have hts := atoms_spec (ws := wsX10_batchesOf) B.pre
  have hown : s.vm.findClass RX10 = some m.cls := findClass_of_methodNamed B.named
  have hlocks := B.notSynchronized
  have k_7 := hts (Cond.fieldLink RX10 7 "ShelfStagesModel" "z" "[I") (by decide +kernel)
  have i_X10 : ∀ w ∈ wsX100, w ∈ wsX10_batchesOf := by decide +kernel
  have hD := hD0
  have hl := lv_entry ([.ref h0, .int gq]) (n := 4) (Nat.le_of_ble_eq_true rfl)
  rw [lg_entry_eq]
  generalize (lg_sl ([.ref h0, .int gq]) ++ List.replicate (4 - (lg_sl ([.ref h0, .int gq])).length) Slot.unset).toArray = ls at hl ⊢
  have hl : lv_has ls 4 [(0, .ref h0), (1, .int gq)] := hl
  refine lv_iconst (v := nI 0) hx hb dX10_batchesOf_0 (by decide) ?_
  refine lv_istore_n (lv' := [(2, .int (nI 0)), (0, .ref h0), (1, .int gq)]) hx hb dX10_batchesOf_1 rfl hl (by decide) rfl (fun ls hl => ?_)
  refine lv_iconst (v := nI 0) hx hb dX10_batchesOf_2 (by decide) ?_
  refine lv_istore_n (lv' := [(3, .int (nI 0)), (2, .int (nI 0)), (0, .ref h0), (1, .int gq)]) hx hb dX10_batchesOf_3 rfl hl (by decide) rfl (fun ls hl => ?_)
  refine xr_loop (J := Nat) (fun n0 H locs g => ∃ (k : Nat) (acc : Int32) (ls : Array Slot), H = s.heap ∧ locs = [] ∧ n0 = bz - k ∧ g = F0 m 4 ls [] ∧ lv_has ls 4 [(3, .int (nI k)), (2, .int acc), (0, .ref h0), (1, .int gq)] ∧ (k ≤ bz) ∧ (acc = zcntIf z gq k)) (fun n => n) ?_ (bz - 0) (g := F0 m 4 ls []) ⟨0, (nI 0), ls, rfl, rfl, rfl, rfl, lv_sub hl [0, 1, 2, 3] rfl, (Nat.zero_le _), rfl⟩
  intro n0 ih_4 H locs g hp
  obtain ⟨k, acc, ls, rfl, rfl, rfl, rfl, hl, hk, hac⟩ := hp
  refine lv_iload_n hx hb dX10_batchesOf_4 rfl (lv_at hl 0 rfl) ?_
  refine lv_aload_n hx hb dX10_batchesOf_5 rfl (lv_at hl 2 rfl) ?_
  refine va_get (D := (dC, dI)) (ci := 10) (v := .ref zq) (C := RX10) (T := TX10) (N := 19) hx hb hts i_X10 hown hK hP 0 rfl rfl 0 (by decide) k_7 (fun _ h9 => h9) rfl dX10_batchesOf_6 ?_
  refine lv_iconst (v := nI 2) hx hb dX10_batchesOf_9 (by decide) ?_
  refine xr_iald hx hb hK hP 1 0 rfl rfl (i := 2) (by omega) (by decide) dX10_batchesOf_10 ?_
  refine xr_top (show z 2 = nI bz from hz2) ?_
  refine xr_ge_n (tgt := 38) hx hb (by omega) (by omega) dX10_batchesOf_11 (by decide) (fun c_1 => ?_) (fun c_1 => ?_)
  · skip
    refine lv_iload_n hx hb dX10_batchesOf_38 rfl (lv_at hl 1 rfl) ?_
    exact W.iret (v := acc) hx hb hr (fun t ht hW => ⟨_, rfl, (show acc = zcntIf z gq bz from (by rw [hac, show k = bz from by omega])), ht⟩) (fun q h => by cases h) dX10_batchesOf_39
  refine lv_iload_n hx hb dX10_batchesOf_14 rfl (lv_at hl 1 rfl) ?_
  refine xr_cut (g2 := F0 m 30 ls [.int (if zB z k 0 = gq then nI 1 else nI 0), .int acc]) (fun kj_2 => ?_) ?_
  · skip
    refine lv_aload_n hx hb dX10_batchesOf_15 rfl (lv_at hl 2 rfl) ?_
    refine lv_iload_n hx hb dX10_batchesOf_16 rfl (lv_at hl 0 rfl) ?_
    refine lv_iconst (v := nI 0) hx hb dX10_batchesOf_17 (by decide) ?_
    refine xkRi (xV (As := [.int (nI k), .int (nI 0)]) (rest := [.int acc]) (wc := [(h0, .inr (10, [.ref zq, h0_past, h0_kept, h0_spare, h0_pastMany, h0_isKept, h0_text, h0_typed, h0_isUsed, h0_planBatch, h0_planUnits, h0_planCents, h0_planMany, h0_planGot, h0_planSubstitutes, h0_at, h0_fault, h0_entries, h0_entry])), (zq, .inl (cI, 1002, .inl z))]) hx hb hml hown hts (c_X10_ofBatch l dC dI cI cF cC cZ cQ cS h0 zq h0_past h0_kept h0_spare h0_pastMany h0_isKept h0_text h0_typed h0_isUsed h0_planBatch h0_planUnits h0_planCents h0_planMany h0_planGot h0_planSubstitutes h0_at h0_fault h0_entries h0_entry z k 0 (by omega) (by omega)) 2 gX10_batchesOf_X10_ofBatch rfl rfl rfl hdV_X10_ofBatch ⟨Nat.le_of_ble_eq_true rfl, Nat.le_of_ble_eq_true rfl⟩ hN hK hP hD [0, 1] rfl rfl 10 0 rfl rfl rfl hl.1 rfl (Nat.le_of_ble_eq_true rfl) dX10_batchesOf_18 ⟨Nat.zero_le _, Nat.zero_le _⟩) (fun r_3 hr_3 => ?_)
    obtain rfl : r_3 = zB z k 0 := hr_3
    refine lv_iload_n hx hb dX10_batchesOf_21 rfl (lv_at hl 3 rfl) ?_
    refine lv_icmp_ne (tgt := 29) hx hb dX10_batchesOf_22 (by decide) (fun c_4 => ?_) (fun c_4 => ?_)
    · skip
      refine lv_iconst (v := nI 0) hx hb dX10_batchesOf_29 (by decide) ?_
      refine xr_top (show nI 0 = if zB z k 0 = gq then nI 1 else nI 0 from (if_neg c_4).symm) ?_
      exact kj_2
    refine lv_iconst (v := nI 1) hx hb dX10_batchesOf_25 (by decide) ?_
    refine lv_goto (tgt := 30) hx hb dX10_batchesOf_26 (by decide) ?_
    refine xr_top (show nI 1 = if zB z k 0 = gq then nI 1 else nI 0 from (if_pos c_4).symm) ?_
    exact kj_2
  refine lv_iadd hx hb dX10_batchesOf_30 ?_
  refine lv_istore_n (lv' := [(2, .int (acc + (if zB z k 0 = gq then nI 1 else nI 0))), (3, .int (nI k)), (0, .ref h0), (1, .int gq)]) hx hb dX10_batchesOf_31 rfl hl (by decide) rfl (fun ls hl => ?_)
  refine lv_iinc (v := nI (k + 1)) (lv' := [(3, .int (nI (k + 1))), (2, .int (acc + (if zB z k 0 = gq then nI 1 else nI 0))), (0, .ref h0), (1, .int gq)]) hx hb dX10_batchesOf_32 hl (k := 1) rfl (nI_inc1 k) (by decide) rfl (fun ls hl => ?_)
  refine lv_goto (tgt := 4) hx hb dX10_batchesOf_35 (by decide) ?_
  exact ih_4 (bz - (k + 1)) _ _ _ (show bz - (k + 1) < bz - k from by omega) ⟨(k + 1), (acc + (if zB z k 0 = gq then nI 1 else nI 0)), ls, rfl, rfl, rfl, rfl, lv_sub hl [0, 1, 2, 3] rfl, (by omega), (by rw [hac]; rfl)⟩
theorem hdV_X10_sumOfBatches : yX10_sumOfBatches.cls = RX10 ∧ yX10_sumOfBatches.cls ≠ "java/lang/invoke/MethodHandle" ∧ yX10_sumOfBatches.cls ≠ "java/lang/invoke/VarHandle" ∧ (parseMethodDescriptor yX10_sumOfBatches.desc).map (fun d => d.parameters.length) = some 2 := by decide +kernel
set_option maxHeartbeats 4000000 in
set_option maxRecDepth 100000 in
theorem c_X10_sumOfBatches (l : Launch) (dC : Nat → ClassId) (dI : Nat → Nat → Nat) (cI cF cC cZ cQ cS : ClassId) (h0 : Nat) (zq : Nat) (h0_past : Value) (h0_kept : Value) (h0_spare : Value) (h0_pastMany : Value) (h0_isKept : Value) (h0_text : Value) (h0_typed : Value) (h0_isUsed : Value) (h0_planBatch : Value) (h0_planUnits : Value) (h0_planCents : Value) (h0_planMany : Value) (h0_planGot : Value) (h0_planSubstitutes : Value) (h0_at : Value) (h0_fault : Value) (h0_entries : Value) (h0_entry : Value) (z : Nat → Int32) (gq : Int32) (wh : Nat) (bz : Nat) (hz2 : z 2 = nI bz) (hbz : bz ≤ 40) (hwh : wh < 10) : Met l yX10_sumOfBatches wsX10_sumOfBatches ({ frames := 1, cells := 0, slots := 0, locals := 22 }) (xPre (dC, dI) vwCl [.ref h0, .int gq, .int (nI wh)] (xtys cI cF cC cZ cQ cS) [(h0, .inr (10, [.ref zq, h0_past, h0_kept, h0_spare, h0_pastMany, h0_isKept, h0_text, h0_typed, h0_isUsed, h0_planBatch, h0_planUnits, h0_planCents, h0_planMany, h0_planGot, h0_planSubstitutes, h0_at, h0_fault, h0_entries, h0_entry])), (zq, .inl (cI, 1002, .inl z))]) (vp_Si (fun r0 => r0 = zsumOf z wh gq bz)) 0 0 (fun _ => False) := by
  refine Met.ofW (cc := cX10_sumOfBatches) (maxL := 5) (ret := (some .int)) (by decide) rfl ?_
  intro p e s m args below meth c s₁ B hml hv
  obtain ⟨rfl, hP, hK, hD0, hN⟩ := hv
  have hx := B.exec
  have hb := B.bytes
  have hr := B.returns
  have hts := atoms_spec (ws := wsX10_sumOfBatches) B.pre
  have hown : s.vm.findClass RX10 = some m.cls := findClass_of_methodNamed B.named
  have hlocks := B.notSynchronized
  have k_7 := hts (Cond.fieldLink RX10 7 "ShelfStagesModel" "z" "[I") (by decide +kernel)
  have i_X10 : ∀ w ∈ wsX100, w ∈ wsX10_sumOfBatches := by decide +kernel
  have hD := hD0
  have hl := lv_entry ([.ref h0, .int gq, .int (nI wh)]) (n := 5) (Nat.le_of_ble_eq_true rfl)
  rw [lg_entry_eq]
  generalize (lg_sl ([.ref h0, .int gq, .int (nI wh)]) ++ List.replicate (5 - (lg_sl ([.ref h0, .int gq, .int (nI wh)])).length) Slot.unset).toArray = ls at hl ⊢
  have hl : lv_has ls 5 [(0, .ref h0), (1, .int gq), (2, .int (nI wh))] := hl
  refine lv_iconst (v := nI 0) hx hb dX10_sumOfBatches_0 (by decide) ?_
  refine lv_istore_n (lv' := [(3, .int (nI 0)), (0, .ref h0), (1, .int gq), (2, .int (nI wh))]) hx hb dX10_sumOfBatches_1 rfl hl (by decide) rfl (fun ls hl => ?_)
  refine lv_iconst (v := nI 0) hx hb dX10_sumOfBatches_2 (by decide) ?_
  refine lv_istore (lv' := [(4, .int (nI 0)), (3, .int (nI 0)), (0, .ref h0), (1, .int gq), (2, .int (nI wh))]) hx hb dX10_sumOfBatches_3 hl (by decide) rfl (fun ls hl => ?_)
  refine xr_loop (J := Nat) (fun n0 H locs g => ∃ (k : Nat) (acc : Int32) (ls : Array Slot), H = s.heap ∧ locs = [] ∧ n0 = bz - k ∧ g = F0 m 5 ls [] ∧ lv_has ls 5 [(4, .int (nI k)), (3, .int acc), (0, .ref h0), (1, .int gq), (2, .int (nI wh))] ∧ (k ≤ bz) ∧ (acc = zsumOf z wh gq k)) (fun n => n) ?_ (bz - 0) (g := F0 m 5 ls []) ⟨0, (nI 0), ls, rfl, rfl, rfl, rfl, lv_sub hl [0, 1, 2, 3, 4] rfl, (Nat.zero_le _), rfl⟩
  intro n0 ih_5 H locs g hp
  obtain ⟨k, acc, ls, rfl, rfl, rfl, rfl, hl, hk, hac⟩ := hp
  refine lv_iload hx hb dX10_sumOfBatches_5 (lv_at hl 0 rfl) ?_
  refine lv_aload_n hx hb dX10_sumOfBatches_7 rfl (lv_at hl 2 rfl) ?_
  refine va_get (D := (dC, dI)) (ci := 10) (v := .ref zq) (C := RX10) (T := TX10) (N := 19) hx hb hts i_X10 hown hK hP 0 rfl rfl 0 (by decide) k_7 (fun _ h9 => h9) rfl dX10_sumOfBatches_8 ?_
  refine lv_iconst (v := nI 2) hx hb dX10_sumOfBatches_11 (by decide) ?_
  refine xr_iald hx hb hK hP 1 0 rfl rfl (i := 2) (by omega) (by decide) dX10_sumOfBatches_12 ?_
  refine xr_top (show z 2 = nI bz from hz2) ?_
  refine xr_ge_n (tgt := 53) hx hb (by omega) (by omega) dX10_sumOfBatches_13 (by decide) (fun c_1 => ?_) (fun c_1 => ?_)
  · skip
    refine lv_iload_n hx hb dX10_sumOfBatches_53 rfl (lv_at hl 1 rfl) ?_
    exact W.iret (v := acc) hx hb hr (fun t ht hW => ⟨_, rfl, (show acc = zsumOf z wh gq bz from (by rw [hac, show k = bz from by omega])), ht⟩) (fun q h => by cases h) dX10_sumOfBatches_54
  refine lv_iload_n hx hb dX10_sumOfBatches_16 rfl (lv_at hl 1 rfl) ?_
  refine xr_cut (g2 := F0 m 45 ls [.int (if gq = -5 ∨ zB z k 0 = gq then zB z k wh else nI 0), .int acc]) (fun kj_2 => ?_) ?_
  · skip
    refine lv_iload_n hx hb dX10_sumOfBatches_17 rfl (lv_at hl 3 rfl) ?_
    refine lv_bipush (v := (-5)) hx hb dX10_sumOfBatches_18 (by decide) ?_
    refine lv_icmp_eq (tgt := 34) hx hb dX10_sumOfBatches_20 (by decide) (fun c_3 => ?_) (fun c_3 => ?_)
    · skip
      refine lv_aload_n hx hb dX10_sumOfBatches_34 rfl (lv_at hl 2 rfl) ?_
      refine lv_iload hx hb dX10_sumOfBatches_35 (lv_at hl 0 rfl) ?_
      refine lv_iload_n hx hb dX10_sumOfBatches_37 rfl (lv_at hl 4 rfl) ?_
      refine xkRi (xV (As := [.int (nI k), .int (nI wh)]) (rest := [.int acc]) (wc := [(h0, .inr (10, [.ref zq, h0_past, h0_kept, h0_spare, h0_pastMany, h0_isKept, h0_text, h0_typed, h0_isUsed, h0_planBatch, h0_planUnits, h0_planCents, h0_planMany, h0_planGot, h0_planSubstitutes, h0_at, h0_fault, h0_entries, h0_entry])), (zq, .inl (cI, 1002, .inl z))]) hx hb hml hown hts (c_X10_ofBatch l dC dI cI cF cC cZ cQ cS h0 zq h0_past h0_kept h0_spare h0_pastMany h0_isKept h0_text h0_typed h0_isUsed h0_planBatch h0_planUnits h0_planCents h0_planMany h0_planGot h0_planSubstitutes h0_at h0_fault h0_entries h0_entry z k wh (by omega) (by omega)) 2 gX10_sumOfBatches_X10_ofBatch rfl rfl rfl hdV_X10_ofBatch ⟨Nat.le_of_ble_eq_true rfl, Nat.le_of_ble_eq_true rfl⟩ hN hK hP hD [0, 1] rfl rfl 10 0 rfl rfl rfl hl.1 rfl (Nat.le_of_ble_eq_true rfl) dX10_sumOfBatches_38 ⟨Nat.zero_le _, Nat.zero_le _⟩) (fun r_4 hr_4 => ?_)
      obtain rfl : r_4 = zB z k wh := hr_4
      refine lv_goto (tgt := 45) hx hb dX10_sumOfBatches_41 (by decide) ?_
      refine xr_top (show zB z k wh = if gq = -5 ∨ zB z k 0 = gq then zB z k wh else nI 0 from (if_pos (Or.inl c_3)).symm) ?_
      exact kj_2
    refine lv_aload_n hx hb dX10_sumOfBatches_23 rfl (lv_at hl 2 rfl) ?_
    refine lv_iload hx hb dX10_sumOfBatches_24 (lv_at hl 0 rfl) ?_
    refine lv_iconst (v := nI 0) hx hb dX10_sumOfBatches_26 (by decide) ?_
    refine xkRi (xV (As := [.int (nI k), .int (nI 0)]) (rest := [.int acc]) (wc := [(h0, .inr (10, [.ref zq, h0_past, h0_kept, h0_spare, h0_pastMany, h0_isKept, h0_text, h0_typed, h0_isUsed, h0_planBatch, h0_planUnits, h0_planCents, h0_planMany, h0_planGot, h0_planSubstitutes, h0_at, h0_fault, h0_entries, h0_entry])), (zq, .inl (cI, 1002, .inl z))]) hx hb hml hown hts (c_X10_ofBatch l dC dI cI cF cC cZ cQ cS h0 zq h0_past h0_kept h0_spare h0_pastMany h0_isKept h0_text h0_typed h0_isUsed h0_planBatch h0_planUnits h0_planCents h0_planMany h0_planGot h0_planSubstitutes h0_at h0_fault h0_entries h0_entry z k 0 (by omega) (by omega)) 2 gX10_sumOfBatches_X10_ofBatch rfl rfl rfl hdV_X10_ofBatch ⟨Nat.le_of_ble_eq_true rfl, Nat.le_of_ble_eq_true rfl⟩ hN hK hP hD [0, 1] rfl rfl 10 0 rfl rfl rfl hl.1 rfl (Nat.le_of_ble_eq_true rfl) dX10_sumOfBatches_27 ⟨Nat.zero_le _, Nat.zero_le _⟩) (fun r_5 hr_5 => ?_)
    obtain rfl : r_5 = zB z k 0 := hr_5
    refine lv_iload_n hx hb dX10_sumOfBatches_30 rfl (lv_at hl 3 rfl) ?_
    refine lv_icmp_ne (tgt := 44) hx hb dX10_sumOfBatches_31 (by decide) (fun c_6 => ?_) (fun c_6 => ?_)
    · skip
      refine lv_iconst (v := nI 0) hx hb dX10_sumOfBatches_44 (by decide) ?_
      refine xr_top (show nI 0 = if gq = -5 ∨ zB z k 0 = gq then zB z k wh else nI 0 from (if_neg (fun q => q.elim c_3 c_6)).symm) ?_
      exact kj_2
    refine lv_aload_n hx hb dX10_sumOfBatches_34 rfl (lv_at hl 2 rfl) ?_
    refine lv_iload hx hb dX10_sumOfBatches_35 (lv_at hl 0 rfl) ?_
    refine lv_iload_n hx hb dX10_sumOfBatches_37 rfl (lv_at hl 4 rfl) ?_
    refine xkRi (xV (As := [.int (nI k), .int (nI wh)]) (rest := [.int acc]) (wc := [(h0, .inr (10, [.ref zq, h0_past, h0_kept, h0_spare, h0_pastMany, h0_isKept, h0_text, h0_typed, h0_isUsed, h0_planBatch, h0_planUnits, h0_planCents, h0_planMany, h0_planGot, h0_planSubstitutes, h0_at, h0_fault, h0_entries, h0_entry])), (zq, .inl (cI, 1002, .inl z))]) hx hb hml hown hts (c_X10_ofBatch l dC dI cI cF cC cZ cQ cS h0 zq h0_past h0_kept h0_spare h0_pastMany h0_isKept h0_text h0_typed h0_isUsed h0_planBatch h0_planUnits h0_planCents h0_planMany h0_planGot h0_planSubstitutes h0_at h0_fault h0_entries h0_entry z k wh (by omega) (by omega)) 2 gX10_sumOfBatches_X10_ofBatch rfl rfl rfl hdV_X10_ofBatch ⟨Nat.le_of_ble_eq_true rfl, Nat.le_of_ble_eq_true rfl⟩ hN hK hP hD [0, 1] rfl rfl 10 0 rfl rfl rfl hl.1 rfl (Nat.le_of_ble_eq_true rfl) dX10_sumOfBatches_38 ⟨Nat.zero_le _, Nat.zero_le _⟩) (fun r_7 hr_7 => ?_)
    obtain rfl : r_7 = zB z k wh := hr_7
    refine lv_goto (tgt := 45) hx hb dX10_sumOfBatches_41 (by decide) ?_
    refine xr_top (show zB z k wh = if gq = -5 ∨ zB z k 0 = gq then zB z k wh else nI 0 from (if_pos (Or.inr c_6)).symm) ?_
    exact kj_2
  refine lv_iadd hx hb dX10_sumOfBatches_45 ?_
  refine lv_istore_n (lv' := [(3, .int (acc + (if gq = -5 ∨ zB z k 0 = gq then zB z k wh else nI 0))), (4, .int (nI k)), (0, .ref h0), (1, .int gq), (2, .int (nI wh))]) hx hb dX10_sumOfBatches_46 rfl hl (by decide) rfl (fun ls hl => ?_)
  refine lv_iinc (v := nI (k + 1)) (lv' := [(4, .int (nI (k + 1))), (3, .int (acc + (if gq = -5 ∨ zB z k 0 = gq then zB z k wh else nI 0))), (0, .ref h0), (1, .int gq), (2, .int (nI wh))]) hx hb dX10_sumOfBatches_47 hl (k := 1) rfl (nI_inc1 k) (by decide) rfl (fun ls hl => ?_)
  refine lv_goto (tgt := 5) hx hb dX10_sumOfBatches_50 (by decide) ?_
  exact ih_5 (bz - (k + 1)) _ _ _ (show bz - (k + 1) < bz - k from by omega) ⟨(k + 1), (acc + (if gq = -5 ∨ zB z k 0 = gq then zB z k wh else nI 0)), ls, rfl, rfl, rfl, rfl, lv_sub hl [0, 1, 2, 3, 4] rfl, (by omega), (by rw [hac]; rfl)⟩
theorem hdV_X10_ofOrders : yX10_ofOrders.cls = RX10 ∧ yX10_ofOrders.cls ≠ "java/lang/invoke/MethodHandle" ∧ yX10_ofOrders.cls ≠ "java/lang/invoke/VarHandle" ∧ (parseMethodDescriptor yX10_ofOrders.desc).map (fun d => d.parameters.length) = some 1 := by decide +kernel
set_option maxHeartbeats 4000000 in
set_option maxRecDepth 100000 in
theorem c_X10_ofOrders (l : Launch) (dC : Nat → ClassId) (dI : Nat → Nat → Nat) (cI cF cC cZ cQ cS : ClassId) (h0 : Nat) (zq : Nat) (h0_past : Value) (h0_kept : Value) (h0_spare : Value) (h0_pastMany : Value) (h0_isKept : Value) (h0_text : Value) (h0_typed : Value) (h0_isUsed : Value) (h0_planBatch : Value) (h0_planUnits : Value) (h0_planCents : Value) (h0_planMany : Value) (h0_planGot : Value) (h0_planSubstitutes : Value) (h0_at : Value) (h0_fault : Value) (h0_entries : Value) (h0_entry : Value) (z : Nat → Int32) (wt : Int32) (oz : Nat) (hz3 : z 3 = nI oz) (hoz : oz ≤ 30) : Met l yX10_ofOrders wsX10_ofOrders ({ frames := 1, cells := 0, slots := 0, locals := 22 }) (xPre (dC, dI) vwCl [.ref h0, .int wt] (xtys cI cF cC cZ cQ cS) [(h0, .inr (10, [.ref zq, h0_past, h0_kept, h0_spare, h0_pastMany, h0_isKept, h0_text, h0_typed, h0_isUsed, h0_planBatch, h0_planUnits, h0_planCents, h0_planMany, h0_planGot, h0_planSubstitutes, h0_at, h0_fault, h0_entries, h0_entry])), (zq, .inl (cI, 1002, .inl z))]) (vp_Si (fun r0 => r0 = zoo z wt oz)) 0 0 (fun _ => False) := by
  refine Met.ofW (cc := cX10_ofOrders) (maxL := 5) (ret := (some .int)) (by decide) rfl ?_
  intro p e s m args below meth c s₁ B hml hv
  obtain ⟨rfl, hP, hK, hD0, hN⟩ := hv
  have hx := B.exec
  have hb := B.bytes
  have hr := B.returns
  have hts := atoms_spec (ws := wsX10_ofOrders) B.pre
  have hown : s.vm.findClass RX10 = some m.cls := findClass_of_methodNamed B.named
  have hlocks := B.notSynchronized
  have k_7 := hts (Cond.fieldLink RX10 7 "ShelfStagesModel" "z" "[I") (by decide +kernel)
  have i_X10 : ∀ w ∈ wsX100, w ∈ wsX10_ofOrders := by decide +kernel
  have hD := hD0
  have hl := lv_entry ([.ref h0, .int wt]) (n := 5) (Nat.le_of_ble_eq_true rfl)
  rw [lg_entry_eq]
  generalize (lg_sl ([.ref h0, .int wt]) ++ List.replicate (5 - (lg_sl ([.ref h0, .int wt])).length) Slot.unset).toArray = ls at hl ⊢
  have hl : lv_has ls 5 [(0, .ref h0), (1, .int wt)] := hl
  refine lv_iconst (v := nI 0) hx hb dX10_ofOrders_0 (by decide) ?_
  refine lv_istore_n (lv' := [(2, .int (nI 0)), (0, .ref h0), (1, .int wt)]) hx hb dX10_ofOrders_1 rfl hl (by decide) rfl (fun ls hl => ?_)
  refine lv_iconst (v := nI 0) hx hb dX10_ofOrders_2 (by decide) ?_
  refine lv_istore_n (lv' := [(3, .int (nI 0)), (2, .int (nI 0)), (0, .ref h0), (1, .int wt)]) hx hb dX10_ofOrders_3 rfl hl (by decide) rfl (fun ls hl => ?_)
  refine xr_loop (J := Nat) (fun n0 H locs g => ∃ (k : Nat) (acc : Int32) (ls : Array Slot), H = s.heap ∧ locs = [] ∧ n0 = oz - k ∧ g = F0 m 4 ls [] ∧ lv_has ls 5 [(3, .int (nI k)), (2, .int acc), (0, .ref h0), (1, .int wt)] ∧ (k ≤ oz) ∧ (acc = zoo z wt k)) (fun n => n) ?_ (oz - 0) (g := F0 m 4 ls []) ⟨0, (nI 0), ls, rfl, rfl, rfl, rfl, lv_sub hl [0, 1, 2, 3] rfl, (Nat.zero_le _), rfl⟩
  intro n0 ih_4 H locs g hp
  obtain ⟨k, acc, ls, rfl, rfl, rfl, rfl, hl, hk, hac⟩ := hp
  refine lv_iload_n hx hb dX10_ofOrders_4 rfl (lv_at hl 0 rfl) ?_
  refine lv_aload_n hx hb dX10_ofOrders_5 rfl (lv_at hl 2 rfl) ?_
  refine va_get (D := (dC, dI)) (ci := 10) (v := .ref zq) (C := RX10) (T := TX10) (N := 19) hx hb hts i_X10 hown hK hP 0 rfl rfl 0 (by decide) k_7 (fun _ h9 => h9) rfl dX10_ofOrders_6 ?_
  refine lv_iconst (v := nI 3) hx hb dX10_ofOrders_9 (by decide) ?_
  refine xr_iald hx hb hK hP 1 0 rfl rfl (i := 3) (by omega) (by decide) dX10_ofOrders_10 ?_
  refine xr_top (show z 3 = nI oz from hz3) ?_
  refine xr_ge_n (tgt := 75) hx hb (by omega) (by omega) dX10_ofOrders_11 (by decide) (fun c_1 => ?_) (fun c_1 => ?_)
  · skip
    refine lv_iload_n hx hb dX10_ofOrders_75 rfl (lv_at hl 1 rfl) ?_
    exact W.iret (v := acc) hx hb hr (fun t ht hW => ⟨_, rfl, (show acc = zoo z wt oz from (by rw [hac, show k = oz from by omega])), ht⟩) (fun q h => by cases h) dX10_ofOrders_76
  refine lv_aload_n hx hb dX10_ofOrders_14 rfl (lv_at hl 2 rfl) ?_
  refine lv_iload_n hx hb dX10_ofOrders_15 rfl (lv_at hl 0 rfl) ?_
  refine lv_iconst (v := nI 2) hx hb dX10_ofOrders_16 (by decide) ?_
  refine xkRi (xV (As := [.int (nI k), .int (nI 2)]) (rest := []) (wc := [(h0, .inr (10, [.ref zq, h0_past, h0_kept, h0_spare, h0_pastMany, h0_isKept, h0_text, h0_typed, h0_isUsed, h0_planBatch, h0_planUnits, h0_planCents, h0_planMany, h0_planGot, h0_planSubstitutes, h0_at, h0_fault, h0_entries, h0_entry])), (zq, .inl (cI, 1002, .inl z))]) hx hb hml hown hts (c_X10_ofOrder l dC dI cI cF cC cZ cQ cS h0 zq h0_past h0_kept h0_spare h0_pastMany h0_isKept h0_text h0_typed h0_isUsed h0_planBatch h0_planUnits h0_planCents h0_planMany h0_planGot h0_planSubstitutes h0_at h0_fault h0_entries h0_entry z k 2 (by omega) (by omega)) 2 gX10_ofOrders_X10_ofOrder rfl rfl rfl hdV_X10_ofOrder ⟨Nat.le_of_ble_eq_true rfl, Nat.le_of_ble_eq_true rfl⟩ hN hK hP hD [0, 1] rfl rfl 10 0 rfl rfl rfl hl.1 rfl (Nat.le_of_ble_eq_true rfl) dX10_ofOrders_17 ⟨Nat.zero_le _, Nat.zero_le _⟩) (fun r_2 hr_2 => ?_)
  obtain rfl : r_2 = zO z k 2 := hr_2
  refine lv_istore (lv' := [(4, .int (zO z k 2)), (3, .int (nI k)), (2, .int acc), (0, .ref h0), (1, .int wt)]) hx hb dX10_ofOrders_20 hl (by decide) rfl (fun ls hl => ?_)
  refine lv_iload_n hx hb dX10_ofOrders_22 rfl (lv_at hl 2 rfl) ?_
  refine xr_cut (g2 := F0 m 67 ls [.int (if wt = nI 11 then zO z k 1 - zO z k 2 else if wt = nI 12 then (if zO z k 2 = 0 then nI 1 else nI 0) else zO z k 6), .int acc]) (fun kj_3 => ?_) ?_
  · skip
    refine lv_iload_n hx hb dX10_ofOrders_23 rfl (lv_at hl 4 rfl) ?_
    refine lv_bipush (v := nI 11) hx hb dX10_ofOrders_24 (by decide) ?_
    refine lv_icmp_ne (tgt := 41) hx hb dX10_ofOrders_26 (by decide) (fun c_4 => ?_) (fun c_4 => ?_)
    · skip
      refine lv_iload_n hx hb dX10_ofOrders_41 rfl (lv_at hl 4 rfl) ?_
      refine lv_bipush (v := nI 12) hx hb dX10_ofOrders_42 (by decide) ?_
      refine lv_icmp_ne (tgt := 60) hx hb dX10_ofOrders_44 (by decide) (fun c_5 => ?_) (fun c_5 => ?_)
      · skip
        refine lv_aload_n hx hb dX10_ofOrders_60 rfl (lv_at hl 3 rfl) ?_
        refine lv_iload_n hx hb dX10_ofOrders_61 rfl (lv_at hl 1 rfl) ?_
        refine lv_bipush (v := nI 6) hx hb dX10_ofOrders_62 (by decide) ?_
        refine xkRi (xV (As := [.int (nI k), .int (nI 6)]) (rest := [.int acc]) (wc := [(h0, .inr (10, [.ref zq, h0_past, h0_kept, h0_spare, h0_pastMany, h0_isKept, h0_text, h0_typed, h0_isUsed, h0_planBatch, h0_planUnits, h0_planCents, h0_planMany, h0_planGot, h0_planSubstitutes, h0_at, h0_fault, h0_entries, h0_entry])), (zq, .inl (cI, 1002, .inl z))]) hx hb hml hown hts (c_X10_ofOrder l dC dI cI cF cC cZ cQ cS h0 zq h0_past h0_kept h0_spare h0_pastMany h0_isKept h0_text h0_typed h0_isUsed h0_planBatch h0_planUnits h0_planCents h0_planMany h0_planGot h0_planSubstitutes h0_at h0_fault h0_entries h0_entry z k 6 (by omega) (by omega)) 2 gX10_ofOrders_X10_ofOrder rfl rfl rfl hdV_X10_ofOrder ⟨Nat.le_of_ble_eq_true rfl, Nat.le_of_ble_eq_true rfl⟩ hN hK hP hD [0, 1] rfl rfl 10 0 rfl rfl rfl hl.1 rfl (Nat.le_of_ble_eq_true rfl) dX10_ofOrders_64 ⟨Nat.zero_le _, Nat.zero_le _⟩) (fun r_6 hr_6 => ?_)
        obtain rfl : r_6 = zO z k 6 := hr_6
        refine xr_top (show zO z k 6 = if wt = nI 11 then zO z k 1 - zO z k 2 else if wt = nI 12 then (if zO z k 2 = 0 then nI 1 else nI 0) else zO z k 6 from (by rw [if_neg c_4, if_neg c_5])) ?_
        exact kj_3
      refine lv_iload hx hb dX10_ofOrders_47 (lv_at hl 0 rfl) ?_
      refine lv_if_ne (tgt := 56) hx hb dX10_ofOrders_49 (by decide) (fun c_7 => ?_) (fun c_7 => ?_)
      · skip
        refine lv_iconst (v := nI 0) hx hb dX10_ofOrders_56 (by decide) ?_
        refine lv_goto (tgt := 67) hx hb dX10_ofOrders_57 (by decide) ?_
        refine xr_top (show nI 0 = if wt = nI 11 then zO z k 1 - zO z k 2 else if wt = nI 12 then (if zO z k 2 = 0 then nI 1 else nI 0) else zO z k 6 from (by rw [if_neg c_4, if_pos c_5, if_neg c_7])) ?_
        exact kj_3
      refine lv_iconst (v := nI 1) hx hb dX10_ofOrders_52 (by decide) ?_
      refine lv_goto (tgt := 67) hx hb dX10_ofOrders_53 (by decide) ?_
      refine xr_top (show nI 1 = if wt = nI 11 then zO z k 1 - zO z k 2 else if wt = nI 12 then (if zO z k 2 = 0 then nI 1 else nI 0) else zO z k 6 from (by rw [if_neg c_4, if_pos c_5, if_pos c_7])) ?_
      exact kj_3
    refine lv_aload_n hx hb dX10_ofOrders_29 rfl (lv_at hl 3 rfl) ?_
    refine lv_iload_n hx hb dX10_ofOrders_30 rfl (lv_at hl 1 rfl) ?_
    refine lv_iconst (v := nI 1) hx hb dX10_ofOrders_31 (by decide) ?_
    refine xkRi (xV (As := [.int (nI k), .int (nI 1)]) (rest := [.int acc]) (wc := [(h0, .inr (10, [.ref zq, h0_past, h0_kept, h0_spare, h0_pastMany, h0_isKept, h0_text, h0_typed, h0_isUsed, h0_planBatch, h0_planUnits, h0_planCents, h0_planMany, h0_planGot, h0_planSubstitutes, h0_at, h0_fault, h0_entries, h0_entry])), (zq, .inl (cI, 1002, .inl z))]) hx hb hml hown hts (c_X10_ofOrder l dC dI cI cF cC cZ cQ cS h0 zq h0_past h0_kept h0_spare h0_pastMany h0_isKept h0_text h0_typed h0_isUsed h0_planBatch h0_planUnits h0_planCents h0_planMany h0_planGot h0_planSubstitutes h0_at h0_fault h0_entries h0_entry z k 1 (by omega) (by omega)) 2 gX10_ofOrders_X10_ofOrder rfl rfl rfl hdV_X10_ofOrder ⟨Nat.le_of_ble_eq_true rfl, Nat.le_of_ble_eq_true rfl⟩ hN hK hP hD [0, 1] rfl rfl 10 0 rfl rfl rfl hl.1 rfl (Nat.le_of_ble_eq_true rfl) dX10_ofOrders_32 ⟨Nat.zero_le _, Nat.zero_le _⟩) (fun r_8 hr_8 => ?_)
    obtain rfl : r_8 = zO z k 1 := hr_8
    refine lv_iload hx hb dX10_ofOrders_35 (lv_at hl 0 rfl) ?_
    refine lv_isub hx hb dX10_ofOrders_37 ?_
    refine lv_goto (tgt := 67) hx hb dX10_ofOrders_38 (by decide) ?_
    refine xr_top (show (zO z k 1) - (zO z k 2) = if wt = nI 11 then zO z k 1 - zO z k 2 else if wt = nI 12 then (if zO z k 2 = 0 then nI 1 else nI 0) else zO z k 6 from (if_pos c_4).symm) ?_
    exact kj_3
  refine lv_iadd hx hb dX10_ofOrders_67 ?_
  refine lv_istore_n (lv' := [(2, .int (acc + (if wt = nI 11 then zO z k 1 - zO z k 2 else if wt = nI 12 then (if zO z k 2 = 0 then nI 1 else nI 0) else zO z k 6))), (4, .int (zO z k 2)), (3, .int (nI k)), (0, .ref h0), (1, .int wt)]) hx hb dX10_ofOrders_68 rfl hl (by decide) rfl (fun ls hl => ?_)
  refine lv_iinc (v := nI (k + 1)) (lv' := [(3, .int (nI (k + 1))), (2, .int (acc + (if wt = nI 11 then zO z k 1 - zO z k 2 else if wt = nI 12 then (if zO z k 2 = 0 then nI 1 else nI 0) else zO z k 6))), (4, .int (zO z k 2)), (0, .ref h0), (1, .int wt)]) hx hb dX10_ofOrders_69 hl (k := 2) rfl (nI_inc1 k) (by decide) rfl (fun ls hl => ?_)
  refine lv_goto (tgt := 4) hx hb dX10_ofOrders_72 (by decide) ?_
  exact ih_4 (oz - (k + 1)) _ _ _ (show oz - (k + 1) < oz - k from by omega) ⟨(k + 1), (acc + (if wt = nI 11 then zO z k 1 - zO z k 2 else if wt = nI 12 then (if zO z k 2 = 0 then nI 1 else nI 0) else zO z k 6)), ls, rfl, rfl, rfl, rfl, lv_sub hl [0, 1, 3, 4] rfl, (by omega), (by rw [hac]; rfl)⟩
