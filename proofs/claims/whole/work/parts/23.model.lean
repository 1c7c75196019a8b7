theorem hdV_X10_expire : yX10_expire.cls = RX10 ∧ yX10_expire.cls ≠ "java/lang/invoke/MethodHandle" ∧ yX10_expire.cls ≠ "java/lang/invoke/VarHandle" ∧ (parseMethodDescriptor yX10_expire.desc).map (fun d => d.parameters.length) = some 0 := by decide +kernel
set_option maxHeartbeats 4000000 in
set_option maxRecDepth 100000 in
theorem c_X10_expire (l : Launch) (dC : Nat → ClassId) (dI : Nat → Nat → Nat) (cI cF cC cZ cQ cS : ClassId) (h0 : Nat) (zq : Nat) (h0_past : Value) (h0_kept : Value) (h0_spare : Value) (h0_pastMany : Value) (h0_isKept : Value) (h0_text : Value) (h0_typed : Value) (h0_isUsed : Value) (h0_planBatch : Value) (h0_planUnits : Value) (h0_planCents : Value) (h0_planMany : Value) (h0_planGot : Value) (h0_planSubstitutes : Value) (h0_at : Value) (h0_fault : Value) (h0_entries : Value) (h0_entry : Value) (z : Nat → Int32) (bz : Nat) (hz2 : z 2 = nI bz) (hbz : bz ≤ 40) : Met l yX10_expire wsX10_expire ({ frames := 2, cells := 0, slots := 0, locals := 47 }) (xPre (dC, dI) vwCl [.ref h0] (xtys cI cF cC cZ cQ cS) [(h0, .inr (10, [.ref zq, h0_past, h0_kept, h0_spare, h0_pastMany, h0_isKept, h0_text, h0_typed, h0_isUsed, h0_planBatch, h0_planUnits, h0_planCents, h0_planMany, h0_planGot, h0_planSubstitutes, h0_at, h0_fault, h0_entries, h0_entry])), (zq, .inl (cI, 1002, .inl z))]) (xWi (dC, dI) vwCl [(h0, .inr (10, [.ref zq, h0_past, h0_kept, h0_spare, h0_pastMany, h0_isKept, h0_text, h0_typed, h0_isUsed, h0_planBatch, h0_planUnits, h0_planCents, h0_planMany, h0_planGot, h0_planSubstitutes, h0_at, h0_fault, h0_entries, h0_entry])), (zq, .inl (cI, 1002, .inl z))] (fun r0 w0 => r0 = (zexp z bz bz).1 ∧ w0 = [(h0, .inr (10, [.ref zq, h0_past, h0_kept, h0_spare, h0_pastMany, h0_isKept, h0_text, h0_typed, h0_isUsed, h0_planBatch, h0_planUnits, h0_planCents, h0_planMany, h0_planGot, h0_planSubstitutes, h0_at, h0_fault, h0_entries, h0_entry])), (zq, .inl (cI, 1002, .inl ((zexp z bz bz).2)))])) 0 0 (va_B [(h0, .inr (10, [.ref zq, h0_past, h0_kept, h0_spare, h0_pastMany, h0_isKept, h0_text, h0_typed, h0_isUsed, h0_planBatch, h0_planUnits, h0_planCents, h0_planMany, h0_planGot, h0_planSubstitutes, h0_at, h0_fault, h0_entries, h0_entry])), (zq, .inl (cI, 1002, .inl z))]) := by
  refine Met.ofW (cc := cX10_expire) (maxL := 4) (ret := (some .int)) (by decide) rfl ?_
  intro p e s m args below meth c s₁ B hml hv
  obtain ⟨rfl, hP, hK, hD0, hN⟩ := hv
  have hx := B.exec
  have hb := B.bytes
  have hr := B.returns
  have hts := atoms_spec (ws := wsX10_expire) B.pre
  have hown : s.vm.findClass RX10 = some m.cls := findClass_of_methodNamed B.named
  have hlocks := B.notSynchronized
  have k_7 := hts (Cond.fieldLink RX10 7 "ShelfStagesModel" "z" "[I") (by decide +kernel)
  have i_X10 : ∀ w ∈ wsX100, w ∈ wsX10_expire := by decide +kernel
  obtain ⟨A, hA⟩ : ∃ A, A = va_B [(h0, .inr (10, [.ref zq, h0_past, h0_kept, h0_spare, h0_pastMany, h0_isKept, h0_text, h0_typed, h0_isUsed, h0_planBatch, h0_planUnits, h0_planCents, h0_planMany, h0_planGot, h0_planSubstitutes, h0_at, h0_fault, h0_entries, h0_entry])), (zq, .inl (cI, 1002, .inl z))] := ⟨_, rfl⟩
  have hD : va_D A [(h0, .inr (10, [.ref zq, h0_past, h0_kept, h0_spare, h0_pastMany, h0_isKept, h0_text, h0_typed, h0_isUsed, h0_planBatch, h0_planUnits, h0_planCents, h0_planMany, h0_planGot, h0_planSubstitutes, h0_at, h0_fault, h0_entries, h0_entry])), (zq, .inl (cI, 1002, .inl z))] := hA ▸ hD0.own
  have hS : va_S A s.heap s.heap [] := va_S.rf
  have hl := lv_entry ([.ref h0]) (n := 4) (Nat.le_of_ble_eq_true rfl)
  rw [lg_entry_eq]
  generalize (lg_sl ([.ref h0]) ++ List.replicate (4 - (lg_sl ([.ref h0])).length) Slot.unset).toArray = ls at hl ⊢
  have hl : lv_has ls 4 [(0, .ref h0)] := hl
  refine lv_iconst (v := nI 0) hx hb dX10_expire_0 (by decide) ?_
  refine lv_istore_n (lv' := [(1, .int (nI 0)), (0, .ref h0)]) hx hb dX10_expire_1 rfl hl (by decide) rfl (fun ls hl => ?_)
  refine lv_iconst (v := nI 0) hx hb dX10_expire_2 (by decide) ?_
  refine lv_istore_n (lv' := [(2, .int (nI 0)), (1, .int (nI 0)), (0, .ref h0)]) hx hb dX10_expire_3 rfl hl (by decide) rfl (fun ls hl => ?_)
  refine xr_loop (J := Nat) (fun n0 H locs g => ∃ (k : Nat) (q : Int32 × (Nat → Int32)) (ls : Array Slot), n0 = bz - k ∧ g = F0 m 4 ls [] ∧ lv_has ls 4 [(2, .int (nI k)), (1, .int q.1), (0, .ref h0)] ∧ va_P (dC, dI) vwCl [(h0, .inr (10, [.ref zq, h0_past, h0_kept, h0_spare, h0_pastMany, h0_isKept, h0_text, h0_typed, h0_isUsed, h0_planBatch, h0_planUnits, h0_planCents, h0_planMany, h0_planGot, h0_planSubstitutes, h0_at, h0_fault, h0_entries, h0_entry])), (zq, .inl (cI, 1002, .inl q.2))] H ∧ va_D A [(h0, .inr (10, [.ref zq, h0_past, h0_kept, h0_spare, h0_pastMany, h0_isKept, h0_text, h0_typed, h0_isUsed, h0_planBatch, h0_planUnits, h0_planCents, h0_planMany, h0_planGot, h0_planSubstitutes, h0_at, h0_fault, h0_entries, h0_entry])), (zq, .inl (cI, 1002, .inl q.2))] ∧ va_S A s.heap H locs ∧ (k ≤ bz) ∧ (q.2 2 = nI bz) ∧ (q = zexp z bz k)) (fun n => n) ?_ (bz - 0) (g := F0 m 4 ls []) ⟨0, (nI 0, z), ls, rfl, rfl, lv_sub hl [0, 1, 2] rfl, hP, hD, hS, (Nat.zero_le _), hz2, rfl⟩
  intro n0 ih_4 H locs g hp
  obtain ⟨k, q, ls, rfl, rfl, hl, hP, hD, hS, hk, hq2, hq⟩ := hp
  refine lv_iload_n hx hb dX10_expire_4 rfl (lv_at hl 0 rfl) ?_
  refine lv_aload_n hx hb dX10_expire_5 rfl (lv_at hl 2 rfl) ?_
  refine va_get (D := (dC, dI)) (ci := 10) (v := .ref zq) (C := RX10) (T := TX10) (N := 19) hx hb hts i_X10 hown hK hP 0 rfl rfl 0 (by decide) k_7 (fun _ h9 => h9) rfl dX10_expire_6 ?_
  refine lv_iconst (v := nI 2) hx hb dX10_expire_9 (by decide) ?_
  refine xr_iald hx hb hK hP 1 0 rfl rfl (i := 2) (by omega) (by decide) dX10_expire_10 ?_
  refine xr_top (show q.2 2 = nI bz from hq2) ?_
  refine xr_ge_n (tgt := 51) hx hb (by omega) (by omega) dX10_expire_11 (by decide) (fun c_1 => ?_) (fun c_1 => ?_)
  · skip
    refine lv_iload_n hx hb dX10_expire_51 rfl (lv_at hl 1 rfl) ?_
    have hE : q = zexp z bz bz := by rw [hq, show k = bz from by omega]
    subst hE
    have hP9 : va_P (dC, dI) vwCl [(h0, .inr (10, [.ref zq, h0_past, h0_kept, h0_spare, h0_pastMany, h0_isKept, h0_text, h0_typed, h0_isUsed, h0_planBatch, h0_planUnits, h0_planCents, h0_planMany, h0_planGot, h0_planSubstitutes, h0_at, h0_fault, h0_entries, h0_entry])), (zq, .inl (cI, 1002, .inl ((zexp z bz bz).2)))] H := hP
    have hS9 : va_S (va_B [(h0, .inr (10, [.ref zq, h0_past, h0_kept, h0_spare, h0_pastMany, h0_isKept, h0_text, h0_typed, h0_isUsed, h0_planBatch, h0_planUnits, h0_planCents, h0_planMany, h0_planGot, h0_planSubstitutes, h0_at, h0_fault, h0_entries, h0_entry])), (zq, .inl (cI, 1002, .inl z))]) s.heap H locs := by rw [← hA]; exact hS
    exact W.iret (v := (zexp z bz bz).1) hx hb hr (fun t ht hW => ⟨⟨_, _, rfl, ⟨(show (zexp z bz bz).1 = (zexp z bz bz).1 from rfl), rfl⟩, by rw [ht]; exact hP9⟩, hS9.X ht⟩) hS9.2.2 dX10_expire_52
  refine lv_aload_n hx hb dX10_expire_14 rfl (lv_at hl 2 rfl) ?_
  refine lv_iload_n hx hb dX10_expire_15 rfl (lv_at hl 0 rfl) ?_
  refine lv_iconst (v := nI 3) hx hb dX10_expire_16 (by decide) ?_
  refine xkRi (xV (As := [.int (nI k), .int (nI 3)]) (rest := []) (wc := [(h0, .inr (10, [.ref zq, h0_past, h0_kept, h0_spare, h0_pastMany, h0_isKept, h0_text, h0_typed, h0_isUsed, h0_planBatch, h0_planUnits, h0_planCents, h0_planMany, h0_planGot, h0_planSubstitutes, h0_at, h0_fault, h0_entries, h0_entry])), (zq, .inl (cI, 1002, .inl q.2))]) hx hb hml hown hts (c_X10_ofBatch l dC dI cI cF cC cZ cQ cS h0 zq h0_past h0_kept h0_spare h0_pastMany h0_isKept h0_text h0_typed h0_isUsed h0_planBatch h0_planUnits h0_planCents h0_planMany h0_planGot h0_planSubstitutes h0_at h0_fault h0_entries h0_entry q.2 k 3 (by omega) (by omega)) 2 gX10_expire_X10_ofBatch rfl rfl rfl hdV_X10_ofBatch ⟨Nat.le_of_ble_eq_true rfl, Nat.le_of_ble_eq_true rfl⟩ hN hK hP hD [0, 1] rfl rfl 10 0 rfl rfl rfl hl.1 rfl (Nat.le_of_ble_eq_true rfl) dX10_expire_17 ⟨Nat.zero_le _, Nat.zero_le _⟩) (fun r_2 hr_2 => ?_)
  obtain rfl : r_2 = zB q.2 k 3 := hr_2
  refine lv_istore_n (lv' := [(3, .int (zB q.2 k 3)), (2, .int (nI k)), (1, .int q.1), (0, .ref h0)]) hx hb dX10_expire_20 rfl hl (by decide) rfl (fun ls hl => ?_)
  refine lv_iload_n hx hb dX10_expire_21 rfl (lv_at hl 0 rfl) ?_
  refine lv_if_le (tgt := 45) hx hb dX10_expire_22 (by decide) (fun c_3 => ?_) (fun c_3 => ?_)
  · skip
    refine lv_iinc (v := nI (k + 1)) (lv' := [(2, .int (nI (k + 1))), (3, .int (zB q.2 k 3)), (1, .int q.1), (0, .ref h0)]) hx hb dX10_expire_45 hl (k := 1) rfl (nI_inc1 k) (by decide) rfl (fun ls hl => ?_)
    refine lv_goto (tgt := 4) hx hb dX10_expire_48 (by decide) ?_
    exact ih_4 (bz - (k + 1)) _ _ _ (show bz - (k + 1) < bz - k from by omega) ⟨(k + 1), (q.1, q.2), ls, rfl, rfl, lv_sub hl [0, 2, 3] rfl, hP, hD, hS, (by omega), hq2, (zexp_2 hq (fun z9 => z9.1 c_3))⟩
  refine lv_aload_n hx hb dX10_expire_25 rfl (lv_at hl 3 rfl) ?_
  refine lv_iload_n hx hb dX10_expire_26 rfl (lv_at hl 1 rfl) ?_
  refine lv_iconst (v := nI 2) hx hb dX10_expire_27 (by decide) ?_
  refine xkRi (xV (As := [.int (nI k), .int (nI 2)]) (rest := []) (wc := [(h0, .inr (10, [.ref zq, h0_past, h0_kept, h0_spare, h0_pastMany, h0_isKept, h0_text, h0_typed, h0_isUsed, h0_planBatch, h0_planUnits, h0_planCents, h0_planMany, h0_planGot, h0_planSubstitutes, h0_at, h0_fault, h0_entries, h0_entry])), (zq, .inl (cI, 1002, .inl q.2))]) hx hb hml hown hts (c_X10_ofBatch l dC dI cI cF cC cZ cQ cS h0 zq h0_past h0_kept h0_spare h0_pastMany h0_isKept h0_text h0_typed h0_isUsed h0_planBatch h0_planUnits h0_planCents h0_planMany h0_planGot h0_planSubstitutes h0_at h0_fault h0_entries h0_entry q.2 k 2 (by omega) (by omega)) 2 gX10_expire_X10_ofBatch rfl rfl rfl hdV_X10_ofBatch ⟨Nat.le_of_ble_eq_true rfl, Nat.le_of_ble_eq_true rfl⟩ hN hK hP hD [0, 1] rfl rfl 10 0 rfl rfl rfl hl.1 rfl (Nat.le_of_ble_eq_true rfl) dX10_expire_28 ⟨Nat.zero_le _, Nat.zero_le _⟩) (fun r_4 hr_4 => ?_)
  obtain rfl : r_4 = zB q.2 k 2 := hr_4
  refine lv_if_ne (tgt := 45) hx hb dX10_expire_31 (by decide) (fun c_5 => ?_) (fun c_5 => ?_)
  · skip
    refine lv_iinc (v := nI (k + 1)) (lv' := [(2, .int (nI (k + 1))), (3, .int (zB q.2 k 3)), (1, .int q.1), (0, .ref h0)]) hx hb dX10_expire_45 hl (k := 1) rfl (nI_inc1 k) (by decide) rfl (fun ls hl => ?_)
    refine lv_goto (tgt := 4) hx hb dX10_expire_48 (by decide) ?_
    exact ih_4 (bz - (k + 1)) _ _ _ (show bz - (k + 1) < bz - k from by omega) ⟨(k + 1), (q.1, q.2), ls, rfl, rfl, lv_sub hl [0, 2, 3] rfl, hP, hD, hS, (by omega), hq2, (zexp_2 hq (fun z9 => c_5 z9.2))⟩
  refine lv_aload_n hx hb dX10_expire_34 rfl (lv_at hl 3 rfl) ?_
  refine lv_iload_n hx hb dX10_expire_35 rfl (lv_at hl 1 rfl) ?_
  refine lv_iload_n hx hb dX10_expire_36 rfl (lv_at hl 0 rfl) ?_
  refine lv_iconst (v := nI 0) hx hb dX10_expire_37 (by decide) ?_
  refine xkV2 (xV (As := [.int (nI k), .int (zB q.2 k 3), .int (nI 0)]) (rest := []) (wc := [(h0, .inr (10, [.ref zq, h0_past, h0_kept, h0_spare, h0_pastMany, h0_isKept, h0_text, h0_typed, h0_isUsed, h0_planBatch, h0_planUnits, h0_planCents, h0_planMany, h0_planGot, h0_planSubstitutes, h0_at, h0_fault, h0_entries, h0_entry])), (zq, .inl (cI, 1002, .inl q.2))]) hx hb hml hown hts (c_X10_waste l dC dI cI cF cC cZ cQ cS h0 zq h0_past h0_kept h0_spare h0_pastMany h0_isKept h0_text h0_typed h0_isUsed h0_planBatch h0_planUnits h0_planCents h0_planMany h0_planGot h0_planSubstitutes h0_at h0_fault h0_entries h0_entry q.2 k (zB q.2 k 3) 0 (by omega) (by omega)) 3 gX10_expire_X10_waste rfl rfl rfl hdV_X10_waste ⟨Nat.le_of_ble_eq_true rfl, Nat.le_of_ble_eq_true rfl⟩ hN hK hP hD [0, 1] rfl rfl 10 0 rfl rfl rfl hl.1 rfl (Nat.le_of_ble_eq_true rfl) dX10_expire_38 ⟨Nat.zero_le _, Nat.zero_le _⟩) hP hD hS [0, 1] [0, 1] rfl rfl 2 rfl (by decide +kernel) (fun H locs hP hD hS => ?_)
  have hP : va_P (dC, dI) vwCl [(h0, .inr (10, [.ref zq, h0_past, h0_kept, h0_spare, h0_pastMany, h0_isKept, h0_text, h0_typed, h0_isUsed, h0_planBatch, h0_planUnits, h0_planCents, h0_planMany, h0_planGot, h0_planSubstitutes, h0_at, h0_fault, h0_entries, h0_entry])), (zq, .inl (cI, 1002, .inl (zwaste q.2 k (zB q.2 k 3) 0)))] H := hP
  have hD : va_D A [(h0, .inr (10, [.ref zq, h0_past, h0_kept, h0_spare, h0_pastMany, h0_isKept, h0_text, h0_typed, h0_isUsed, h0_planBatch, h0_planUnits, h0_planCents, h0_planMany, h0_planGot, h0_planSubstitutes, h0_at, h0_fault, h0_entries, h0_entry])), (zq, .inl (cI, 1002, .inl (zwaste q.2 k (zB q.2 k 3) 0)))] := hD
  refine lv_iload_n hx hb dX10_expire_41 rfl (lv_at hl 2 rfl) ?_
  refine lv_iload_n hx hb dX10_expire_42 rfl (lv_at hl 0 rfl) ?_
  refine lv_iadd hx hb dX10_expire_43 ?_
  refine lv_istore_n (lv' := [(1, .int (q.1 + (zB q.2 k 3))), (3, .int (zB q.2 k 3)), (2, .int (nI k)), (0, .ref h0)]) hx hb dX10_expire_44 rfl hl (by decide) rfl (fun ls hl => ?_)
  refine lv_iinc (v := nI (k + 1)) (lv' := [(2, .int (nI (k + 1))), (1, .int (q.1 + (zB q.2 k 3))), (3, .int (zB q.2 k 3)), (0, .ref h0)]) hx hb dX10_expire_45 hl (k := 2) rfl (nI_inc1 k) (by decide) rfl (fun ls hl => ?_)
  refine lv_goto (tgt := 4) hx hb dX10_expire_48 (by decide) ?_
  exact ih_4 (bz - (k + 1)) _ _ _ (show bz - (k + 1) < bz - k from by omega) ⟨(k + 1), (q.1 + (zB q.2 k 3), zwaste q.2 k (zB q.2 k 3) 0), ls, rfl, rfl, lv_sub hl [0, 1, 3] rfl, hP, hD, hS, (by omega), (show zwaste q.2 k (zB q.2 k 3) 0 2 = nI bz from zwaste_2.trans hq2), (show (q.1 + zB q.2 k 3, zwaste q.2 k (zB q.2 k 3) 0) = zexp z bz (k + 1) from zexp_1 hq c_3 c_5)⟩
theorem hdV_X10_donate : yX10_donate.cls = RX10 ∧ yX10_donate.cls ≠ "java/lang/invoke/MethodHandle" ∧ yX10_donate.cls ≠ "java/lang/invoke/VarHandle" ∧ (parseMethodDescriptor yX10_donate.desc).map (fun d => d.parameters.length) = some 0 := by decide +kernel
set_option maxHeartbeats 4000000 in
set_option maxRecDepth 100000 in
theorem c_X10_donate (l : Launch) (dC : Nat → ClassId) (dI : Nat → Nat → Nat) (cI cF cC cZ cQ cS : ClassId) (h0 : Nat) (zq : Nat) (h0_past : Value) (h0_kept : Value) (h0_spare : Value) (h0_pastMany : Value) (h0_isKept : Value) (h0_text : Value) (h0_typed : Value) (h0_isUsed : Value) (h0_planBatch : Value) (h0_planUnits : Value) (h0_planCents : Value) (h0_planMany : Value) (h0_planGot : Value) (h0_planSubstitutes : Value) (h0_at : Value) (h0_fault : Value) (h0_entries : Value) (h0_entry : Value) (z : Nat → Int32) (bz : Nat) (hz2 : z 2 = nI bz) (hbz : bz ≤ 40) (hgi : zidx z bz) : Met l yX10_donate wsX10_donate ({ frames := 2, cells := 0, slots := 0, locals := 45 }) (xPre (dC, dI) vwCl [.ref h0] (xtys cI cF cC cZ cQ cS) [(h0, .inr (10, [.ref zq, h0_past, h0_kept, h0_spare, h0_pastMany, h0_isKept, h0_text, h0_typed, h0_isUsed, h0_planBatch, h0_planUnits, h0_planCents, h0_planMany, h0_planGot, h0_planSubstitutes, h0_at, h0_fault, h0_entries, h0_entry])), (zq, .inl (cI, 1002, .inl z))]) (xWv (dC, dI) vwCl [(h0, .inr (10, [.ref zq, h0_past, h0_kept, h0_spare, h0_pastMany, h0_isKept, h0_text, h0_typed, h0_isUsed, h0_planBatch, h0_planUnits, h0_planCents, h0_planMany, h0_planGot, h0_planSubstitutes, h0_at, h0_fault, h0_entries, h0_entry])), (zq, .inl (cI, 1002, .inl z))] (fun w0 => w0 = [(h0, .inr (10, [.ref zq, h0_past, h0_kept, h0_spare, h0_pastMany, h0_isKept, h0_text, h0_typed, h0_isUsed, h0_planBatch, h0_planUnits, h0_planCents, h0_planMany, h0_planGot, h0_planSubstitutes, h0_at, h0_fault, h0_entries, h0_entry])), (zq, .inl (cI, 1002, .inl ((zdon (z 6, z) bz).2)))])) 0 0 (va_B [(h0, .inr (10, [.ref zq, h0_past, h0_kept, h0_spare, h0_pastMany, h0_isKept, h0_text, h0_typed, h0_isUsed, h0_planBatch, h0_planUnits, h0_planCents, h0_planMany, h0_planGot, h0_planSubstitutes, h0_at, h0_fault, h0_entries, h0_entry])), (zq, .inl (cI, 1002, .inl z))]) := by
  refine Met.ofW (cc := cX10_donate) (maxL := 5) (ret := none) (by decide) rfl ?_
  intro p e s m args below meth c s₁ B hml hv
  obtain ⟨rfl, hP, hK, hD0, hN⟩ := hv
  have hx := B.exec
  have hb := B.bytes
  have hr := B.returns
  have hts := atoms_spec (ws := wsX10_donate) B.pre
  have hown : s.vm.findClass RX10 = some m.cls := findClass_of_methodNamed B.named
  have hlocks := B.notSynchronized
  have k_7 := hts (Cond.fieldLink RX10 7 "ShelfStagesModel" "z" "[I") (by decide +kernel)
  have i_X10 : ∀ w ∈ wsX100, w ∈ wsX10_donate := by decide +kernel
  obtain ⟨A, hA⟩ : ∃ A, A = va_B [(h0, .inr (10, [.ref zq, h0_past, h0_kept, h0_spare, h0_pastMany, h0_isKept, h0_text, h0_typed, h0_isUsed, h0_planBatch, h0_planUnits, h0_planCents, h0_planMany, h0_planGot, h0_planSubstitutes, h0_at, h0_fault, h0_entries, h0_entry])), (zq, .inl (cI, 1002, .inl z))] := ⟨_, rfl⟩
  have hD : va_D A [(h0, .inr (10, [.ref zq, h0_past, h0_kept, h0_spare, h0_pastMany, h0_isKept, h0_text, h0_typed, h0_isUsed, h0_planBatch, h0_planUnits, h0_planCents, h0_planMany, h0_planGot, h0_planSubstitutes, h0_at, h0_fault, h0_entries, h0_entry])), (zq, .inl (cI, 1002, .inl z))] := hA ▸ hD0.own
  have hS : va_S A s.heap s.heap [] := va_S.rf
  have hl := lv_entry ([.ref h0]) (n := 5) (Nat.le_of_ble_eq_true rfl)
  rw [lg_entry_eq]
  generalize (lg_sl ([.ref h0]) ++ List.replicate (5 - (lg_sl ([.ref h0])).length) Slot.unset).toArray = ls at hl ⊢
  have hl : lv_has ls 5 [(0, .ref h0)] := hl
  refine lv_aload_n hx hb dX10_donate_0 rfl (lv_at hl 0 rfl) ?_
  refine va_get (D := (dC, dI)) (ci := 10) (v := .ref zq) (C := RX10) (T := TX10) (N := 19) hx hb hts i_X10 hown hK hP 0 rfl rfl 0 (by decide) k_7 (fun _ h9 => h9) rfl dX10_donate_1 ?_
  refine lv_bipush (v := nI 6) hx hb dX10_donate_4 (by decide) ?_
  refine xr_iald hx hb hK hP 1 0 rfl rfl (i := 6) (by omega) (by decide) dX10_donate_6 ?_
  refine lv_istore_n (lv' := [(1, .int (z 6)), (0, .ref h0)]) hx hb dX10_donate_7 rfl hl (by decide) rfl (fun ls hl => ?_)
  refine lv_iconst (v := nI 0) hx hb dX10_donate_8 (by decide) ?_
  refine lv_istore_n (lv' := [(2, .int (nI 0)), (1, .int (z 6)), (0, .ref h0)]) hx hb dX10_donate_9 rfl hl (by decide) rfl (fun ls hl => ?_)
  refine xr_loop (J := Nat) (fun n0 H locs g => ∃ (k : Nat) (q : Int32 × (Nat → Int32)) (ls : Array Slot), n0 = bz - k ∧ g = F0 m 10 ls [] ∧ lv_has ls 5 [(2, .int (nI k)), (1, .int q.1), (0, .ref h0)] ∧ va_P (dC, dI) vwCl [(h0, .inr (10, [.ref zq, h0_past, h0_kept, h0_spare, h0_pastMany, h0_isKept, h0_text, h0_typed, h0_isUsed, h0_planBatch, h0_planUnits, h0_planCents, h0_planMany, h0_planGot, h0_planSubstitutes, h0_at, h0_fault, h0_entries, h0_entry])), (zq, .inl (cI, 1002, .inl q.2))] H ∧ va_D A [(h0, .inr (10, [.ref zq, h0_past, h0_kept, h0_spare, h0_pastMany, h0_isKept, h0_text, h0_typed, h0_isUsed, h0_planBatch, h0_planUnits, h0_planCents, h0_planMany, h0_planGot, h0_planSubstitutes, h0_at, h0_fault, h0_entries, h0_entry])), (zq, .inl (cI, 1002, .inl q.2))] ∧ va_S A s.heap H locs ∧ (k ≤ bz) ∧ (q.2 2 = nI bz) ∧ (zidx q.2 bz) ∧ (q = zdon (z 6, z) k)) (fun n => n) ?_ (bz - 0) (g := F0 m 10 ls []) ⟨0, (z 6, z), ls, rfl, rfl, lv_sub hl [0, 1, 2] rfl, hP, hD, hS, (Nat.zero_le _), hz2, hgi, rfl⟩
  intro n0 ih_10 H locs g hp
  obtain ⟨k, q, ls, rfl, rfl, hl, hP, hD, hS, hk, hq2, hgq, hq⟩ := hp
  refine lv_iload_n hx hb dX10_donate_10 rfl (lv_at hl 0 rfl) ?_
  refine lv_aload_n hx hb dX10_donate_11 rfl (lv_at hl 2 rfl) ?_
  refine va_get (D := (dC, dI)) (ci := 10) (v := .ref zq) (C := RX10) (T := TX10) (N := 19) hx hb hts i_X10 hown hK hP 0 rfl rfl 0 (by decide) k_7 (fun _ h9 => h9) rfl dX10_donate_12 ?_
  refine lv_iconst (v := nI 2) hx hb dX10_donate_15 (by decide) ?_
  refine xr_iald hx hb hK hP 1 0 rfl rfl (i := 2) (by omega) (by decide) dX10_donate_16 ?_
  refine xr_top (show q.2 2 = nI bz from hq2) ?_
  refine xr_ge_n (tgt := 94) hx hb (by omega) (by omega) dX10_donate_17 (by decide) (fun c_1 => ?_) (fun c_1 => ?_)
  · skip
    have hE : q = zdon (z 6, z) bz := by rw [hq, show k = bz from by omega]
    subst hE
    have hP9 : va_P (dC, dI) vwCl [(h0, .inr (10, [.ref zq, h0_past, h0_kept, h0_spare, h0_pastMany, h0_isKept, h0_text, h0_typed, h0_isUsed, h0_planBatch, h0_planUnits, h0_planCents, h0_planMany, h0_planGot, h0_planSubstitutes, h0_at, h0_fault, h0_entries, h0_entry])), (zq, .inl (cI, 1002, .inl ((zdon (z 6, z) bz).2)))] H := hP
    have hS9 : va_S (va_B [(h0, .inr (10, [.ref zq, h0_past, h0_kept, h0_spare, h0_pastMany, h0_isKept, h0_text, h0_typed, h0_isUsed, h0_planBatch, h0_planUnits, h0_planCents, h0_planMany, h0_planGot, h0_planSubstitutes, h0_at, h0_fault, h0_entries, h0_entry])), (zq, .inl (cI, 1002, .inl z))]) s.heap H locs := by rw [← hA]; exact hS
    exact W.vret hx hb hr (fun t ht hW => ⟨⟨_, rfl, rfl, by rw [ht]; exact hP9⟩, hS9.X ht⟩) hS9.2.2 dX10_donate_94
  refine lv_aload_n hx hb dX10_donate_20 rfl (lv_at hl 2 rfl) ?_
  refine lv_iload_n hx hb dX10_donate_21 rfl (lv_at hl 0 rfl) ?_
  refine lv_iconst (v := nI 3) hx hb dX10_donate_22 (by decide) ?_
  refine xkRi (xV (As := [.int (nI k), .int (nI 3)]) (rest := []) (wc := [(h0, .inr (10, [.ref zq, h0_past, h0_kept, h0_spare, h0_pastMany, h0_isKept, h0_text, h0_typed, h0_isUsed, h0_planBatch, h0_planUnits, h0_planCents, h0_planMany, h0_planGot, h0_planSubstitutes, h0_at, h0_fault, h0_entries, h0_entry])), (zq, .inl (cI, 1002, .inl q.2))]) hx hb hml hown hts (c_X10_ofBatch l dC dI cI cF cC cZ cQ cS h0 zq h0_past h0_kept h0_spare h0_pastMany h0_isKept h0_text h0_typed h0_isUsed h0_planBatch h0_planUnits h0_planCents h0_planMany h0_planGot h0_planSubstitutes h0_at h0_fault h0_entries h0_entry q.2 k 3 (by omega) (by omega)) 2 gX10_donate_X10_ofBatch rfl rfl rfl hdV_X10_ofBatch ⟨Nat.le_of_ble_eq_true rfl, Nat.le_of_ble_eq_true rfl⟩ hN hK hP hD [0, 1] rfl rfl 10 0 rfl rfl rfl hl.1 rfl (Nat.le_of_ble_eq_true rfl) dX10_donate_23 ⟨Nat.zero_le _, Nat.zero_le _⟩) (fun r_2 hr_2 => ?_)
  obtain rfl : r_2 = zB q.2 k 3 := hr_2
  refine lv_istore_n (lv' := [(3, .int (zB q.2 k 3)), (2, .int (nI k)), (1, .int q.1), (0, .ref h0)]) hx hb dX10_donate_26 rfl hl (by decide) rfl (fun ls hl => ?_)
  refine xr_cut (g2 := F0 m 37 ls [.int (if zB q.2 k 3 < q.1 then zB q.2 k 3 else q.1)]) (fun kj_3 => ?_) ?_
  · skip
    refine lv_iload_n hx hb dX10_donate_27 rfl (lv_at hl 0 rfl) ?_
    refine lv_iload_n hx hb dX10_donate_28 rfl (lv_at hl 2 rfl) ?_
    refine lv_icmp_ge (tgt := 36) hx hb dX10_donate_29 (by decide) (fun c_4 => ?_) (fun c_4 => ?_)
    · skip
      refine lv_iload_n hx hb dX10_donate_36 rfl (lv_at hl 2 rfl) ?_
      refine xr_top (show q.1 = if zB q.2 k 3 < q.1 then zB q.2 k 3 else q.1 from (if_neg (Int32.not_lt.mpr c_4)).symm) ?_
      exact kj_3
    refine lv_iload_n hx hb dX10_donate_32 rfl (lv_at hl 0 rfl) ?_
    refine lv_goto (tgt := 37) hx hb dX10_donate_33 (by decide) ?_
    refine xr_top (show zB q.2 k 3 = if zB q.2 k 3 < q.1 then zB q.2 k 3 else q.1 from (if_pos (Int32.not_le.mp c_4)).symm) ?_
    exact kj_3
  obtain ⟨u9, hu9⟩ : ∃ x : Int32, x = if zB q.2 k 3 < q.1 then zB q.2 k 3 else q.1 := ⟨_, rfl⟩
  refine xr_top hu9.symm ?_
  refine lv_istore (lv' := [(4, .int u9), (3, .int (zB q.2 k 3)), (2, .int (nI k)), (1, .int q.1), (0, .ref h0)]) hx hb dX10_donate_37 hl (by decide) rfl (fun ls hl => ?_)
  refine lv_iload hx hb dX10_donate_39 (lv_at hl 0 rfl) ?_
  refine lv_if_le (tgt := 88) hx hb dX10_donate_41 (by decide) (fun c_5 => ?_) (fun c_5 => ?_)
  · skip
    refine lv_iinc (v := nI (k + 1)) (lv' := [(2, .int (nI (k + 1))), (4, .int u9), (3, .int (zB q.2 k 3)), (1, .int q.1), (0, .ref h0)]) hx hb dX10_donate_88 hl (k := 2) rfl (nI_inc1 k) (by decide) rfl (fun ls hl => ?_)
    refine lv_goto (tgt := 10) hx hb dX10_donate_91 (by decide) ?_
    exact ih_10 (bz - (k + 1)) _ _ _ (show bz - (k + 1) < bz - k from by omega) ⟨(k + 1), (q.1, q.2), ls, rfl, rfl, lv_sub hl [0, 3, 4] rfl, hP, hD, hS, (by omega), hq2, hgq, (zdon_2 hq (fun z9 => z9.1 (by have h8 := c_5; rw [hu9] at h8; exact h8)))⟩
  refine lv_aload_n hx hb dX10_donate_44 rfl (lv_at hl 4 rfl) ?_
  refine lv_iload_n hx hb dX10_donate_45 rfl (lv_at hl 2 rfl) ?_
  refine xkRi (xV (As := [.int (nI k)]) (rest := []) (wc := [(h0, .inr (10, [.ref zq, h0_past, h0_kept, h0_spare, h0_pastMany, h0_isKept, h0_text, h0_typed, h0_isUsed, h0_planBatch, h0_planUnits, h0_planCents, h0_planMany, h0_planGot, h0_planSubstitutes, h0_at, h0_fault, h0_entries, h0_entry])), (zq, .inl (cI, 1002, .inl q.2))]) hx hb hml hown hts (c_X10_stageOfBatch l dC dI cI cF cC cZ cQ cS h0 zq h0_past h0_kept h0_spare h0_pastMany h0_isKept h0_text h0_typed h0_isUsed h0_planBatch h0_planUnits h0_planCents h0_planMany h0_planGot h0_planSubstitutes h0_at h0_fault h0_entries h0_entry q.2 k (by omega) (hgq k (by omega))) 1 gX10_donate_X10_stageOfBatch rfl rfl rfl hdV_X10_stageOfBatch ⟨Nat.le_of_ble_eq_true rfl, Nat.le_of_ble_eq_true rfl⟩ hN hK hP hD [0, 1] rfl rfl 10 0 rfl rfl rfl hl.1 rfl (Nat.le_of_ble_eq_true rfl) dX10_donate_46 ⟨Nat.zero_le _, Nat.zero_le _⟩) (fun r_6 hr_6 => ?_)
  obtain rfl : r_6 = nI (zstg q.2 k) := hr_6
  refine lv_aload_n hx hb dX10_donate_49 rfl (lv_at hl 4 rfl) ?_
  refine va_get (D := (dC, dI)) (ci := 10) (v := .ref zq) (C := RX10) (T := TX10) (N := 19) hx hb hts i_X10 hown hK hP 0 rfl rfl 0 (by decide) k_7 (fun _ h9 => h9) rfl dX10_donate_50 ?_
  refine lv_iconst (v := nI 5) hx hb dX10_donate_53 (by decide) ?_
  refine xr_iald hx hb hK hP 1 0 rfl rfl (i := 5) (by omega) (by decide) dX10_donate_54 ?_
  refine lv_icmp_lt (tgt := 88) hx hb dX10_donate_55 (by decide) (fun c_7 => ?_) (fun c_7 => ?_)
  · skip
    refine lv_iinc (v := nI (k + 1)) (lv' := [(2, .int (nI (k + 1))), (4, .int u9), (3, .int (zB q.2 k 3)), (1, .int q.1), (0, .ref h0)]) hx hb dX10_donate_88 hl (k := 2) rfl (nI_inc1 k) (by decide) rfl (fun ls hl => ?_)
    refine lv_goto (tgt := 10) hx hb dX10_donate_91 (by decide) ?_
    exact ih_10 (bz - (k + 1)) _ _ _ (show bz - (k + 1) < bz - k from by omega) ⟨(k + 1), (q.1, q.2), ls, rfl, rfl, lv_sub hl [0, 3, 4] rfl, hP, hD, hS, (by omega), hq2, hgq, (zdon_2 hq (fun z9 => z9.2 c_7))⟩
  refine lv_aload_n hx hb dX10_donate_58 rfl (lv_at hl 4 rfl) ?_
  refine lv_iload_n hx hb dX10_donate_59 rfl (lv_at hl 2 rfl) ?_
  refine lv_iconst (v := nI 3) hx hb dX10_donate_60 (by decide) ?_
  refine lv_iload hx hb dX10_donate_61 (lv_at hl 0 rfl) ?_
  refine lv_ineg hx hb dX10_donate_63 ?_
  refine xkV2 (xV (As := [.int (nI k), .int (nI 3), .int (-u9)]) (rest := []) (wc := [(h0, .inr (10, [.ref zq, h0_past, h0_kept, h0_spare, h0_pastMany, h0_isKept, h0_text, h0_typed, h0_isUsed, h0_planBatch, h0_planUnits, h0_planCents, h0_planMany, h0_planGot, h0_planSubstitutes, h0_at, h0_fault, h0_entries, h0_entry])), (zq, .inl (cI, 1002, .inl q.2))]) hx hb hml hown hts (c_X10_addTo l dC dI cI cF cC cZ cQ cS h0 zq h0_past h0_kept h0_spare h0_pastMany h0_isKept h0_text h0_typed h0_isUsed h0_planBatch h0_planUnits h0_planCents h0_planMany h0_planGot h0_planSubstitutes h0_at h0_fault h0_entries h0_entry q.2 k 3 (-u9) (by omega) (by omega)) 3 gX10_donate_X10_addTo rfl rfl rfl hdV_X10_addTo ⟨Nat.le_of_ble_eq_true rfl, Nat.le_of_ble_eq_true rfl⟩ hN hK hP hD [0, 1] rfl rfl 10 0 rfl rfl rfl hl.1 rfl (Nat.le_of_ble_eq_true rfl) dX10_donate_64 ⟨Nat.zero_le _, Nat.zero_le _⟩) hP hD hS [0, 1] [0, 1] rfl rfl 2 rfl (by decide +kernel) (fun H locs hP hD hS => ?_)
  have hP : va_P (dC, dI) vwCl [(h0, .inr (10, [.ref zq, h0_past, h0_kept, h0_spare, h0_pastMany, h0_isKept, h0_text, h0_typed, h0_isUsed, h0_planBatch, h0_planUnits, h0_planCents, h0_planMany, h0_planGot, h0_planSubstitutes, h0_at, h0_fault, h0_entries, h0_entry])), (zq, .inl (cI, 1002, .inl (zadd q.2 k 3 (-u9))))] H := hP
  have hD : va_D A [(h0, .inr (10, [.ref zq, h0_past, h0_kept, h0_spare, h0_pastMany, h0_isKept, h0_text, h0_typed, h0_isUsed, h0_planBatch, h0_planUnits, h0_planCents, h0_planMany, h0_planGot, h0_planSubstitutes, h0_at, h0_fault, h0_entries, h0_entry])), (zq, .inl (cI, 1002, .inl (zadd q.2 k 3 (-u9))))] := hD
  refine lv_aload_n hx hb dX10_donate_67 rfl (lv_at hl 4 rfl) ?_
  refine lv_iload_n hx hb dX10_donate_68 rfl (lv_at hl 2 rfl) ?_
  refine lv_iconst (v := nI 5) hx hb dX10_donate_69 (by decide) ?_
  refine lv_iload hx hb dX10_donate_70 (lv_at hl 0 rfl) ?_
  refine xkV2 (xV (As := [.int (nI k), .int (nI 5), .int u9]) (rest := []) (wc := [(h0, .inr (10, [.ref zq, h0_past, h0_kept, h0_spare, h0_pastMany, h0_isKept, h0_text, h0_typed, h0_isUsed, h0_planBatch, h0_planUnits, h0_planCents, h0_planMany, h0_planGot, h0_planSubstitutes, h0_at, h0_fault, h0_entries, h0_entry])), (zq, .inl (cI, 1002, .inl (zadd q.2 k 3 (-u9))))]) hx hb hml hown hts (c_X10_addTo l dC dI cI cF cC cZ cQ cS h0 zq h0_past h0_kept h0_spare h0_pastMany h0_isKept h0_text h0_typed h0_isUsed h0_planBatch h0_planUnits h0_planCents h0_planMany h0_planGot h0_planSubstitutes h0_at h0_fault h0_entries h0_entry (zadd q.2 k 3 (-u9)) k 5 u9 (by omega) (by omega)) 3 gX10_donate_X10_addTo rfl rfl rfl hdV_X10_addTo ⟨Nat.le_of_ble_eq_true rfl, Nat.le_of_ble_eq_true rfl⟩ hN hK hP hD [0, 1] rfl rfl 10 0 rfl rfl rfl hl.1 rfl (Nat.le_of_ble_eq_true rfl) dX10_donate_72 ⟨Nat.zero_le _, Nat.zero_le _⟩) hP hD hS [0, 1] [0, 1] rfl rfl 2 rfl (by decide +kernel) (fun H locs hP hD hS => ?_)
  have hP : va_P (dC, dI) vwCl [(h0, .inr (10, [.ref zq, h0_past, h0_kept, h0_spare, h0_pastMany, h0_isKept, h0_text, h0_typed, h0_isUsed, h0_planBatch, h0_planUnits, h0_planCents, h0_planMany, h0_planGot, h0_planSubstitutes, h0_at, h0_fault, h0_entries, h0_entry])), (zq, .inl (cI, 1002, .inl (zadd (zadd q.2 k 3 (-u9)) k 5 u9)))] H := hP
  have hD : va_D A [(h0, .inr (10, [.ref zq, h0_past, h0_kept, h0_spare, h0_pastMany, h0_isKept, h0_text, h0_typed, h0_isUsed, h0_planBatch, h0_planUnits, h0_planCents, h0_planMany, h0_planGot, h0_planSubstitutes, h0_at, h0_fault, h0_entries, h0_entry])), (zq, .inl (cI, 1002, .inl (zadd (zadd q.2 k 3 (-u9)) k 5 u9)))] := hD
  refine lv_aload_n hx hb dX10_donate_75 rfl (lv_at hl 4 rfl) ?_
  refine lv_iconst (v := nI 2) hx hb dX10_donate_76 (by decide) ?_
  refine lv_iload_n hx hb dX10_donate_77 rfl (lv_at hl 2 rfl) ?_
  refine lv_iload hx hb dX10_donate_78 (lv_at hl 0 rfl) ?_
  refine xkV2 (xV (As := [.int (nI 2), .int (nI k), .int u9]) (rest := []) (wc := [(h0, .inr (10, [.ref zq, h0_past, h0_kept, h0_spare, h0_pastMany, h0_isKept, h0_text, h0_typed, h0_isUsed, h0_planBatch, h0_planUnits, h0_planCents, h0_planMany, h0_planGot, h0_planSubstitutes, h0_at, h0_fault, h0_entries, h0_entry])), (zq, .inl (cI, 1002, .inl (zadd (zadd q.2 k 3 (-u9)) k 5 u9)))]) hx hb hml hown hts (c_X10_note l dC dI cI cF cC cZ cQ cS h0 zq h0_past h0_kept h0_spare h0_pastMany h0_isKept h0_text h0_typed h0_isUsed h0_planBatch h0_planUnits h0_planCents h0_planMany h0_planGot h0_planSubstitutes h0_at h0_fault h0_entries h0_entry (zadd (zadd q.2 k 3 (-u9)) k 5 u9) (nI 2) (nI k) u9) 3 gX10_donate_X10_note rfl rfl rfl hdV_X10_note ⟨Nat.le_of_ble_eq_true rfl, Nat.le_of_ble_eq_true rfl⟩ hN hK hP hD [0, 1] rfl rfl 10 0 rfl rfl rfl hl.1 rfl (Nat.le_of_ble_eq_true rfl) dX10_donate_80 ⟨Nat.zero_le _, Nat.zero_le _⟩) hP hD hS [0, 1] [0, 1] rfl rfl 2 rfl (by decide +kernel) (fun H locs hP hD hS => ?_)
  have hP : va_P (dC, dI) vwCl [(h0, .inr (10, [.ref zq, h0_past, h0_kept, h0_spare, h0_pastMany, h0_isKept, h0_text, h0_typed, h0_isUsed, h0_planBatch, h0_planUnits, h0_planCents, h0_planMany, h0_planGot, h0_planSubstitutes, h0_at, h0_fault, h0_entries, h0_entry])), (zq, .inl (cI, 1002, .inl (znote (zadd (zadd q.2 k 3 (-u9)) k 5 u9) (nI 2) (nI k) u9)))] H := hP
  have hD : va_D A [(h0, .inr (10, [.ref zq, h0_past, h0_kept, h0_spare, h0_pastMany, h0_isKept, h0_text, h0_typed, h0_isUsed, h0_planBatch, h0_planUnits, h0_planCents, h0_planMany, h0_planGot, h0_planSubstitutes, h0_at, h0_fault, h0_entries, h0_entry])), (zq, .inl (cI, 1002, .inl (znote (zadd (zadd q.2 k 3 (-u9)) k 5 u9) (nI 2) (nI k) u9)))] := hD
  have hP : va_P (dC, dI) vwCl [(h0, .inr (10, [.ref zq, h0_past, h0_kept, h0_spare, h0_pastMany, h0_isKept, h0_text, h0_typed, h0_isUsed, h0_planBatch, h0_planUnits, h0_planCents, h0_planMany, h0_planGot, h0_planSubstitutes, h0_at, h0_fault, h0_entries, h0_entry])), (zq, .inl (cI, 1002, .inl (zgive q.2 k u9)))] H := hP
  have hD : va_D A [(h0, .inr (10, [.ref zq, h0_past, h0_kept, h0_spare, h0_pastMany, h0_isKept, h0_text, h0_typed, h0_isUsed, h0_planBatch, h0_planUnits, h0_planCents, h0_planMany, h0_planGot, h0_planSubstitutes, h0_at, h0_fault, h0_entries, h0_entry])), (zq, .inl (cI, 1002, .inl (zgive q.2 k u9)))] := hD
  refine lv_iload_n hx hb dX10_donate_83 rfl (lv_at hl 3 rfl) ?_
  refine lv_iload hx hb dX10_donate_84 (lv_at hl 0 rfl) ?_
  refine lv_isub hx hb dX10_donate_86 ?_
  refine lv_istore_n (lv' := [(1, .int (q.1 - u9)), (4, .int u9), (3, .int (zB q.2 k 3)), (2, .int (nI k)), (0, .ref h0)]) hx hb dX10_donate_87 rfl hl (by decide) rfl (fun ls hl => ?_)
  refine lv_iinc (v := nI (k + 1)) (lv' := [(2, .int (nI (k + 1))), (1, .int (q.1 - u9)), (4, .int u9), (3, .int (zB q.2 k 3)), (0, .ref h0)]) hx hb dX10_donate_88 hl (k := 3) rfl (nI_inc1 k) (by decide) rfl (fun ls hl => ?_)
  refine lv_goto (tgt := 10) hx hb dX10_donate_91 (by decide) ?_
  exact ih_10 (bz - (k + 1)) _ _ _ (show bz - (k + 1) < bz - k from by omega) ⟨(k + 1), (q.1 - u9, zgive q.2 k u9), ls, rfl, rfl, lv_sub hl [0, 1, 4] rfl, hP, hD, hS, (by omega), (show zgive q.2 k u9 2 = nI bz from zgive_2.trans hq2), (show zidx (zgive q.2 k u9) bz from zidx_give hgq hbz), (by rw [show u9 = zdu q k from hu9]; exact zdon_1 hq (by have h8 := c_5; rw [hu9] at h8; exact h8) c_7)⟩
