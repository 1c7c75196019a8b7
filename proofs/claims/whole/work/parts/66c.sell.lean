theorem hdV_X10_sell : yX10_sell.cls = RX10 ∧ yX10_sell.cls ≠ "java/lang/invoke/MethodHandle" ∧ yX10_sell.cls ≠ "java/lang/invoke/VarHandle" ∧ (parseMethodDescriptor yX10_sell.desc).map (fun d => d.parameters.length) = some 1 := by decide +kernel
set_option maxHeartbeats 4000000 in
set_option maxRecDepth 100000 in
theorem c_X10_sell (l : Launch) (dC : Nat → ClassId) (dI : Nat → Nat → Nat) (cI cF cC cZ cQ cS : ClassId) (h0 : Nat) (zq : Nat) (h0_past : Value) (h0_kept : Value) (h0_spare : Value) (h0_pastMany : Value) (h0_isKept : Value) (h0_text : Value) (h0_typed : Value) (h0_isUsed : Value) (p1 : Nat) (p2 : Nat) (p3 : Nat) (h0_planMany : Value) (h0_planGot : Value) (h0_planSubstitutes : Value) (h0_at : Value) (h0_fault : Value) (h0_entries : Value) (h0_entry : Value) (z : Nat → Int32) (pb : Nat → Int32) (pu : Nat → Int32) (pc : Nat → Int32) (k : Nat) (tk : Nat) (hk : k < 40) (hpb : (pb k).toNatClampNeg < 40 ∧ pb k = nI (pb k).toNatClampNeg) (htk : z 8 = nI tk) (ht : tk < 80) : Met l yX10_sell wsX10_sell ({ frames := 1, cells := 0, slots := 0, locals := 24 }) (xPre (dC, dI) vwCl [.ref h0, .int (nI k)] (xtys cI cF cC cZ cQ cS) [(h0, .inr (10, [.ref zq, h0_past, h0_kept, h0_spare, h0_pastMany, h0_isKept, h0_text, h0_typed, h0_isUsed, .ref p1, .ref p2, .ref p3, h0_planMany, h0_planGot, h0_planSubstitutes, h0_at, h0_fault, h0_entries, h0_entry])), (zq, .inl (cI, 1002, .inl z)), (p1, .inl (cI, 40, .inl pb)), (p2, .inl (cI, 40, .inl pu)), (p3, .inl (cI, 40, .inl pc))]) (xWv (dC, dI) vwCl [(h0, .inr (10, [.ref zq, h0_past, h0_kept, h0_spare, h0_pastMany, h0_isKept, h0_text, h0_typed, h0_isUsed, .ref p1, .ref p2, .ref p3, h0_planMany, h0_planGot, h0_planSubstitutes, h0_at, h0_fault, h0_entries, h0_entry])), (zq, .inl (cI, 1002, .inl z)), (p1, .inl (cI, 40, .inl pb)), (p2, .inl (cI, 40, .inl pu)), (p3, .inl (cI, 40, .inl pc))] (fun w0 => w0 = [(h0, .inr (10, [.ref zq, h0_past, h0_kept, h0_spare, h0_pastMany, h0_isKept, h0_text, h0_typed, h0_isUsed, .ref p1, .ref p2, .ref p3, h0_planMany, h0_planGot, h0_planSubstitutes, h0_at, h0_fault, h0_entries, h0_entry])), (zq, .inl (cI, 1002, .inl (zsold z tk (pb k).toNatClampNeg (pu k) (pc k)))), (p1, .inl (cI, 40, .inl pb)), (p2, .inl (cI, 40, .inl pu)), (p3, .inl (cI, 40, .inl pc))])) 0 0 (va_B [(h0, .inr (10, [.ref zq, h0_past, h0_kept, h0_spare, h0_pastMany, h0_isKept, h0_text, h0_typed, h0_isUsed, .ref p1, .ref p2, .ref p3, h0_planMany, h0_planGot, h0_planSubstitutes, h0_at, h0_fault, h0_entries, h0_entry])), (zq, .inl (cI, 1002, .inl z)), (p1, .inl (cI, 40, .inl pb)), (p2, .inl (cI, 40, .inl pu)), (p3, .inl (cI, 40, .inl pc))]) := by
  refine Met.ofW (cc := cX10_sell) (maxL := 4) (ret := none) (by decide) rfl ?_
  intro p e s m args below meth c s₁ B hml hv
  obtain ⟨rfl, hP, hK, hD0, hN⟩ := hv
  have hx := B.exec
  have hb := B.bytes
  have hr := B.returns
  have hts := atoms_spec (ws := wsX10_sell) B.pre
  have hown : s.vm.findClass RX10 = some m.cls := findClass_of_methodNamed B.named
  have hlocks := B.notSynchronized
  have k_30 := hts (Cond.fieldLink RX10 30 "ShelfStagesModel" "planBatch" "[I") (by decide +kernel)
  have k_33 := hts (Cond.fieldLink RX10 33 "ShelfStagesModel" "planUnits" "[I") (by decide +kernel)
  have k_36 := hts (Cond.fieldLink RX10 36 "ShelfStagesModel" "planCents" "[I") (by decide +kernel)
  have k_7 := hts (Cond.fieldLink RX10 7 "ShelfStagesModel" "z" "[I") (by decide +kernel)
  have i_X10 : ∀ w ∈ wsX100, w ∈ wsX10_sell := by decide +kernel
  obtain ⟨A, hA⟩ : ∃ A, A = va_B [(h0, .inr (10, [.ref zq, h0_past, h0_kept, h0_spare, h0_pastMany, h0_isKept, h0_text, h0_typed, h0_isUsed, .ref p1, .ref p2, .ref p3, h0_planMany, h0_planGot, h0_planSubstitutes, h0_at, h0_fault, h0_entries, h0_entry])), (zq, .inl (cI, 1002, .inl z)), (p1, .inl (cI, 40, .inl pb)), (p2, .inl (cI, 40, .inl pu)), (p3, .inl (cI, 40, .inl pc))] := ⟨_, rfl⟩
  have hD : va_D A [(h0, .inr (10, [.ref zq, h0_past, h0_kept, h0_spare, h0_pastMany, h0_isKept, h0_text, h0_typed, h0_isUsed, .ref p1, .ref p2, .ref p3, h0_planMany, h0_planGot, h0_planSubstitutes, h0_at, h0_fault, h0_entries, h0_entry])), (zq, .inl (cI, 1002, .inl z)), (p1, .inl (cI, 40, .inl pb)), (p2, .inl (cI, 40, .inl pu)), (p3, .inl (cI, 40, .inl pc))] := hA ▸ hD0.own
  have hS : va_S A s.heap s.heap [] := va_S.rf
  have hl := lv_entry ([.ref h0, .int (nI k)]) (n := 4) (Nat.le_of_ble_eq_true rfl)
  rw [lg_entry_eq]
  generalize (lg_sl ([.ref h0, .int (nI k)]) ++ List.replicate (4 - (lg_sl ([.ref h0, .int (nI k)])).length) Slot.unset).toArray = ls at hl ⊢
  have hl : lv_has ls 4 [(0, .ref h0), (1, .int (nI k))] := hl
  refine lv_aload_n hx hb dX10_sell_0 rfl (lv_at hl 0 rfl) ?_
  refine va_get (D := (dC, dI)) (ci := 10) (v := .ref p1) (C := RX10) (T := TX10) (N := 19) hx hb hts i_X10 hown hK hP 0 rfl rfl 9 (by decide) k_30 (fun _ h9 => h9) rfl dX10_sell_1 ?_
  refine lv_iload_n hx hb dX10_sell_4 rfl (lv_at hl 1 rfl) ?_
  refine xr_iald hx hb hK hP 2 0 rfl rfl (i := k) (by omega) (by decide) dX10_sell_5 ?_
  refine xr_top (show pb k = nI ((pb k).toNatClampNeg) from hpb.2) ?_
  refine lv_istore_n (lv' := [(2, .int (nI ((pb k).toNatClampNeg))), (0, .ref h0), (1, .int (nI k))]) hx hb dX10_sell_6 rfl hl (by decide) rfl (fun ls hl => ?_)
  refine lv_aload_n hx hb dX10_sell_7 rfl (lv_at hl 1 rfl) ?_
  refine va_get (D := (dC, dI)) (ci := 10) (v := .ref p2) (C := RX10) (T := TX10) (N := 19) hx hb hts i_X10 hown hK hP 0 rfl rfl 10 (by decide) k_33 (fun _ h9 => h9) rfl dX10_sell_8 ?_
  refine lv_iload_n hx hb dX10_sell_11 rfl (lv_at hl 2 rfl) ?_
  refine xr_iald hx hb hK hP 3 0 rfl rfl (i := k) (by omega) (by decide) dX10_sell_12 ?_
  refine lv_istore_n (lv' := [(3, .int (pu k)), (2, .int (nI ((pb k).toNatClampNeg))), (0, .ref h0), (1, .int (nI k))]) hx hb dX10_sell_13 rfl hl (by decide) rfl (fun ls hl => ?_)
  refine lv_aload_n hx hb dX10_sell_14 rfl (lv_at hl 2 rfl) ?_
  refine lv_iload_n hx hb dX10_sell_15 rfl (lv_at hl 1 rfl) ?_
  refine lv_iconst (v := nI 3) hx hb dX10_sell_16 (by decide) ?_
  refine lv_iload_n hx hb dX10_sell_17 rfl (lv_at hl 0 rfl) ?_
  refine lv_ineg hx hb dX10_sell_18 ?_
  refine xkV2 (xV (As := [.int (nI ((pb k).toNatClampNeg)), .int (nI 3), .int (-(pu k))]) (rest := []) (wc := [(h0, .inr (10, [.ref zq, h0_past, h0_kept, h0_spare, h0_pastMany, h0_isKept, h0_text, h0_typed, h0_isUsed, .ref p1, .ref p2, .ref p3, h0_planMany, h0_planGot, h0_planSubstitutes, h0_at, h0_fault, h0_entries, h0_entry])), (zq, .inl (cI, 1002, .inl z))]) hx hb hml hown hts (c_X10_addTo l dC dI cI cF cC cZ cQ cS h0 zq h0_past h0_kept h0_spare h0_pastMany h0_isKept h0_text h0_typed h0_isUsed (.ref p1) (.ref p2) (.ref p3) h0_planMany h0_planGot h0_planSubstitutes h0_at h0_fault h0_entries h0_entry z ((pb k).toNatClampNeg) 3 (-(pu k)) (by omega) (by omega)) 3 gX10_sell_X10_addTo rfl rfl rfl hdV_X10_addTo ⟨Nat.le_of_ble_eq_true rfl, Nat.le_of_ble_eq_true rfl⟩ hN hK hP hD [0, 1] rfl rfl 10 0 rfl rfl rfl hl.1 rfl (Nat.le_of_ble_eq_true rfl) dX10_sell_19 ⟨Nat.zero_le _, Nat.zero_le _⟩) hP hD hS [0, 1] [0, 1, 2, 3, 4] rfl rfl 5 rfl (by decide +kernel) (fun H locs hP hD hS => ?_)
  have hP : va_P (dC, dI) vwCl [(h0, .inr (10, [.ref zq, h0_past, h0_kept, h0_spare, h0_pastMany, h0_isKept, h0_text, h0_typed, h0_isUsed, .ref p1, .ref p2, .ref p3, h0_planMany, h0_planGot, h0_planSubstitutes, h0_at, h0_fault, h0_entries, h0_entry])), (zq, .inl (cI, 1002, .inl (zadd z ((pb k).toNatClampNeg) 3 (-(pu k))))), (p1, .inl (cI, 40, .inl pb)), (p2, .inl (cI, 40, .inl pu)), (p3, .inl (cI, 40, .inl pc))] H := hP
  have hD : va_D A [(h0, .inr (10, [.ref zq, h0_past, h0_kept, h0_spare, h0_pastMany, h0_isKept, h0_text, h0_typed, h0_isUsed, .ref p1, .ref p2, .ref p3, h0_planMany, h0_planGot, h0_planSubstitutes, h0_at, h0_fault, h0_entries, h0_entry])), (zq, .inl (cI, 1002, .inl (zadd z ((pb k).toNatClampNeg) 3 (-(pu k))))), (p1, .inl (cI, 40, .inl pb)), (p2, .inl (cI, 40, .inl pu)), (p3, .inl (cI, 40, .inl pc))] := hD
  refine lv_aload_n hx hb dX10_sell_22 rfl (lv_at hl 2 rfl) ?_
  refine lv_iload_n hx hb dX10_sell_23 rfl (lv_at hl 1 rfl) ?_
  refine lv_iconst (v := nI 4) hx hb dX10_sell_24 (by decide) ?_
  refine lv_iload_n hx hb dX10_sell_25 rfl (lv_at hl 0 rfl) ?_
  refine xkV2 (xV (As := [.int (nI ((pb k).toNatClampNeg)), .int (nI 4), .int (pu k)]) (rest := []) (wc := [(h0, .inr (10, [.ref zq, h0_past, h0_kept, h0_spare, h0_pastMany, h0_isKept, h0_text, h0_typed, h0_isUsed, .ref p1, .ref p2, .ref p3, h0_planMany, h0_planGot, h0_planSubstitutes, h0_at, h0_fault, h0_entries, h0_entry])), (zq, .inl (cI, 1002, .inl (zadd z ((pb k).toNatClampNeg) 3 (-(pu k)))))]) hx hb hml hown hts (c_X10_addTo l dC dI cI cF cC cZ cQ cS h0 zq h0_past h0_kept h0_spare h0_pastMany h0_isKept h0_text h0_typed h0_isUsed (.ref p1) (.ref p2) (.ref p3) h0_planMany h0_planGot h0_planSubstitutes h0_at h0_fault h0_entries h0_entry (zadd z ((pb k).toNatClampNeg) 3 (-(pu k))) ((pb k).toNatClampNeg) 4 (pu k) (by omega) (by omega)) 3 gX10_sell_X10_addTo rfl rfl rfl hdV_X10_addTo ⟨Nat.le_of_ble_eq_true rfl, Nat.le_of_ble_eq_true rfl⟩ hN hK hP hD [0, 1] rfl rfl 10 0 rfl rfl rfl hl.1 rfl (Nat.le_of_ble_eq_true rfl) dX10_sell_26 ⟨Nat.zero_le _, Nat.zero_le _⟩) hP hD hS [0, 1] [0, 1, 2, 3, 4] rfl rfl 5 rfl (by decide +kernel) (fun H locs hP hD hS => ?_)
  have hP : va_P (dC, dI) vwCl [(h0, .inr (10, [.ref zq, h0_past, h0_kept, h0_spare, h0_pastMany, h0_isKept, h0_text, h0_typed, h0_isUsed, .ref p1, .ref p2, .ref p3, h0_planMany, h0_planGot, h0_planSubstitutes, h0_at, h0_fault, h0_entries, h0_entry])), (zq, .inl (cI, 1002, .inl (zadd (zadd z ((pb k).toNatClampNeg) 3 (-(pu k))) ((pb k).toNatClampNeg) 4 (pu k)))), (p1, .inl (cI, 40, .inl pb)), (p2, .inl (cI, 40, .inl pu)), (p3, .inl (cI, 40, .inl pc))] H := hP
  have hD : va_D A [(h0, .inr (10, [.ref zq, h0_past, h0_kept, h0_spare, h0_pastMany, h0_isKept, h0_text, h0_typed, h0_isUsed, .ref p1, .ref p2, .ref p3, h0_planMany, h0_planGot, h0_planSubstitutes, h0_at, h0_fault, h0_entries, h0_entry])), (zq, .inl (cI, 1002, .inl (zadd (zadd z ((pb k).toNatClampNeg) 3 (-(pu k))) ((pb k).toNatClampNeg) 4 (pu k)))), (p1, .inl (cI, 40, .inl pb)), (p2, .inl (cI, 40, .inl pu)), (p3, .inl (cI, 40, .inl pc))] := hD
  refine lv_aload_n hx hb dX10_sell_29 rfl (lv_at hl 2 rfl) ?_
  refine lv_iload_n hx hb dX10_sell_30 rfl (lv_at hl 1 rfl) ?_
  refine lv_bipush (v := nI 9) hx hb dX10_sell_31 (by decide) ?_
  refine lv_aload_n hx hb dX10_sell_33 rfl (lv_at hl 2 rfl) ?_
  refine va_get (D := (dC, dI)) (ci := 10) (v := .ref p3) (C := RX10) (T := TX10) (N := 19) hx hb hts i_X10 hown hK hP 0 rfl rfl 11 (by decide) k_36 (fun _ h9 => h9) rfl dX10_sell_34 ?_
  refine lv_iload_n hx hb dX10_sell_37 rfl (lv_at hl 3 rfl) ?_
  refine xr_iald hx hb hK hP 4 0 rfl rfl (i := k) (by omega) (by decide) dX10_sell_38 ?_
  refine xkV2 (xV (As := [.int (nI ((pb k).toNatClampNeg)), .int (nI 9), .int (pc k)]) (rest := []) (wc := [(h0, .inr (10, [.ref zq, h0_past, h0_kept, h0_spare, h0_pastMany, h0_isKept, h0_text, h0_typed, h0_isUsed, .ref p1, .ref p2, .ref p3, h0_planMany, h0_planGot, h0_planSubstitutes, h0_at, h0_fault, h0_entries, h0_entry])), (zq, .inl (cI, 1002, .inl (zadd (zadd z ((pb k).toNatClampNeg) 3 (-(pu k))) ((pb k).toNatClampNeg) 4 (pu k))))]) hx hb hml hown hts (c_X10_addTo l dC dI cI cF cC cZ cQ cS h0 zq h0_past h0_kept h0_spare h0_pastMany h0_isKept h0_text h0_typed h0_isUsed (.ref p1) (.ref p2) (.ref p3) h0_planMany h0_planGot h0_planSubstitutes h0_at h0_fault h0_entries h0_entry (zadd (zadd z ((pb k).toNatClampNeg) 3 (-(pu k))) ((pb k).toNatClampNeg) 4 (pu k)) ((pb k).toNatClampNeg) 9 (pc k) (by omega) (by omega)) 3 gX10_sell_X10_addTo rfl rfl rfl hdV_X10_addTo ⟨Nat.le_of_ble_eq_true rfl, Nat.le_of_ble_eq_true rfl⟩ hN hK hP hD [0, 1] rfl rfl 10 0 rfl rfl rfl hl.1 rfl (Nat.le_of_ble_eq_true rfl) dX10_sell_39 ⟨Nat.zero_le _, Nat.zero_le _⟩) hP hD hS [0, 1] [0, 1, 2, 3, 4] rfl rfl 5 rfl (by decide +kernel) (fun H locs hP hD hS => ?_)
  have hP : va_P (dC, dI) vwCl [(h0, .inr (10, [.ref zq, h0_past, h0_kept, h0_spare, h0_pastMany, h0_isKept, h0_text, h0_typed, h0_isUsed, .ref p1, .ref p2, .ref p3, h0_planMany, h0_planGot, h0_planSubstitutes, h0_at, h0_fault, h0_entries, h0_entry])), (zq, .inl (cI, 1002, .inl (zadd (zadd (zadd z ((pb k).toNatClampNeg) 3 (-(pu k))) ((pb k).toNatClampNeg) 4 (pu k)) ((pb k).toNatClampNeg) 9 (pc k)))), (p1, .inl (cI, 40, .inl pb)), (p2, .inl (cI, 40, .inl pu)), (p3, .inl (cI, 40, .inl pc))] H := hP
  have hD : va_D A [(h0, .inr (10, [.ref zq, h0_past, h0_kept, h0_spare, h0_pastMany, h0_isKept, h0_text, h0_typed, h0_isUsed, .ref p1, .ref p2, .ref p3, h0_planMany, h0_planGot, h0_planSubstitutes, h0_at, h0_fault, h0_entries, h0_entry])), (zq, .inl (cI, 1002, .inl (zadd (zadd (zadd z ((pb k).toNatClampNeg) 3 (-(pu k))) ((pb k).toNatClampNeg) 4 (pu k)) ((pb k).toNatClampNeg) 9 (pc k)))), (p1, .inl (cI, 40, .inl pb)), (p2, .inl (cI, 40, .inl pu)), (p3, .inl (cI, 40, .inl pc))] := hD
  obtain ⟨z3, hz3⟩ : ∃ x, x = zadd (zadd (zadd z ((pb k).toNatClampNeg) 3 (-(pu k))) ((pb k).toNatClampNeg) 4 (pu k)) ((pb k).toNatClampNeg) 9 (pc k) := ⟨_, rfl⟩
  rw [← hz3] at hP hD
  have hP : va_P (dC, dI) vwCl [(h0, .inr (10, [.ref zq, h0_past, h0_kept, h0_spare, h0_pastMany, h0_isKept, h0_text, h0_typed, h0_isUsed, .ref p1, .ref p2, .ref p3, h0_planMany, h0_planGot, h0_planSubstitutes, h0_at, h0_fault, h0_entries, h0_entry])), (zq, .inl (cI, 1002, .inl z3)), (p1, .inl (cI, 40, .inl pb)), (p2, .inl (cI, 40, .inl pu)), (p3, .inl (cI, 40, .inl pc))] H := hP
  have hD : va_D A [(h0, .inr (10, [.ref zq, h0_past, h0_kept, h0_spare, h0_pastMany, h0_isKept, h0_text, h0_typed, h0_isUsed, .ref p1, .ref p2, .ref p3, h0_planMany, h0_planGot, h0_planSubstitutes, h0_at, h0_fault, h0_entries, h0_entry])), (zq, .inl (cI, 1002, .inl z3)), (p1, .inl (cI, 40, .inl pb)), (p2, .inl (cI, 40, .inl pu)), (p3, .inl (cI, 40, .inl pc))] := hD
  have h8z3 : z3 8 = nI tk := by rw [hz3]; exact (zadd_at (by omega)).trans ((zadd_at (by omega)).trans ((zadd_at (by omega)).trans htk))
  refine lv_aload_n hx hb dX10_sell_42 rfl (lv_at hl 2 rfl) ?_
  refine va_get (D := (dC, dI)) (ci := 10) (v := .ref zq) (C := RX10) (T := TX10) (N := 19) hx hb hts i_X10 hown hK hP 0 rfl rfl 0 (by decide) k_7 (fun _ h9 => h9) rfl dX10_sell_43 ?_
  refine lv_sipush (v := nI 794) hx hb dX10_sell_46 (by decide) ?_
  refine lv_iconst (v := nI 2) hx hb dX10_sell_49 (by decide) ?_
  refine lv_aload_n hx hb dX10_sell_50 rfl (lv_at hl 2 rfl) ?_
  refine va_get (D := (dC, dI)) (ci := 10) (v := .ref zq) (C := RX10) (T := TX10) (N := 19) hx hb hts i_X10 hown hK hP 0 rfl rfl 0 (by decide) k_7 (fun _ h9 => h9) rfl dX10_sell_51 ?_
  refine lv_bipush (v := nI 8) hx hb dX10_sell_54 (by decide) ?_
  refine xr_iald hx hb hK hP 1 0 rfl rfl (i := 8) (by omega) (by decide) dX10_sell_56 ?_
  refine xr_top (show z3 8 = nI tk from h8z3) ?_
  refine xr_imul_n hx hb dX10_sell_57 ?_
  refine xr_iadd_n hx hb dX10_sell_58 ?_
  refine lv_iload_n hx hb dX10_sell_59 rfl (lv_at hl 1 rfl) ?_
  refine xr_iast hx hb hK hP hD hS 1 0 rfl rfl (i := 794 + (2 * tk)) (by omega) (by decide) dX10_sell_60 (fun H locs hP hD hS => ?_)
  have hP : va_P (dC, dI) vwCl [(h0, .inr (10, [.ref zq, h0_past, h0_kept, h0_spare, h0_pastMany, h0_isKept, h0_text, h0_typed, h0_isUsed, .ref p1, .ref p2, .ref p3, h0_planMany, h0_planGot, h0_planSubstitutes, h0_at, h0_fault, h0_entries, h0_entry])), (zq, .inl (cI, 1002, .inl (upd z3 (794 + (2 * tk)) (nI ((pb k).toNatClampNeg))))), (p1, .inl (cI, 40, .inl pb)), (p2, .inl (cI, 40, .inl pu)), (p3, .inl (cI, 40, .inl pc))] H := hP
  have hD : va_D A [(h0, .inr (10, [.ref zq, h0_past, h0_kept, h0_spare, h0_pastMany, h0_isKept, h0_text, h0_typed, h0_isUsed, .ref p1, .ref p2, .ref p3, h0_planMany, h0_planGot, h0_planSubstitutes, h0_at, h0_fault, h0_entries, h0_entry])), (zq, .inl (cI, 1002, .inl (upd z3 (794 + (2 * tk)) (nI ((pb k).toNatClampNeg))))), (p1, .inl (cI, 40, .inl pb)), (p2, .inl (cI, 40, .inl pu)), (p3, .inl (cI, 40, .inl pc))] := hD
  obtain ⟨z4, hz4⟩ : ∃ x, x = upd z3 (794 + (2 * tk)) (nI ((pb k).toNatClampNeg)) := ⟨_, rfl⟩
  rw [← hz4] at hP hD
  have hP : va_P (dC, dI) vwCl [(h0, .inr (10, [.ref zq, h0_past, h0_kept, h0_spare, h0_pastMany, h0_isKept, h0_text, h0_typed, h0_isUsed, .ref p1, .ref p2, .ref p3, h0_planMany, h0_planGot, h0_planSubstitutes, h0_at, h0_fault, h0_entries, h0_entry])), (zq, .inl (cI, 1002, .inl z4)), (p1, .inl (cI, 40, .inl pb)), (p2, .inl (cI, 40, .inl pu)), (p3, .inl (cI, 40, .inl pc))] H := hP
  have hD : va_D A [(h0, .inr (10, [.ref zq, h0_past, h0_kept, h0_spare, h0_pastMany, h0_isKept, h0_text, h0_typed, h0_isUsed, .ref p1, .ref p2, .ref p3, h0_planMany, h0_planGot, h0_planSubstitutes, h0_at, h0_fault, h0_entries, h0_entry])), (zq, .inl (cI, 1002, .inl z4)), (p1, .inl (cI, 40, .inl pb)), (p2, .inl (cI, 40, .inl pu)), (p3, .inl (cI, 40, .inl pc))] := hD
  have h8z4 : z4 8 = nI tk := by rw [hz4]; exact (upd_ne _ _ (by omega)).trans h8z3
  refine lv_aload_n hx hb dX10_sell_61 rfl (lv_at hl 2 rfl) ?_
  refine va_get (D := (dC, dI)) (ci := 10) (v := .ref zq) (C := RX10) (T := TX10) (N := 19) hx hb hts i_X10 hown hK hP 0 rfl rfl 0 (by decide) k_7 (fun _ h9 => h9) rfl dX10_sell_62 ?_
  refine lv_sipush (v := nI 794) hx hb dX10_sell_65 (by decide) ?_
  refine lv_iconst (v := nI 2) hx hb dX10_sell_68 (by decide) ?_
  refine lv_aload_n hx hb dX10_sell_69 rfl (lv_at hl 2 rfl) ?_
  refine va_get (D := (dC, dI)) (ci := 10) (v := .ref zq) (C := RX10) (T := TX10) (N := 19) hx hb hts i_X10 hown hK hP 0 rfl rfl 0 (by decide) k_7 (fun _ h9 => h9) rfl dX10_sell_70 ?_
  refine lv_bipush (v := nI 8) hx hb dX10_sell_73 (by decide) ?_
  refine xr_iald hx hb hK hP 1 0 rfl rfl (i := 8) (by omega) (by decide) dX10_sell_75 ?_
  refine xr_top (show z4 8 = nI tk from h8z4) ?_
  refine xr_imul_n hx hb dX10_sell_76 ?_
  refine xr_iadd_n hx hb dX10_sell_77 ?_
  refine lv_iconst (v := nI 1) hx hb dX10_sell_78 (by decide) ?_
  refine xr_iadd_n hx hb dX10_sell_79 ?_
  refine lv_iload_n hx hb dX10_sell_80 rfl (lv_at hl 0 rfl) ?_
  refine xr_iast hx hb hK hP hD hS 1 0 rfl rfl (i := (794 + (2 * tk)) + 1) (by omega) (by decide) dX10_sell_81 (fun H locs hP hD hS => ?_)
  have hP : va_P (dC, dI) vwCl [(h0, .inr (10, [.ref zq, h0_past, h0_kept, h0_spare, h0_pastMany, h0_isKept, h0_text, h0_typed, h0_isUsed, .ref p1, .ref p2, .ref p3, h0_planMany, h0_planGot, h0_planSubstitutes, h0_at, h0_fault, h0_entries, h0_entry])), (zq, .inl (cI, 1002, .inl (upd z4 ((794 + (2 * tk)) + 1) (pu k)))), (p1, .inl (cI, 40, .inl pb)), (p2, .inl (cI, 40, .inl pu)), (p3, .inl (cI, 40, .inl pc))] H := hP
  have hD : va_D A [(h0, .inr (10, [.ref zq, h0_past, h0_kept, h0_spare, h0_pastMany, h0_isKept, h0_text, h0_typed, h0_isUsed, .ref p1, .ref p2, .ref p3, h0_planMany, h0_planGot, h0_planSubstitutes, h0_at, h0_fault, h0_entries, h0_entry])), (zq, .inl (cI, 1002, .inl (upd z4 ((794 + (2 * tk)) + 1) (pu k)))), (p1, .inl (cI, 40, .inl pb)), (p2, .inl (cI, 40, .inl pu)), (p3, .inl (cI, 40, .inl pc))] := hD
  obtain ⟨z5, hz5⟩ : ∃ x, x = upd z4 ((794 + (2 * tk)) + 1) (pu k) := ⟨_, rfl⟩
  rw [← hz5] at hP hD
  have hP : va_P (dC, dI) vwCl [(h0, .inr (10, [.ref zq, h0_past, h0_kept, h0_spare, h0_pastMany, h0_isKept, h0_text, h0_typed, h0_isUsed, .ref p1, .ref p2, .ref p3, h0_planMany, h0_planGot, h0_planSubstitutes, h0_at, h0_fault, h0_entries, h0_entry])), (zq, .inl (cI, 1002, .inl z5)), (p1, .inl (cI, 40, .inl pb)), (p2, .inl (cI, 40, .inl pu)), (p3, .inl (cI, 40, .inl pc))] H := hP
  have hD : va_D A [(h0, .inr (10, [.ref zq, h0_past, h0_kept, h0_spare, h0_pastMany, h0_isKept, h0_text, h0_typed, h0_isUsed, .ref p1, .ref p2, .ref p3, h0_planMany, h0_planGot, h0_planSubstitutes, h0_at, h0_fault, h0_entries, h0_entry])), (zq, .inl (cI, 1002, .inl z5)), (p1, .inl (cI, 40, .inl pb)), (p2, .inl (cI, 40, .inl pu)), (p3, .inl (cI, 40, .inl pc))] := hD
  have h8z5 : z5 8 = nI tk := by rw [hz5]; exact (upd_ne _ _ (by omega)).trans h8z4
  refine lv_aload_n hx hb dX10_sell_82 rfl (lv_at hl 2 rfl) ?_
  refine va_get (D := (dC, dI)) (ci := 10) (v := .ref zq) (C := RX10) (T := TX10) (N := 19) hx hb hts i_X10 hown hK hP 0 rfl rfl 0 (by decide) k_7 (fun _ h9 => h9) rfl dX10_sell_83 ?_
  refine lv_bipush (v := nI 8) hx hb dX10_sell_86 (by decide) ?_
  refine lv_dup2_11 hx hb dX10_sell_88 rfl rfl ?_
  refine xr_iald hx hb hK hP 1 0 rfl rfl (i := 8) (by omega) (by decide) dX10_sell_89 ?_
  refine xr_top (show z5 8 = nI tk from h8z5) ?_
  refine lv_iconst (v := nI 1) hx hb dX10_sell_90 (by decide) ?_
  refine xr_iadd_n hx hb dX10_sell_91 ?_
  refine xr_iast hx hb hK hP hD hS 1 0 rfl rfl (i := 8) (by omega) (by decide) dX10_sell_92 (fun H locs hP hD hS => ?_)
  have hP : va_P (dC, dI) vwCl [(h0, .inr (10, [.ref zq, h0_past, h0_kept, h0_spare, h0_pastMany, h0_isKept, h0_text, h0_typed, h0_isUsed, .ref p1, .ref p2, .ref p3, h0_planMany, h0_planGot, h0_planSubstitutes, h0_at, h0_fault, h0_entries, h0_entry])), (zq, .inl (cI, 1002, .inl (upd z5 8 (nI (tk + 1))))), (p1, .inl (cI, 40, .inl pb)), (p2, .inl (cI, 40, .inl pu)), (p3, .inl (cI, 40, .inl pc))] H := hP
  have hD : va_D A [(h0, .inr (10, [.ref zq, h0_past, h0_kept, h0_spare, h0_pastMany, h0_isKept, h0_text, h0_typed, h0_isUsed, .ref p1, .ref p2, .ref p3, h0_planMany, h0_planGot, h0_planSubstitutes, h0_at, h0_fault, h0_entries, h0_entry])), (zq, .inl (cI, 1002, .inl (upd z5 8 (nI (tk + 1))))), (p1, .inl (cI, 40, .inl pb)), (p2, .inl (cI, 40, .inl pu)), (p3, .inl (cI, 40, .inl pc))] := hD
  refine lv_aload_n hx hb dX10_sell_93 rfl (lv_at hl 2 rfl) ?_
  refine lv_iconst (v := nI 1) hx hb dX10_sell_94 (by decide) ?_
  refine lv_iload_n hx hb dX10_sell_95 rfl (lv_at hl 1 rfl) ?_
  refine lv_iload_n hx hb dX10_sell_96 rfl (lv_at hl 0 rfl) ?_
  refine xkV2 (xV (As := [.int (nI 1), .int (nI ((pb k).toNatClampNeg)), .int (pu k)]) (rest := []) (wc := [(h0, .inr (10, [.ref zq, h0_past, h0_kept, h0_spare, h0_pastMany, h0_isKept, h0_text, h0_typed, h0_isUsed, .ref p1, .ref p2, .ref p3, h0_planMany, h0_planGot, h0_planSubstitutes, h0_at, h0_fault, h0_entries, h0_entry])), (zq, .inl (cI, 1002, .inl (upd z5 8 (nI (tk + 1)))))]) hx hb hml hown hts (c_X10_note l dC dI cI cF cC cZ cQ cS h0 zq h0_past h0_kept h0_spare h0_pastMany h0_isKept h0_text h0_typed h0_isUsed (.ref p1) (.ref p2) (.ref p3) h0_planMany h0_planGot h0_planSubstitutes h0_at h0_fault h0_entries h0_entry (upd z5 8 (nI (tk + 1))) (nI 1) (nI ((pb k).toNatClampNeg)) (pu k)) 3 gX10_sell_X10_note rfl rfl rfl hdV_X10_note ⟨Nat.le_of_ble_eq_true rfl, Nat.le_of_ble_eq_true rfl⟩ hN hK hP hD [0, 1] rfl rfl 10 0 rfl rfl rfl hl.1 rfl (Nat.le_of_ble_eq_true rfl) dX10_sell_97 ⟨Nat.zero_le _, Nat.zero_le _⟩) hP hD hS [0, 1] [0, 1, 2, 3, 4] rfl rfl 5 rfl (by decide +kernel) (fun H locs hP hD hS => ?_)
  have hP : va_P (dC, dI) vwCl [(h0, .inr (10, [.ref zq, h0_past, h0_kept, h0_spare, h0_pastMany, h0_isKept, h0_text, h0_typed, h0_isUsed, .ref p1, .ref p2, .ref p3, h0_planMany, h0_planGot, h0_planSubstitutes, h0_at, h0_fault, h0_entries, h0_entry])), (zq, .inl (cI, 1002, .inl (znote (upd z5 8 (nI (tk + 1))) (nI 1) (nI ((pb k).toNatClampNeg)) (pu k)))), (p1, .inl (cI, 40, .inl pb)), (p2, .inl (cI, 40, .inl pu)), (p3, .inl (cI, 40, .inl pc))] H := hP
  have hD : va_D A [(h0, .inr (10, [.ref zq, h0_past, h0_kept, h0_spare, h0_pastMany, h0_isKept, h0_text, h0_typed, h0_isUsed, .ref p1, .ref p2, .ref p3, h0_planMany, h0_planGot, h0_planSubstitutes, h0_at, h0_fault, h0_entries, h0_entry])), (zq, .inl (cI, 1002, .inl (znote (upd z5 8 (nI (tk + 1))) (nI 1) (nI ((pb k).toNatClampNeg)) (pu k)))), (p1, .inl (cI, 40, .inl pb)), (p2, .inl (cI, 40, .inl pu)), (p3, .inl (cI, 40, .inl pc))] := hD
  subst hz5
  subst hz4
  subst hz3
  have hP9 : va_P (dC, dI) vwCl [(h0, .inr (10, [.ref zq, h0_past, h0_kept, h0_spare, h0_pastMany, h0_isKept, h0_text, h0_typed, h0_isUsed, .ref p1, .ref p2, .ref p3, h0_planMany, h0_planGot, h0_planSubstitutes, h0_at, h0_fault, h0_entries, h0_entry])), (zq, .inl (cI, 1002, .inl (zsold z tk (pb k).toNatClampNeg (pu k) (pc k)))), (p1, .inl (cI, 40, .inl pb)), (p2, .inl (cI, 40, .inl pu)), (p3, .inl (cI, 40, .inl pc))] H := hP
  have hS9 : va_S (va_B [(h0, .inr (10, [.ref zq, h0_past, h0_kept, h0_spare, h0_pastMany, h0_isKept, h0_text, h0_typed, h0_isUsed, .ref p1, .ref p2, .ref p3, h0_planMany, h0_planGot, h0_planSubstitutes, h0_at, h0_fault, h0_entries, h0_entry])), (zq, .inl (cI, 1002, .inl z)), (p1, .inl (cI, 40, .inl pb)), (p2, .inl (cI, 40, .inl pu)), (p3, .inl (cI, 40, .inl pc))]) s.heap H locs := by rw [← hA]; exact hS
  exact W.vret hx hb hr (fun t ht hW => ⟨⟨_, rfl, rfl, by rw [ht]; exact hP9⟩, hS9.X ht⟩) hS9.2.2 dX10_sell_100
