/-! Constructors of the small classes. -/
set_option maxHeartbeats 4000000 in
set_option maxRecDepth 100000 in
theorem c_X0_init (l : Launch) (dC : Nat → ClassId) (dI : Nat → Nat → Nat) (cI cF cC cZ cQ cS : ClassId) (h0 : Nat) : Met l yX0_init wsX0_init ({ frames := 1, cells := 11, slots := 403, locals := 12 }) (xCre (dC, dI) vwCl [.ref h0] (xtys cI cF cC cZ cQ cS) [(h0, .inr (0, [.int (nI 0), .null, .null, .null, .null, .null, .null, .null, .null]))]) (xCq (dC, dI) vwCl [(h0, .inr (0, [.int (nI 0), .null, .null, .null, .null, .null, .null, .null, .null]))] (fun w => ∃ q1 q2 q3 q4 q5 q6 q7 q8 q8a q8b q8c : Nat, w = [(h0, .inr (0, [.int (nI 0), .ref q1, .ref q2, .ref q3, .ref q4, .ref q5, .ref q6, .ref q7, .ref q8])), (q1, .inl (cI, 40, .inl (fun _ => nI 0))), (q2, .inl (cI, 40, .inl (fun _ => nI 0))), (q3, .inl (cI, 40, .inl (fun _ => nI 0))), (q4, .inl (cI, 40, .inl (fun _ => nI 0))), (q5, .inl (cI, 40, .inl (fun _ => nI 0))), (q6, .inl (cI, 40, .inl (fun _ => nI 0))), (q7, .inl (cI, 40, .inl (fun _ => nI 0))), (q8, .inl (cQ, 3, .inr (.inr (.inr (.inr (xrow [q8a, q8b, q8c])))))), (q8a, .inl (cI, 40, .inl (fun _ => nI 0))), (q8b, .inl (cI, 40, .inl (fun _ => nI 0))), (q8c, .inl (cI, 40, .inl (fun _ => nI 0)))])) 11 403 (va_B [(h0, .inr (0, [.int (nI 0), .null, .null, .null, .null, .null, .null, .null, .null]))]) := by
  refine Met.ofW (cc := cX0_init) (maxL := 1) (ret := none) (by decide) rfl ?_
  intro p e s m args below meth c s₁ B hml hv
  obtain ⟨rfl, hP, hK, hD0, hN, hAR⟩ := hv
  have hx := B.exec
  have hb := B.bytes
  have hr := B.returns
  have hts := atoms_spec (ws := wsX0_init) B.pre
  have hown : s.vm.findClass RX0 = some m.cls := findClass_of_methodNamed B.named
  have hin2 : meth.name = "<init>" := (name_of_methodNamed B.named B.method).1
  have hlocks := B.notSynchronized
  have kA_int := hts (Cond.arrayClass .int) (by decide +kernel)
  have k_9 := hts (Cond.fieldLink RX0 9 "ShelfStages$Batches" "good" "[I") (by decide +kernel)
  have k_15 := hts (Cond.fieldLink RX0 15 "ShelfStages$Batches" "came" "[I") (by decide +kernel)
  have k_18 := hts (Cond.fieldLink RX0 18 "ShelfStages$Batches" "left" "[I") (by decide +kernel)
  have k_21 := hts (Cond.fieldLink RX0 21 "ShelfStages$Batches" "shelf" "[I") (by decide +kernel)
  have k_24 := hts (Cond.fieldLink RX0 24 "ShelfStages$Batches" "sold" "[I") (by decide +kernel)
  have k_27 := hts (Cond.fieldLink RX0 27 "ShelfStages$Batches" "given" "[I") (by decide +kernel)
  have k_30 := hts (Cond.fieldLink RX0 30 "ShelfStages$Batches" "cents" "[I") (by decide +kernel)
  have kl_33 := hts (Cond.classLink RX0 33 "[[I") (by decide +kernel)
  have k_35 := hts (Cond.fieldLink RX0 35 "ShelfStages$Batches" "wasted" "[[I") (by decide +kernel)
  have i_X0 : ∀ w ∈ wsX00, w ∈ wsX0_init := by decide +kernel
  obtain ⟨A, hA⟩ : ∃ A, A = va_A [(h0, .inr (0, [.int (nI 0), .null, .null, .null, .null, .null, .null, .null, .null]))] s.heap.size := ⟨_, rfl⟩
  have hA1 : ∀ q, s.heap.size ≤ q → A q := fun q h => by rw [hA]; exact Or.inr h
  have hD : va_D A [(h0, .inr (0, [.int (nI 0), .null, .null, .null, .null, .null, .null, .null, .null]))] := by rw [hA]; exact hD0.self
  have hS : va_S A s.heap s.heap [] := va_S.rf
  have hl := lv_entry ([.ref h0]) (n := 1) (Nat.le_of_ble_eq_true rfl)
  rw [lg_entry_eq]
  generalize (lg_sl ([.ref h0]) ++ List.replicate (1 - (lg_sl ([.ref h0])).length) Slot.unset).toArray = ls at hl ⊢
  have hl : lv_has ls 1 [(0, .ref h0)] := hl
  refine lv_aload_n hx hb dX0_init_0 rfl (lv_at hl 0 rfl) ?_
  refine W.objInit hx hb hown (hts (.methodLink RX0 3 objectInit) (by decide +kernel)) (hts (.instanceMethod objectInit) (by decide +kernel)) (hts (.code objectInit ⟨#[0xb1]⟩ 1 none) (List.mem_of_getElem? (i := 3) rfl)) rfl (by rw [hml]; exact hl.1) rfl dX0_init_1 (Nat.le_of_ble_eq_true rfl) (Nat.le_of_ble_eq_true rfl) ?_
  refine W.eq (show _ = F0 m 4 ls [] from rfl) ?_
  refine lv_aload_n hx hb dX0_init_4 rfl (lv_at hl 0 rfl) ?_
  refine lv_bipush (v := nI 40) hx hb dX0_init_5 (by decide) ?_
  refine xr_newa (atype := .int) (a0 := (40, .inl (fun _ => nI 0))) (N' := 40) (ty := .int) hx hb kA_int rfl hK hP hD hS hA1 0 rfl (xdf_int 40) (nI_pos (by decide)) (nI_clamp (by decide)) (by show 40 * 4 ≤ 536870912; decide) (Nat.le_of_ble_eq_true rfl) (Nat.le_of_ble_eq_true rfl) dX0_init_7 (fun q1 H hP hD hS => ?_)
  have hP : va_P (dC, dI) vwCl [(h0, .inr (0, [.int (nI 0), .null, .null, .null, .null, .null, .null, .null, .null])), (q1, .inl (cI, 40, .inl (fun _ => nI 0)))] H := hP
  have hD : va_D A [(h0, .inr (0, [.int (nI 0), .null, .null, .null, .null, .null, .null, .null, .null])), (q1, .inl (cI, 40, .inl (fun _ => nI 0)))] := hD
  refine va_putF (D := (dC, dI)) (ci := 0) (v := .ref q1) (ty := .array .int) (C := RX0) (T := TX0) (N := 9) hx hb hts i_X0 tyX0 tyX0_ok nmX0 hown hK hP hD hS 0 rfl rfl 1 (by decide) k_9 (fun _ h9 => h9) rfl hin2 rfl (by decide +kernel) rfl rfl (Nat.le_of_ble_eq_true rfl) dX0_init_9 (fun H locs hP hD hS => ?_)
  have hP : va_P (dC, dI) vwCl [(h0, .inr (0, [.int (nI 0), .ref q1, .null, .null, .null, .null, .null, .null, .null])), (q1, .inl (cI, 40, .inl (fun _ => nI 0)))] H := hP
  have hD : va_D A [(h0, .inr (0, [.int (nI 0), .ref q1, .null, .null, .null, .null, .null, .null, .null])), (q1, .inl (cI, 40, .inl (fun _ => nI 0)))] := hD
  refine lv_aload_n hx hb dX0_init_12 rfl (lv_at hl 0 rfl) ?_
  refine lv_bipush (v := nI 40) hx hb dX0_init_13 (by decide) ?_
  refine xr_newa (atype := .int) (a0 := (40, .inl (fun _ => nI 0))) (N' := 40) (ty := .int) hx hb kA_int rfl hK hP hD hS hA1 0 rfl (xdf_int 40) (nI_pos (by decide)) (nI_clamp (by decide)) (by show 40 * 4 ≤ 536870912; decide) (Nat.le_of_ble_eq_true rfl) (Nat.le_of_ble_eq_true rfl) dX0_init_15 (fun q2 H hP hD hS => ?_)
  have hP : va_P (dC, dI) vwCl [(h0, .inr (0, [.int (nI 0), .ref q1, .null, .null, .null, .null, .null, .null, .null])), (q1, .inl (cI, 40, .inl (fun _ => nI 0))), (q2, .inl (cI, 40, .inl (fun _ => nI 0)))] H := hP
  have hD : va_D A [(h0, .inr (0, [.int (nI 0), .ref q1, .null, .null, .null, .null, .null, .null, .null])), (q1, .inl (cI, 40, .inl (fun _ => nI 0))), (q2, .inl (cI, 40, .inl (fun _ => nI 0)))] := hD
  refine va_putF (D := (dC, dI)) (ci := 0) (v := .ref q2) (ty := .array .int) (C := RX0) (T := TX0) (N := 9) hx hb hts i_X0 tyX0 tyX0_ok nmX0 hown hK hP hD hS 0 rfl rfl 2 (by decide) k_15 (fun _ h9 => h9) rfl hin2 rfl (by decide +kernel) rfl rfl (Nat.le_of_ble_eq_true rfl) dX0_init_17 (fun H locs hP hD hS => ?_)
  have hP : va_P (dC, dI) vwCl [(h0, .inr (0, [.int (nI 0), .ref q1, .ref q2, .null, .null, .null, .null, .null, .null])), (q1, .inl (cI, 40, .inl (fun _ => nI 0))), (q2, .inl (cI, 40, .inl (fun _ => nI 0)))] H := hP
  have hD : va_D A [(h0, .inr (0, [.int (nI 0), .ref q1, .ref q2, .null, .null, .null, .null, .null, .null])), (q1, .inl (cI, 40, .inl (fun _ => nI 0))), (q2, .inl (cI, 40, .inl (fun _ => nI 0)))] := hD
  refine lv_aload_n hx hb dX0_init_20 rfl (lv_at hl 0 rfl) ?_
  refine lv_bipush (v := nI 40) hx hb dX0_init_21 (by decide) ?_
  refine xr_newa (atype := .int) (a0 := (40, .inl (fun _ => nI 0))) (N' := 40) (ty := .int) hx hb kA_int rfl hK hP hD hS hA1 0 rfl (xdf_int 40) (nI_pos (by decide)) (nI_clamp (by decide)) (by show 40 * 4 ≤ 536870912; decide) (Nat.le_of_ble_eq_true rfl) (Nat.le_of_ble_eq_true rfl) dX0_init_23 (fun q3 H hP hD hS => ?_)
  have hP : va_P (dC, dI) vwCl [(h0, .inr (0, [.int (nI 0), .ref q1, .ref q2, .null, .null, .null, .null, .null, .null])), (q1, .inl (cI, 40, .inl (fun _ => nI 0))), (q2, .inl (cI, 40, .inl (fun _ => nI 0))), (q3, .inl (cI, 40, .inl (fun _ => nI 0)))] H := hP
  have hD : va_D A [(h0, .inr (0, [.int (nI 0), .ref q1, .ref q2, .null, .null, .null, .null, .null, .null])), (q1, .inl (cI, 40, .inl (fun _ => nI 0))), (q2, .inl (cI, 40, .inl (fun _ => nI 0))), (q3, .inl (cI, 40, .inl (fun _ => nI 0)))] := hD
  refine va_putF (D := (dC, dI)) (ci := 0) (v := .ref q3) (ty := .array .int) (C := RX0) (T := TX0) (N := 9) hx hb hts i_X0 tyX0 tyX0_ok nmX0 hown hK hP hD hS 0 rfl rfl 3 (by decide) k_18 (fun _ h9 => h9) rfl hin2 rfl (by decide +kernel) rfl rfl (Nat.le_of_ble_eq_true rfl) dX0_init_25 (fun H locs hP hD hS => ?_)
  have hP : va_P (dC, dI) vwCl [(h0, .inr (0, [.int (nI 0), .ref q1, .ref q2, .ref q3, .null, .null, .null, .null, .null])), (q1, .inl (cI, 40, .inl (fun _ => nI 0))), (q2, .inl (cI, 40, .inl (fun _ => nI 0))), (q3, .inl (cI, 40, .inl (fun _ => nI 0)))] H := hP
  have hD : va_D A [(h0, .inr (0, [.int (nI 0), .ref q1, .ref q2, .ref q3, .null, .null, .null, .null, .null])), (q1, .inl (cI, 40, .inl (fun _ => nI 0))), (q2, .inl (cI, 40, .inl (fun _ => nI 0))), (q3, .inl (cI, 40, .inl (fun _ => nI 0)))] := hD
  refine lv_aload_n hx hb dX0_init_28 rfl (lv_at hl 0 rfl) ?_
  refine lv_bipush (v := nI 40) hx hb dX0_init_29 (by decide) ?_
  refine xr_newa (atype := .int) (a0 := (40, .inl (fun _ => nI 0))) (N' := 40) (ty := .int) hx hb kA_int rfl hK hP hD hS hA1 0 rfl (xdf_int 40) (nI_pos (by decide)) (nI_clamp (by decide)) (by show 40 * 4 ≤ 536870912; decide) (Nat.le_of_ble_eq_true rfl) (Nat.le_of_ble_eq_true rfl) dX0_init_31 (fun q4 H hP hD hS => ?_)
  have hP : va_P (dC, dI) vwCl [(h0, .inr (0, [.int (nI 0), .ref q1, .ref q2, .ref q3, .null, .null, .null, .null, .null])), (q1, .inl (cI, 40, .inl (fun _ => nI 0))), (q2, .inl (cI, 40, .inl (fun _ => nI 0))), (q3, .inl (cI, 40, .inl (fun _ => nI 0))), (q4, .inl (cI, 40, .inl (fun _ => nI 0)))] H := hP
  have hD : va_D A [(h0, .inr (0, [.int (nI 0), .ref q1, .ref q2, .ref q3, .null, .null, .null, .null, .null])), (q1, .inl (cI, 40, .inl (fun _ => nI 0))), (q2, .inl (cI, 40, .inl (fun _ => nI 0))), (q3, .inl (cI, 40, .inl (fun _ => nI 0))), (q4, .inl (cI, 40, .inl (fun _ => nI 0)))] := hD
  refine va_putF (D := (dC, dI)) (ci := 0) (v := .ref q4) (ty := .array .int) (C := RX0) (T := TX0) (N := 9) hx hb hts i_X0 tyX0 tyX0_ok nmX0 hown hK hP hD hS 0 rfl rfl 4 (by decide) k_21 (fun _ h9 => h9) rfl hin2 rfl (by decide +kernel) rfl rfl (Nat.le_of_ble_eq_true rfl) dX0_init_33 (fun H locs hP hD hS => ?_)
  have hP : va_P (dC, dI) vwCl [(h0, .inr (0, [.int (nI 0), .ref q1, .ref q2, .ref q3, .ref q4, .null, .null, .null, .null])), (q1, .inl (cI, 40, .inl (fun _ => nI 0))), (q2, .inl (cI, 40, .inl (fun _ => nI 0))), (q3, .inl (cI, 40, .inl (fun _ => nI 0))), (q4, .inl (cI, 40, .inl (fun _ => nI 0)))] H := hP
  have hD : va_D A [(h0, .inr (0, [.int (nI 0), .ref q1, .ref q2, .ref q3, .ref q4, .null, .null, .null, .null])), (q1, .inl (cI, 40, .inl (fun _ => nI 0))), (q2, .inl (cI, 40, .inl (fun _ => nI 0))), (q3, .inl (cI, 40, .inl (fun _ => nI 0))), (q4, .inl (cI, 40, .inl (fun _ => nI 0)))] := hD
  refine lv_aload_n hx hb dX0_init_36 rfl (lv_at hl 0 rfl) ?_
  refine lv_bipush (v := nI 40) hx hb dX0_init_37 (by decide) ?_
  refine xr_newa (atype := .int) (a0 := (40, .inl (fun _ => nI 0))) (N' := 40) (ty := .int) hx hb kA_int rfl hK hP hD hS hA1 0 rfl (xdf_int 40) (nI_pos (by decide)) (nI_clamp (by decide)) (by show 40 * 4 ≤ 536870912; decide) (Nat.le_of_ble_eq_true rfl) (Nat.le_of_ble_eq_true rfl) dX0_init_39 (fun q5 H hP hD hS => ?_)
  have hP : va_P (dC, dI) vwCl [(h0, .inr (0, [.int (nI 0), .ref q1, .ref q2, .ref q3, .ref q4, .null, .null, .null, .null])), (q1, .inl (cI, 40, .inl (fun _ => nI 0))), (q2, .inl (cI, 40, .inl (fun _ => nI 0))), (q3, .inl (cI, 40, .inl (fun _ => nI 0))), (q4, .inl (cI, 40, .inl (fun _ => nI 0))), (q5, .inl (cI, 40, .inl (fun _ => nI 0)))] H := hP
  have hD : va_D A [(h0, .inr (0, [.int (nI 0), .ref q1, .ref q2, .ref q3, .ref q4, .null, .null, .null, .null])), (q1, .inl (cI, 40, .inl (fun _ => nI 0))), (q2, .inl (cI, 40, .inl (fun _ => nI 0))), (q3, .inl (cI, 40, .inl (fun _ => nI 0))), (q4, .inl (cI, 40, .inl (fun _ => nI 0))), (q5, .inl (cI, 40, .inl (fun _ => nI 0)))] := hD
  refine va_putF (D := (dC, dI)) (ci := 0) (v := .ref q5) (ty := .array .int) (C := RX0) (T := TX0) (N := 9) hx hb hts i_X0 tyX0 tyX0_ok nmX0 hown hK hP hD hS 0 rfl rfl 5 (by decide) k_24 (fun _ h9 => h9) rfl hin2 rfl (by decide +kernel) rfl rfl (Nat.le_of_ble_eq_true rfl) dX0_init_41 (fun H locs hP hD hS => ?_)
  have hP : va_P (dC, dI) vwCl [(h0, .inr (0, [.int (nI 0), .ref q1, .ref q2, .ref q3, .ref q4, .ref q5, .null, .null, .null])), (q1, .inl (cI, 40, .inl (fun _ => nI 0))), (q2, .inl (cI, 40, .inl (fun _ => nI 0))), (q3, .inl (cI, 40, .inl (fun _ => nI 0))), (q4, .inl (cI, 40, .inl (fun _ => nI 0))), (q5, .inl (cI, 40, .inl (fun _ => nI 0)))] H := hP
  have hD : va_D A [(h0, .inr (0, [.int (nI 0), .ref q1, .ref q2, .ref q3, .ref q4, .ref q5, .null, .null, .null])), (q1, .inl (cI, 40, .inl (fun _ => nI 0))), (q2, .inl (cI, 40, .inl (fun _ => nI 0))), (q3, .inl (cI, 40, .inl (fun _ => nI 0))), (q4, .inl (cI, 40, .inl (fun _ => nI 0))), (q5, .inl (cI, 40, .inl (fun _ => nI 0)))] := hD
  refine lv_aload_n hx hb dX0_init_44 rfl (lv_at hl 0 rfl) ?_
  refine lv_bipush (v := nI 40) hx hb dX0_init_45 (by decide) ?_
  refine xr_newa (atype := .int) (a0 := (40, .inl (fun _ => nI 0))) (N' := 40) (ty := .int) hx hb kA_int rfl hK hP hD hS hA1 0 rfl (xdf_int 40) (nI_pos (by decide)) (nI_clamp (by decide)) (by show 40 * 4 ≤ 536870912; decide) (Nat.le_of_ble_eq_true rfl) (Nat.le_of_ble_eq_true rfl) dX0_init_47 (fun q6 H hP hD hS => ?_)
  have hP : va_P (dC, dI) vwCl [(h0, .inr (0, [.int (nI 0), .ref q1, .ref q2, .ref q3, .ref q4, .ref q5, .null, .null, .null])), (q1, .inl (cI, 40, .inl (fun _ => nI 0))), (q2, .inl (cI, 40, .inl (fun _ => nI 0))), (q3, .inl (cI, 40, .inl (fun _ => nI 0))), (q4, .inl (cI, 40, .inl (fun _ => nI 0))), (q5, .inl (cI, 40, .inl (fun _ => nI 0))), (q6, .inl (cI, 40, .inl (fun _ => nI 0)))] H := hP
  have hD : va_D A [(h0, .inr (0, [.int (nI 0), .ref q1, .ref q2, .ref q3, .ref q4, .ref q5, .null, .null, .null])), (q1, .inl (cI, 40, .inl (fun _ => nI 0))), (q2, .inl (cI, 40, .inl (fun _ => nI 0))), (q3, .inl (cI, 40, .inl (fun _ => nI 0))), (q4, .inl (cI, 40, .inl (fun _ => nI 0))), (q5, .inl (cI, 40, .inl (fun _ => nI 0))), (q6, .inl (cI, 40, .inl (fun _ => nI 0)))] := hD
  refine va_putF (D := (dC, dI)) (ci := 0) (v := .ref q6) (ty := .array .int) (C := RX0) (T := TX0) (N := 9) hx hb hts i_X0 tyX0 tyX0_ok nmX0 hown hK hP hD hS 0 rfl rfl 6 (by decide) k_27 (fun _ h9 => h9) rfl hin2 rfl (by decide +kernel) rfl rfl (Nat.le_of_ble_eq_true rfl) dX0_init_49 (fun H locs hP hD hS => ?_)
  have hP : va_P (dC, dI) vwCl [(h0, .inr (0, [.int (nI 0), .ref q1, .ref q2, .ref q3, .ref q4, .ref q5, .ref q6, .null, .null])), (q1, .inl (cI, 40, .inl (fun _ => nI 0))), (q2, .inl (cI, 40, .inl (fun _ => nI 0))), (q3, .inl (cI, 40, .inl (fun _ => nI 0))), (q4, .inl (cI, 40, .inl (fun _ => nI 0))), (q5, .inl (cI, 40, .inl (fun _ => nI 0))), (q6, .inl (cI, 40, .inl (fun _ => nI 0)))] H := hP
  have hD : va_D A [(h0, .inr (0, [.int (nI 0), .ref q1, .ref q2, .ref q3, .ref q4, .ref q5, .ref q6, .null, .null])), (q1, .inl (cI, 40, .inl (fun _ => nI 0))), (q2, .inl (cI, 40, .inl (fun _ => nI 0))), (q3, .inl (cI, 40, .inl (fun _ => nI 0))), (q4, .inl (cI, 40, .inl (fun _ => nI 0))), (q5, .inl (cI, 40, .inl (fun _ => nI 0))), (q6, .inl (cI, 40, .inl (fun _ => nI 0)))] := hD
  refine lv_aload_n hx hb dX0_init_52 rfl (lv_at hl 0 rfl) ?_
  refine lv_bipush (v := nI 40) hx hb dX0_init_53 (by decide) ?_
  refine xr_newa (atype := .int) (a0 := (40, .inl (fun _ => nI 0))) (N' := 40) (ty := .int) hx hb kA_int rfl hK hP hD hS hA1 0 rfl (xdf_int 40) (nI_pos (by decide)) (nI_clamp (by decide)) (by show 40 * 4 ≤ 536870912; decide) (Nat.le_of_ble_eq_true rfl) (Nat.le_of_ble_eq_true rfl) dX0_init_55 (fun q7 H hP hD hS => ?_)
  have hP : va_P (dC, dI) vwCl [(h0, .inr (0, [.int (nI 0), .ref q1, .ref q2, .ref q3, .ref q4, .ref q5, .ref q6, .null, .null])), (q1, .inl (cI, 40, .inl (fun _ => nI 0))), (q2, .inl (cI, 40, .inl (fun _ => nI 0))), (q3, .inl (cI, 40, .inl (fun _ => nI 0))), (q4, .inl (cI, 40, .inl (fun _ => nI 0))), (q5, .inl (cI, 40, .inl (fun _ => nI 0))), (q6, .inl (cI, 40, .inl (fun _ => nI 0))), (q7, .inl (cI, 40, .inl (fun _ => nI 0)))] H := hP
  have hD : va_D A [(h0, .inr (0, [.int (nI 0), .ref q1, .ref q2, .ref q3, .ref q4, .ref q5, .ref q6, .null, .null])), (q1, .inl (cI, 40, .inl (fun _ => nI 0))), (q2, .inl (cI, 40, .inl (fun _ => nI 0))), (q3, .inl (cI, 40, .inl (fun _ => nI 0))), (q4, .inl (cI, 40, .inl (fun _ => nI 0))), (q5, .inl (cI, 40, .inl (fun _ => nI 0))), (q6, .inl (cI, 40, .inl (fun _ => nI 0))), (q7, .inl (cI, 40, .inl (fun _ => nI 0)))] := hD
  refine va_putF (D := (dC, dI)) (ci := 0) (v := .ref q7) (ty := .array .int) (C := RX0) (T := TX0) (N := 9) hx hb hts i_X0 tyX0 tyX0_ok nmX0 hown hK hP hD hS 0 rfl rfl 7 (by decide) k_30 (fun _ h9 => h9) rfl hin2 rfl (by decide +kernel) rfl rfl (Nat.le_of_ble_eq_true rfl) dX0_init_57 (fun H locs hP hD hS => ?_)
  have hP : va_P (dC, dI) vwCl [(h0, .inr (0, [.int (nI 0), .ref q1, .ref q2, .ref q3, .ref q4, .ref q5, .ref q6, .ref q7, .null])), (q1, .inl (cI, 40, .inl (fun _ => nI 0))), (q2, .inl (cI, 40, .inl (fun _ => nI 0))), (q3, .inl (cI, 40, .inl (fun _ => nI 0))), (q4, .inl (cI, 40, .inl (fun _ => nI 0))), (q5, .inl (cI, 40, .inl (fun _ => nI 0))), (q6, .inl (cI, 40, .inl (fun _ => nI 0))), (q7, .inl (cI, 40, .inl (fun _ => nI 0)))] H := hP
  have hD : va_D A [(h0, .inr (0, [.int (nI 0), .ref q1, .ref q2, .ref q3, .ref q4, .ref q5, .ref q6, .ref q7, .null])), (q1, .inl (cI, 40, .inl (fun _ => nI 0))), (q2, .inl (cI, 40, .inl (fun _ => nI 0))), (q3, .inl (cI, 40, .inl (fun _ => nI 0))), (q4, .inl (cI, 40, .inl (fun _ => nI 0))), (q5, .inl (cI, 40, .inl (fun _ => nI 0))), (q6, .inl (cI, 40, .inl (fun _ => nI 0))), (q7, .inl (cI, 40, .inl (fun _ => nI 0)))] := hD
  refine lv_aload_n hx hb dX0_init_60 rfl (lv_at hl 0 rfl) ?_
  refine lv_iconst (v := nI 3) hx hb dX0_init_61 (by decide) ?_
  refine lv_bipush (v := nI 40) hx hb dX0_init_62 (by decide) ?_
  refine xr_mna (K := 40) hx hb hown kl_33 hAR.1 kA_int hK hP hD hS hA1 4 0 rfl rfl (nI_pos (by decide)) (nI_clamp (by decide)) (by decide) (Nat.le_of_ble_eq_true rfl) (Nat.le_of_ble_eq_true rfl) dX0_init_64 (fun q8 q8a q8b q8c H hP hD hS => ?_)
  have hP : va_P (dC, dI) vwCl [(h0, .inr (0, [.int (nI 0), .ref q1, .ref q2, .ref q3, .ref q4, .ref q5, .ref q6, .ref q7, .null])), (q1, .inl (cI, 40, .inl (fun _ => nI 0))), (q2, .inl (cI, 40, .inl (fun _ => nI 0))), (q3, .inl (cI, 40, .inl (fun _ => nI 0))), (q4, .inl (cI, 40, .inl (fun _ => nI 0))), (q5, .inl (cI, 40, .inl (fun _ => nI 0))), (q6, .inl (cI, 40, .inl (fun _ => nI 0))), (q7, .inl (cI, 40, .inl (fun _ => nI 0))), (q8, .inl (cQ, 3, .inr (.inr (.inr (.inr (xrow [q8a, q8b, q8c])))))), (q8a, .inl (cI, 40, .inl (fun _ => nI 0))), (q8b, .inl (cI, 40, .inl (fun _ => nI 0))), (q8c, .inl (cI, 40, .inl (fun _ => nI 0)))] H := hP
  have hD : va_D A [(h0, .inr (0, [.int (nI 0), .ref q1, .ref q2, .ref q3, .ref q4, .ref q5, .ref q6, .ref q7, .null])), (q1, .inl (cI, 40, .inl (fun _ => nI 0))), (q2, .inl (cI, 40, .inl (fun _ => nI 0))), (q3, .inl (cI, 40, .inl (fun _ => nI 0))), (q4, .inl (cI, 40, .inl (fun _ => nI 0))), (q5, .inl (cI, 40, .inl (fun _ => nI 0))), (q6, .inl (cI, 40, .inl (fun _ => nI 0))), (q7, .inl (cI, 40, .inl (fun _ => nI 0))), (q8, .inl (cQ, 3, .inr (.inr (.inr (.inr (xrow [q8a, q8b, q8c])))))), (q8a, .inl (cI, 40, .inl (fun _ => nI 0))), (q8b, .inl (cI, 40, .inl (fun _ => nI 0))), (q8c, .inl (cI, 40, .inl (fun _ => nI 0)))] := hD
  refine va_putF (D := (dC, dI)) (ci := 0) (v := .ref q8) (ty := .array (.array .int)) (C := RX0) (T := TX0) (N := 9) hx hb hts i_X0 tyX0 tyX0_ok nmX0 hown hK hP hD hS 0 rfl rfl 8 (by decide) k_35 (fun _ h9 => h9) rfl hin2 rfl (by decide +kernel) rfl rfl (Nat.le_of_ble_eq_true rfl) dX0_init_68 (fun H locs hP hD hS => ?_)
  have hP : va_P (dC, dI) vwCl [(h0, .inr (0, [.int (nI 0), .ref q1, .ref q2, .ref q3, .ref q4, .ref q5, .ref q6, .ref q7, .ref q8])), (q1, .inl (cI, 40, .inl (fun _ => nI 0))), (q2, .inl (cI, 40, .inl (fun _ => nI 0))), (q3, .inl (cI, 40, .inl (fun _ => nI 0))), (q4, .inl (cI, 40, .inl (fun _ => nI 0))), (q5, .inl (cI, 40, .inl (fun _ => nI 0))), (q6, .inl (cI, 40, .inl (fun _ => nI 0))), (q7, .inl (cI, 40, .inl (fun _ => nI 0))), (q8, .inl (cQ, 3, .inr (.inr (.inr (.inr (xrow [q8a, q8b, q8c])))))), (q8a, .inl (cI, 40, .inl (fun _ => nI 0))), (q8b, .inl (cI, 40, .inl (fun _ => nI 0))), (q8c, .inl (cI, 40, .inl (fun _ => nI 0)))] H := hP
  have hD : va_D A [(h0, .inr (0, [.int (nI 0), .ref q1, .ref q2, .ref q3, .ref q4, .ref q5, .ref q6, .ref q7, .ref q8])), (q1, .inl (cI, 40, .inl (fun _ => nI 0))), (q2, .inl (cI, 40, .inl (fun _ => nI 0))), (q3, .inl (cI, 40, .inl (fun _ => nI 0))), (q4, .inl (cI, 40, .inl (fun _ => nI 0))), (q5, .inl (cI, 40, .inl (fun _ => nI 0))), (q6, .inl (cI, 40, .inl (fun _ => nI 0))), (q7, .inl (cI, 40, .inl (fun _ => nI 0))), (q8, .inl (cQ, 3, .inr (.inr (.inr (.inr (xrow [q8a, q8b, q8c])))))), (q8a, .inl (cI, 40, .inl (fun _ => nI 0))), (q8b, .inl (cI, 40, .inl (fun _ => nI 0))), (q8c, .inl (cI, 40, .inl (fun _ => nI 0)))] := hD
  refine xr_old (wc := [(h0, .inr (0, [.int (nI 0), .null, .null, .null, .null, .null, .null, .null, .null]))]) (by rw [← hA]; exact hS) (fun locs1 hl1 => ?_)
  exact W.vret hx hb hr (fun t ht hW => ⟨⟨_, rfl, ⟨q1, q2, q3, q4, q5, q6, q7, q8, q8a, q8b, q8c, rfl⟩, by rw [ht]; exact hP, by rw [← hA]; exact hD⟩, xS_fr (by rw [← hA]; exact hS) ht⟩) hl1 dX0_init_71
set_option maxHeartbeats 4000000 in
set_option maxRecDepth 100000 in
theorem c_X1_init (l : Launch) (dC : Nat → ClassId) (dI : Nat → Nat → Nat) (cI cF cC cZ cQ cS : ClassId) (h0 : Nat) : Met l yX1_init wsX1_init ({ frames := 1, cells := 4, slots := 51, locals := 12 }) (xCre (dC, dI) vwCl [.ref h0] (xtys cI cF cC cZ cQ cS) [(h0, .inr (1, [.int (nI 0), .int (nI 0), .int (nI 0), .null]))]) (xCq (dC, dI) vwCl [(h0, .inr (1, [.int (nI 0), .int (nI 0), .int (nI 0), .null]))] (fun w => ∃ q1 q1a q1b q1c : Nat, w = [(h0, .inr (1, [.int (nI 0), .int (nI 0), .int (nI 0), .ref q1])), (q1, .inl (cQ, 3, .inr (.inr (.inr (.inr (xrow [q1a, q1b, q1c])))))), (q1a, .inl (cI, 16, .inl (fun _ => nI 0))), (q1b, .inl (cI, 16, .inl (fun _ => nI 0))), (q1c, .inl (cI, 16, .inl (fun _ => nI 0)))])) 4 51 (va_B [(h0, .inr (1, [.int (nI 0), .int (nI 0), .int (nI 0), .null]))]) := by
  refine Met.ofW (cc := cX1_init) (maxL := 1) (ret := none) (by decide) rfl ?_
  intro p e s m args below meth c s₁ B hml hv
  obtain ⟨rfl, hP, hK, hD0, hN, hAR⟩ := hv
  have hx := B.exec
  have hb := B.bytes
  have hr := B.returns
  have hts := atoms_spec (ws := wsX1_init) B.pre
  have hown : s.vm.findClass RX1 = some m.cls := findClass_of_methodNamed B.named
  have hin2 : meth.name = "<init>" := (name_of_methodNamed B.named B.method).1
  have hlocks := B.notSynchronized
  have kl_11 := hts (Cond.classLink RX1 11 "[[I") (by decide +kernel)
  have kA_int := hts (Cond.arrayClass .int) (by decide +kernel)
  have k_13 := hts (Cond.fieldLink RX1 13 "ShelfStages$Delivery" "numbers" "[[I") (by decide +kernel)
  have i_X1 : ∀ w ∈ wsX10, w ∈ wsX1_init := by decide +kernel
  obtain ⟨A, hA⟩ : ∃ A, A = va_A [(h0, .inr (1, [.int (nI 0), .int (nI 0), .int (nI 0), .null]))] s.heap.size := ⟨_, rfl⟩
  have hA1 : ∀ q, s.heap.size ≤ q → A q := fun q h => by rw [hA]; exact Or.inr h
  have hD : va_D A [(h0, .inr (1, [.int (nI 0), .int (nI 0), .int (nI 0), .null]))] := by rw [hA]; exact hD0.self
  have hS : va_S A s.heap s.heap [] := va_S.rf
  have hl := lv_entry ([.ref h0]) (n := 1) (Nat.le_of_ble_eq_true rfl)
  rw [lg_entry_eq]
  generalize (lg_sl ([.ref h0]) ++ List.replicate (1 - (lg_sl ([.ref h0])).length) Slot.unset).toArray = ls at hl ⊢
  have hl : lv_has ls 1 [(0, .ref h0)] := hl
  refine lv_aload_n hx hb dX1_init_0 rfl (lv_at hl 0 rfl) ?_
  refine W.objInit hx hb hown (hts (.methodLink RX1 3 objectInit) (by decide +kernel)) (hts (.instanceMethod objectInit) (by decide +kernel)) (hts (.code objectInit ⟨#[0xb1]⟩ 1 none) (List.mem_of_getElem? (i := 3) rfl)) rfl (by rw [hml]; exact hl.1) rfl dX1_init_1 (Nat.le_of_ble_eq_true rfl) (Nat.le_of_ble_eq_true rfl) ?_
  refine W.eq (show _ = F0 m 4 ls [] from rfl) ?_
  refine lv_aload_n hx hb dX1_init_4 rfl (lv_at hl 0 rfl) ?_
  refine lv_iconst (v := nI 3) hx hb dX1_init_5 (by decide) ?_
  refine lv_bipush (v := nI 16) hx hb dX1_init_6 (by decide) ?_
  refine xr_mna (K := 16) hx hb hown kl_11 hAR.1 kA_int hK hP hD hS hA1 4 0 rfl rfl (nI_pos (by decide)) (nI_clamp (by decide)) (by decide) (Nat.le_of_ble_eq_true rfl) (Nat.le_of_ble_eq_true rfl) dX1_init_8 (fun q1 q1a q1b q1c H hP hD hS => ?_)
  have hP : va_P (dC, dI) vwCl [(h0, .inr (1, [.int (nI 0), .int (nI 0), .int (nI 0), .null])), (q1, .inl (cQ, 3, .inr (.inr (.inr (.inr (xrow [q1a, q1b, q1c])))))), (q1a, .inl (cI, 16, .inl (fun _ => nI 0))), (q1b, .inl (cI, 16, .inl (fun _ => nI 0))), (q1c, .inl (cI, 16, .inl (fun _ => nI 0)))] H := hP
  have hD : va_D A [(h0, .inr (1, [.int (nI 0), .int (nI 0), .int (nI 0), .null])), (q1, .inl (cQ, 3, .inr (.inr (.inr (.inr (xrow [q1a, q1b, q1c])))))), (q1a, .inl (cI, 16, .inl (fun _ => nI 0))), (q1b, .inl (cI, 16, .inl (fun _ => nI 0))), (q1c, .inl (cI, 16, .inl (fun _ => nI 0)))] := hD
  refine va_putF (D := (dC, dI)) (ci := 1) (v := .ref q1) (ty := .array (.array .int)) (C := RX1) (T := TX1) (N := 4) hx hb hts i_X1 tyX1 tyX1_ok nmX1 hown hK hP hD hS 0 rfl rfl 3 (by decide) k_13 (fun _ h9 => h9) rfl hin2 rfl (by decide +kernel) rfl rfl (Nat.le_of_ble_eq_true rfl) dX1_init_12 (fun H locs hP hD hS => ?_)
  have hP : va_P (dC, dI) vwCl [(h0, .inr (1, [.int (nI 0), .int (nI 0), .int (nI 0), .ref q1])), (q1, .inl (cQ, 3, .inr (.inr (.inr (.inr (xrow [q1a, q1b, q1c])))))), (q1a, .inl (cI, 16, .inl (fun _ => nI 0))), (q1b, .inl (cI, 16, .inl (fun _ => nI 0))), (q1c, .inl (cI, 16, .inl (fun _ => nI 0)))] H := hP
  have hD : va_D A [(h0, .inr (1, [.int (nI 0), .int (nI 0), .int (nI 0), .ref q1])), (q1, .inl (cQ, 3, .inr (.inr (.inr (.inr (xrow [q1a, q1b, q1c])))))), (q1a, .inl (cI, 16, .inl (fun _ => nI 0))), (q1b, .inl (cI, 16, .inl (fun _ => nI 0))), (q1c, .inl (cI, 16, .inl (fun _ => nI 0)))] := hD
  refine xr_old (wc := [(h0, .inr (1, [.int (nI 0), .int (nI 0), .int (nI 0), .null]))]) (by rw [← hA]; exact hS) (fun locs1 hl1 => ?_)
  exact W.vret hx hb hr (fun t ht hW => ⟨⟨_, rfl, ⟨q1, q1a, q1b, q1c, rfl⟩, by rw [ht]; exact hP, by rw [← hA]; exact hD⟩, xS_fr (by rw [← hA]; exact hS) ht⟩) hl1 dX1_init_15
set_option maxHeartbeats 4000000 in
set_option maxRecDepth 100000 in
theorem c_X2_init (l : Launch) (dC : Nat → ClassId) (dI : Nat → Nat → Nat) (cI cF cC cZ cQ cS : ClassId) (h0 : Nat) : Met l yX2_init wsX2_init ({ frames := 1, cells := 5, slots := 200, locals := 12 }) (xCre (dC, dI) vwCl [.ref h0] (xtys cI cF cC cZ cQ cS) [(h0, .inr (2, [.int (nI 0), .int (nI 0), .int (nI 0), .null, .null, .null, .null, .null, .int (nI 0), .int (nI 0), .int (nI 0)]))]) (xCq (dC, dI) vwCl [(h0, .inr (2, [.int (nI 0), .int (nI 0), .int (nI 0), .null, .null, .null, .null, .null, .int (nI 0), .int (nI 0), .int (nI 0)]))] (fun w => ∃ q1 q2 q3 q4 q5 : Nat, w = [(h0, .inr (2, [.int (nI 0), .int (nI 0), .int (nI 0), .ref q1, .ref q2, .ref q3, .ref q4, .ref q5, .int (nI 0), .int (nI 0), .int (nI 0)])), (q1, .inl (cI, 40, .inl (fun _ => nI 0))), (q2, .inl (cI, 40, .inl (fun _ => nI 0))), (q3, .inl (cI, 40, .inl (fun _ => nI 0))), (q4, .inl (cI, 40, .inl (fun _ => nI 0))), (q5, .inl (cF, 40, .inr (.inr (.inl (fun _ => 0)))))])) 5 200 (va_B [(h0, .inr (2, [.int (nI 0), .int (nI 0), .int (nI 0), .null, .null, .null, .null, .null, .int (nI 0), .int (nI 0), .int (nI 0)]))]) := by
  refine Met.ofW (cc := cX2_init) (maxL := 1) (ret := none) (by decide) rfl ?_
  intro p e s m args below meth c s₁ B hml hv
  obtain ⟨rfl, hP, hK, hD0, hN, hAR⟩ := hv
  have hx := B.exec
  have hb := B.bytes
  have hr := B.returns
  have hts := atoms_spec (ws := wsX2_init) B.pre
  have hown : s.vm.findClass RX2 = some m.cls := findClass_of_methodNamed B.named
  have hin2 : meth.name = "<init>" := (name_of_methodNamed B.named B.method).1
  have hlocks := B.notSynchronized
  have kA_int := hts (Cond.arrayClass .int) (by decide +kernel)
  have k_9 := hts (Cond.fieldLink RX2 9 "ShelfStages$Filling" "batch" "[I") (by decide +kernel)
  have k_15 := hts (Cond.fieldLink RX2 15 "ShelfStages$Filling" "units" "[I") (by decide +kernel)
  have k_18 := hts (Cond.fieldLink RX2 18 "ShelfStages$Filling" "cents" "[I") (by decide +kernel)
  have k_21 := hts (Cond.fieldLink RX2 21 "ShelfStages$Filling" "rest" "[I") (by decide +kernel)
  have kA_float := hts (Cond.arrayClass .float) (by decide +kernel)
  have k_24 := hts (Cond.fieldLink RX2 24 "ShelfStages$Filling" "price" "[F") (by decide +kernel)
  have i_X2 : ∀ w ∈ wsX20, w ∈ wsX2_init := by decide +kernel
  obtain ⟨A, hA⟩ : ∃ A, A = va_A [(h0, .inr (2, [.int (nI 0), .int (nI 0), .int (nI 0), .null, .null, .null, .null, .null, .int (nI 0), .int (nI 0), .int (nI 0)]))] s.heap.size := ⟨_, rfl⟩
  have hA1 : ∀ q, s.heap.size ≤ q → A q := fun q h => by rw [hA]; exact Or.inr h
  have hD : va_D A [(h0, .inr (2, [.int (nI 0), .int (nI 0), .int (nI 0), .null, .null, .null, .null, .null, .int (nI 0), .int (nI 0), .int (nI 0)]))] := by rw [hA]; exact hD0.self
  have hS : va_S A s.heap s.heap [] := va_S.rf
  have hl := lv_entry ([.ref h0]) (n := 1) (Nat.le_of_ble_eq_true rfl)
  rw [lg_entry_eq]
  generalize (lg_sl ([.ref h0]) ++ List.replicate (1 - (lg_sl ([.ref h0])).length) Slot.unset).toArray = ls at hl ⊢
  have hl : lv_has ls 1 [(0, .ref h0)] := hl
  refine lv_aload_n hx hb dX2_init_0 rfl (lv_at hl 0 rfl) ?_
  refine W.objInit hx hb hown (hts (.methodLink RX2 3 objectInit) (by decide +kernel)) (hts (.instanceMethod objectInit) (by decide +kernel)) (hts (.code objectInit ⟨#[0xb1]⟩ 1 none) (List.mem_of_getElem? (i := 3) rfl)) rfl (by rw [hml]; exact hl.1) rfl dX2_init_1 (Nat.le_of_ble_eq_true rfl) (Nat.le_of_ble_eq_true rfl) ?_
  refine W.eq (show _ = F0 m 4 ls [] from rfl) ?_
  refine lv_aload_n hx hb dX2_init_4 rfl (lv_at hl 0 rfl) ?_
  refine lv_bipush (v := nI 40) hx hb dX2_init_5 (by decide) ?_
  refine xr_newa (atype := .int) (a0 := (40, .inl (fun _ => nI 0))) (N' := 40) (ty := .int) hx hb kA_int rfl hK hP hD hS hA1 0 rfl (xdf_int 40) (nI_pos (by decide)) (nI_clamp (by decide)) (by show 40 * 4 ≤ 536870912; decide) (Nat.le_of_ble_eq_true rfl) (Nat.le_of_ble_eq_true rfl) dX2_init_7 (fun q1 H hP hD hS => ?_)
  have hP : va_P (dC, dI) vwCl [(h0, .inr (2, [.int (nI 0), .int (nI 0), .int (nI 0), .null, .null, .null, .null, .null, .int (nI 0), .int (nI 0), .int (nI 0)])), (q1, .inl (cI, 40, .inl (fun _ => nI 0)))] H := hP
  have hD : va_D A [(h0, .inr (2, [.int (nI 0), .int (nI 0), .int (nI 0), .null, .null, .null, .null, .null, .int (nI 0), .int (nI 0), .int (nI 0)])), (q1, .inl (cI, 40, .inl (fun _ => nI 0)))] := hD
  refine va_putF (D := (dC, dI)) (ci := 2) (v := .ref q1) (ty := .array .int) (C := RX2) (T := TX2) (N := 11) hx hb hts i_X2 tyX2 tyX2_ok nmX2 hown hK hP hD hS 0 rfl rfl 3 (by decide) k_9 (fun _ h9 => h9) rfl hin2 rfl (by decide +kernel) rfl rfl (Nat.le_of_ble_eq_true rfl) dX2_init_9 (fun H locs hP hD hS => ?_)
  have hP : va_P (dC, dI) vwCl [(h0, .inr (2, [.int (nI 0), .int (nI 0), .int (nI 0), .ref q1, .null, .null, .null, .null, .int (nI 0), .int (nI 0), .int (nI 0)])), (q1, .inl (cI, 40, .inl (fun _ => nI 0)))] H := hP
  have hD : va_D A [(h0, .inr (2, [.int (nI 0), .int (nI 0), .int (nI 0), .ref q1, .null, .null, .null, .null, .int (nI 0), .int (nI 0), .int (nI 0)])), (q1, .inl (cI, 40, .inl (fun _ => nI 0)))] := hD
  refine lv_aload_n hx hb dX2_init_12 rfl (lv_at hl 0 rfl) ?_
  refine lv_bipush (v := nI 40) hx hb dX2_init_13 (by decide) ?_
  refine xr_newa (atype := .int) (a0 := (40, .inl (fun _ => nI 0))) (N' := 40) (ty := .int) hx hb kA_int rfl hK hP hD hS hA1 0 rfl (xdf_int 40) (nI_pos (by decide)) (nI_clamp (by decide)) (by show 40 * 4 ≤ 536870912; decide) (Nat.le_of_ble_eq_true rfl) (Nat.le_of_ble_eq_true rfl) dX2_init_15 (fun q2 H hP hD hS => ?_)
  have hP : va_P (dC, dI) vwCl [(h0, .inr (2, [.int (nI 0), .int (nI 0), .int (nI 0), .ref q1, .null, .null, .null, .null, .int (nI 0), .int (nI 0), .int (nI 0)])), (q1, .inl (cI, 40, .inl (fun _ => nI 0))), (q2, .inl (cI, 40, .inl (fun _ => nI 0)))] H := hP
  have hD : va_D A [(h0, .inr (2, [.int (nI 0), .int (nI 0), .int (nI 0), .ref q1, .null, .null, .null, .null, .int (nI 0), .int (nI 0), .int (nI 0)])), (q1, .inl (cI, 40, .inl (fun _ => nI 0))), (q2, .inl (cI, 40, .inl (fun _ => nI 0)))] := hD
  refine va_putF (D := (dC, dI)) (ci := 2) (v := .ref q2) (ty := .array .int) (C := RX2) (T := TX2) (N := 11) hx hb hts i_X2 tyX2 tyX2_ok nmX2 hown hK hP hD hS 0 rfl rfl 4 (by decide) k_15 (fun _ h9 => h9) rfl hin2 rfl (by decide +kernel) rfl rfl (Nat.le_of_ble_eq_true rfl) dX2_init_17 (fun H locs hP hD hS => ?_)
  have hP : va_P (dC, dI) vwCl [(h0, .inr (2, [.int (nI 0), .int (nI 0), .int (nI 0), .ref q1, .ref q2, .null, .null, .null, .int (nI 0), .int (nI 0), .int (nI 0)])), (q1, .inl (cI, 40, .inl (fun _ => nI 0))), (q2, .inl (cI, 40, .inl (fun _ => nI 0)))] H := hP
  have hD : va_D A [(h0, .inr (2, [.int (nI 0), .int (nI 0), .int (nI 0), .ref q1, .ref q2, .null, .null, .null, .int (nI 0), .int (nI 0), .int (nI 0)])), (q1, .inl (cI, 40, .inl (fun _ => nI 0))), (q2, .inl (cI, 40, .inl (fun _ => nI 0)))] := hD
  refine lv_aload_n hx hb dX2_init_20 rfl (lv_at hl 0 rfl) ?_
  refine lv_bipush (v := nI 40) hx hb dX2_init_21 (by decide) ?_
  refine xr_newa (atype := .int) (a0 := (40, .inl (fun _ => nI 0))) (N' := 40) (ty := .int) hx hb kA_int rfl hK hP hD hS hA1 0 rfl (xdf_int 40) (nI_pos (by decide)) (nI_clamp (by decide)) (by show 40 * 4 ≤ 536870912; decide) (Nat.le_of_ble_eq_true rfl) (Nat.le_of_ble_eq_true rfl) dX2_init_23 (fun q3 H hP hD hS => ?_)
  have hP : va_P (dC, dI) vwCl [(h0, .inr (2, [.int (nI 0), .int (nI 0), .int (nI 0), .ref q1, .ref q2, .null, .null, .null, .int (nI 0), .int (nI 0), .int (nI 0)])), (q1, .inl (cI, 40, .inl (fun _ => nI 0))), (q2, .inl (cI, 40, .inl (fun _ => nI 0))), (q3, .inl (cI, 40, .inl (fun _ => nI 0)))] H := hP
  have hD : va_D A [(h0, .inr (2, [.int (nI 0), .int (nI 0), .int (nI 0), .ref q1, .ref q2, .null, .null, .null, .int (nI 0), .int (nI 0), .int (nI 0)])), (q1, .inl (cI, 40, .inl (fun _ => nI 0))), (q2, .inl (cI, 40, .inl (fun _ => nI 0))), (q3, .inl (cI, 40, .inl (fun _ => nI 0)))] := hD
  refine va_putF (D := (dC, dI)) (ci := 2) (v := .ref q3) (ty := .array .int) (C := RX2) (T := TX2) (N := 11) hx hb hts i_X2 tyX2 tyX2_ok nmX2 hown hK hP hD hS 0 rfl rfl 5 (by decide) k_18 (fun _ h9 => h9) rfl hin2 rfl (by decide +kernel) rfl rfl (Nat.le_of_ble_eq_true rfl) dX2_init_25 (fun H locs hP hD hS => ?_)
  have hP : va_P (dC, dI) vwCl [(h0, .inr (2, [.int (nI 0), .int (nI 0), .int (nI 0), .ref q1, .ref q2, .ref q3, .null, .null, .int (nI 0), .int (nI 0), .int (nI 0)])), (q1, .inl (cI, 40, .inl (fun _ => nI 0))), (q2, .inl (cI, 40, .inl (fun _ => nI 0))), (q3, .inl (cI, 40, .inl (fun _ => nI 0)))] H := hP
  have hD : va_D A [(h0, .inr (2, [.int (nI 0), .int (nI 0), .int (nI 0), .ref q1, .ref q2, .ref q3, .null, .null, .int (nI 0), .int (nI 0), .int (nI 0)])), (q1, .inl (cI, 40, .inl (fun _ => nI 0))), (q2, .inl (cI, 40, .inl (fun _ => nI 0))), (q3, .inl (cI, 40, .inl (fun _ => nI 0)))] := hD
  refine lv_aload_n hx hb dX2_init_28 rfl (lv_at hl 0 rfl) ?_
  refine lv_bipush (v := nI 40) hx hb dX2_init_29 (by decide) ?_
  refine xr_newa (atype := .int) (a0 := (40, .inl (fun _ => nI 0))) (N' := 40) (ty := .int) hx hb kA_int rfl hK hP hD hS hA1 0 rfl (xdf_int 40) (nI_pos (by decide)) (nI_clamp (by decide)) (by show 40 * 4 ≤ 536870912; decide) (Nat.le_of_ble_eq_true rfl) (Nat.le_of_ble_eq_true rfl) dX2_init_31 (fun q4 H hP hD hS => ?_)
  have hP : va_P (dC, dI) vwCl [(h0, .inr (2, [.int (nI 0), .int (nI 0), .int (nI 0), .ref q1, .ref q2, .ref q3, .null, .null, .int (nI 0), .int (nI 0), .int (nI 0)])), (q1, .inl (cI, 40, .inl (fun _ => nI 0))), (q2, .inl (cI, 40, .inl (fun _ => nI 0))), (q3, .inl (cI, 40, .inl (fun _ => nI 0))), (q4, .inl (cI, 40, .inl (fun _ => nI 0)))] H := hP
  have hD : va_D A [(h0, .inr (2, [.int (nI 0), .int (nI 0), .int (nI 0), .ref q1, .ref q2, .ref q3, .null, .null, .int (nI 0), .int (nI 0), .int (nI 0)])), (q1, .inl (cI, 40, .inl (fun _ => nI 0))), (q2, .inl (cI, 40, .inl (fun _ => nI 0))), (q3, .inl (cI, 40, .inl (fun _ => nI 0))), (q4, .inl (cI, 40, .inl (fun _ => nI 0)))] := hD
  refine va_putF (D := (dC, dI)) (ci := 2) (v := .ref q4) (ty := .array .int) (C := RX2) (T := TX2) (N := 11) hx hb hts i_X2 tyX2 tyX2_ok nmX2 hown hK hP hD hS 0 rfl rfl 6 (by decide) k_21 (fun _ h9 => h9) rfl hin2 rfl (by decide +kernel) rfl rfl (Nat.le_of_ble_eq_true rfl) dX2_init_33 (fun H locs hP hD hS => ?_)
  have hP : va_P (dC, dI) vwCl [(h0, .inr (2, [.int (nI 0), .int (nI 0), .int (nI 0), .ref q1, .ref q2, .ref q3, .ref q4, .null, .int (nI 0), .int (nI 0), .int (nI 0)])), (q1, .inl (cI, 40, .inl (fun _ => nI 0))), (q2, .inl (cI, 40, .inl (fun _ => nI 0))), (q3, .inl (cI, 40, .inl (fun _ => nI 0))), (q4, .inl (cI, 40, .inl (fun _ => nI 0)))] H := hP
  have hD : va_D A [(h0, .inr (2, [.int (nI 0), .int (nI 0), .int (nI 0), .ref q1, .ref q2, .ref q3, .ref q4, .null, .int (nI 0), .int (nI 0), .int (nI 0)])), (q1, .inl (cI, 40, .inl (fun _ => nI 0))), (q2, .inl (cI, 40, .inl (fun _ => nI 0))), (q3, .inl (cI, 40, .inl (fun _ => nI 0))), (q4, .inl (cI, 40, .inl (fun _ => nI 0)))] := hD
  refine lv_aload_n hx hb dX2_init_36 rfl (lv_at hl 0 rfl) ?_
  refine lv_bipush (v := nI 40) hx hb dX2_init_37 (by decide) ?_
  refine xr_newa (atype := .float) (a0 := (40, .inr (.inr (.inl (fun _ => 0))))) (N' := 40) (ty := .float) hx hb kA_float rfl hK hP hD hS hA1 1 rfl (xdf_float 40) (nI_pos (by decide)) (nI_clamp (by decide)) (by show 40 * 4 ≤ 536870912; decide) (Nat.le_of_ble_eq_true rfl) (Nat.le_of_ble_eq_true rfl) dX2_init_39 (fun q5 H hP hD hS => ?_)
  have hP : va_P (dC, dI) vwCl [(h0, .inr (2, [.int (nI 0), .int (nI 0), .int (nI 0), .ref q1, .ref q2, .ref q3, .ref q4, .null, .int (nI 0), .int (nI 0), .int (nI 0)])), (q1, .inl (cI, 40, .inl (fun _ => nI 0))), (q2, .inl (cI, 40, .inl (fun _ => nI 0))), (q3, .inl (cI, 40, .inl (fun _ => nI 0))), (q4, .inl (cI, 40, .inl (fun _ => nI 0))), (q5, .inl (cF, 40, .inr (.inr (.inl (fun _ => 0)))))] H := hP
  have hD : va_D A [(h0, .inr (2, [.int (nI 0), .int (nI 0), .int (nI 0), .ref q1, .ref q2, .ref q3, .ref q4, .null, .int (nI 0), .int (nI 0), .int (nI 0)])), (q1, .inl (cI, 40, .inl (fun _ => nI 0))), (q2, .inl (cI, 40, .inl (fun _ => nI 0))), (q3, .inl (cI, 40, .inl (fun _ => nI 0))), (q4, .inl (cI, 40, .inl (fun _ => nI 0))), (q5, .inl (cF, 40, .inr (.inr (.inl (fun _ => 0)))))] := hD
  refine va_putF (D := (dC, dI)) (ci := 2) (v := .ref q5) (ty := .array .float) (C := RX2) (T := TX2) (N := 11) hx hb hts i_X2 tyX2 tyX2_ok nmX2 hown hK hP hD hS 0 rfl rfl 7 (by decide) k_24 (fun _ h9 => h9) rfl hin2 rfl (by decide +kernel) rfl rfl (Nat.le_of_ble_eq_true rfl) dX2_init_41 (fun H locs hP hD hS => ?_)
  have hP : va_P (dC, dI) vwCl [(h0, .inr (2, [.int (nI 0), .int (nI 0), .int (nI 0), .ref q1, .ref q2, .ref q3, .ref q4, .ref q5, .int (nI 0), .int (nI 0), .int (nI 0)])), (q1, .inl (cI, 40, .inl (fun _ => nI 0))), (q2, .inl (cI, 40, .inl (fun _ => nI 0))), (q3, .inl (cI, 40, .inl (fun _ => nI 0))), (q4, .inl (cI, 40, .inl (fun _ => nI 0))), (q5, .inl (cF, 40, .inr (.inr (.inl (fun _ => 0)))))] H := hP
  have hD : va_D A [(h0, .inr (2, [.int (nI 0), .int (nI 0), .int (nI 0), .ref q1, .ref q2, .ref q3, .ref q4, .ref q5, .int (nI 0), .int (nI 0), .int (nI 0)])), (q1, .inl (cI, 40, .inl (fun _ => nI 0))), (q2, .inl (cI, 40, .inl (fun _ => nI 0))), (q3, .inl (cI, 40, .inl (fun _ => nI 0))), (q4, .inl (cI, 40, .inl (fun _ => nI 0))), (q5, .inl (cF, 40, .inr (.inr (.inl (fun _ => 0)))))] := hD
  refine xr_old (wc := [(h0, .inr (2, [.int (nI 0), .int (nI 0), .int (nI 0), .null, .null, .null, .null, .null, .int (nI 0), .int (nI 0), .int (nI 0)]))]) (by rw [← hA]; exact hS) (fun locs1 hl1 => ?_)
  exact W.vret hx hb hr (fun t ht hW => ⟨⟨_, rfl, ⟨q1, q2, q3, q4, q5, rfl⟩, by rw [ht]; exact hP, by rw [← hA]; exact hD⟩, xS_fr (by rw [← hA]; exact hS) ht⟩) hl1 dX2_init_44
set_option maxHeartbeats 4000000 in
set_option maxRecDepth 100000 in
theorem c_X3_init (l : Launch) (dC : Nat → ClassId) (dI : Nat → Nat → Nat) (cI cF cC cZ cQ cS : ClassId) (h0 : Nat) : Met l yX3_init wsX3_init ({ frames := 1, cells := 4, slots := 84, locals := 12 }) (xCre (dC, dI) vwCl [.ref h0] (xtys cI cF cC cZ cQ cS) [(h0, .inr (3, [.int (nI 0), .null, .null, .null, .null]))]) (xCq (dC, dI) vwCl [(h0, .inr (3, [.int (nI 0), .null, .null, .null, .null]))] (fun w => ∃ q1 q2 q3 q4 : Nat, w = [(h0, .inr (3, [.int (nI 0), .ref q1, .ref q2, .ref q3, .ref q4])), (q1, .inl (cI, 12, .inl (fun _ => nI 0))), (q2, .inl (cI, 12, .inl (fun _ => nI 0))), (q3, .inl (cI, 12, .inl (fun _ => nI 0))), (q4, .inl (cI, 48, .inl (fun _ => nI 0)))])) 4 84 (va_B [(h0, .inr (3, [.int (nI 0), .null, .null, .null, .null]))]) := by
  refine Met.ofW (cc := cX3_init) (maxL := 1) (ret := none) (by decide) rfl ?_
  intro p e s m args below meth c s₁ B hml hv
  obtain ⟨rfl, hP, hK, hD0, hN, hAR⟩ := hv
  have hx := B.exec
  have hb := B.bytes
  have hr := B.returns
  have hts := atoms_spec (ws := wsX3_init) B.pre
  have hown : s.vm.findClass RX3 = some m.cls := findClass_of_methodNamed B.named
  have hin2 : meth.name = "<init>" := (name_of_methodNamed B.named B.method).1
  have hlocks := B.notSynchronized
  have kA_int := hts (Cond.arrayClass .int) (by decide +kernel)
  have k_9 := hts (Cond.fieldLink RX3 9 "ShelfStages$Goods" "price" "[I") (by decide +kernel)
  have k_15 := hts (Cond.fieldLink RX3 15 "ShelfStages$Goods" "life" "[I") (by decide +kernel)
  have k_18 := hts (Cond.fieldLink RX3 18 "ShelfStages$Goods" "listed" "[I") (by decide +kernel)
  have k_21 := hts (Cond.fieldLink RX3 21 "ShelfStages$Goods" "list" "[I") (by decide +kernel)
  have i_X3 : ∀ w ∈ wsX30, w ∈ wsX3_init := by decide +kernel
  obtain ⟨A, hA⟩ : ∃ A, A = va_A [(h0, .inr (3, [.int (nI 0), .null, .null, .null, .null]))] s.heap.size := ⟨_, rfl⟩
  have hA1 : ∀ q, s.heap.size ≤ q → A q := fun q h => by rw [hA]; exact Or.inr h
  have hD : va_D A [(h0, .inr (3, [.int (nI 0), .null, .null, .null, .null]))] := by rw [hA]; exact hD0.self
  have hS : va_S A s.heap s.heap [] := va_S.rf
  have hl := lv_entry ([.ref h0]) (n := 1) (Nat.le_of_ble_eq_true rfl)
  rw [lg_entry_eq]
  generalize (lg_sl ([.ref h0]) ++ List.replicate (1 - (lg_sl ([.ref h0])).length) Slot.unset).toArray = ls at hl ⊢
  have hl : lv_has ls 1 [(0, .ref h0)] := hl
  refine lv_aload_n hx hb dX3_init_0 rfl (lv_at hl 0 rfl) ?_
  refine W.objInit hx hb hown (hts (.methodLink RX3 3 objectInit) (by decide +kernel)) (hts (.instanceMethod objectInit) (by decide +kernel)) (hts (.code objectInit ⟨#[0xb1]⟩ 1 none) (List.mem_of_getElem? (i := 3) rfl)) rfl (by rw [hml]; exact hl.1) rfl dX3_init_1 (Nat.le_of_ble_eq_true rfl) (Nat.le_of_ble_eq_true rfl) ?_
  refine W.eq (show _ = F0 m 4 ls [] from rfl) ?_
  refine lv_aload_n hx hb dX3_init_4 rfl (lv_at hl 0 rfl) ?_
  refine lv_bipush (v := nI 12) hx hb dX3_init_5 (by decide) ?_
  refine xr_newa (atype := .int) (a0 := (12, .inl (fun _ => nI 0))) (N' := 12) (ty := .int) hx hb kA_int rfl hK hP hD hS hA1 0 rfl (xdf_int 12) (nI_pos (by decide)) (nI_clamp (by decide)) (by show 12 * 4 ≤ 536870912; decide) (Nat.le_of_ble_eq_true rfl) (Nat.le_of_ble_eq_true rfl) dX3_init_7 (fun q1 H hP hD hS => ?_)
  have hP : va_P (dC, dI) vwCl [(h0, .inr (3, [.int (nI 0), .null, .null, .null, .null])), (q1, .inl (cI, 12, .inl (fun _ => nI 0)))] H := hP
  have hD : va_D A [(h0, .inr (3, [.int (nI 0), .null, .null, .null, .null])), (q1, .inl (cI, 12, .inl (fun _ => nI 0)))] := hD
  refine va_putF (D := (dC, dI)) (ci := 3) (v := .ref q1) (ty := .array .int) (C := RX3) (T := TX3) (N := 5) hx hb hts i_X3 tyX3 tyX3_ok nmX3 hown hK hP hD hS 0 rfl rfl 1 (by decide) k_9 (fun _ h9 => h9) rfl hin2 rfl (by decide +kernel) rfl rfl (Nat.le_of_ble_eq_true rfl) dX3_init_9 (fun H locs hP hD hS => ?_)
  have hP : va_P (dC, dI) vwCl [(h0, .inr (3, [.int (nI 0), .ref q1, .null, .null, .null])), (q1, .inl (cI, 12, .inl (fun _ => nI 0)))] H := hP
  have hD : va_D A [(h0, .inr (3, [.int (nI 0), .ref q1, .null, .null, .null])), (q1, .inl (cI, 12, .inl (fun _ => nI 0)))] := hD
  refine lv_aload_n hx hb dX3_init_12 rfl (lv_at hl 0 rfl) ?_
  refine lv_bipush (v := nI 12) hx hb dX3_init_13 (by decide) ?_
  refine xr_newa (atype := .int) (a0 := (12, .inl (fun _ => nI 0))) (N' := 12) (ty := .int) hx hb kA_int rfl hK hP hD hS hA1 0 rfl (xdf_int 12) (nI_pos (by decide)) (nI_clamp (by decide)) (by show 12 * 4 ≤ 536870912; decide) (Nat.le_of_ble_eq_true rfl) (Nat.le_of_ble_eq_true rfl) dX3_init_15 (fun q2 H hP hD hS => ?_)
  have hP : va_P (dC, dI) vwCl [(h0, .inr (3, [.int (nI 0), .ref q1, .null, .null, .null])), (q1, .inl (cI, 12, .inl (fun _ => nI 0))), (q2, .inl (cI, 12, .inl (fun _ => nI 0)))] H := hP
  have hD : va_D A [(h0, .inr (3, [.int (nI 0), .ref q1, .null, .null, .null])), (q1, .inl (cI, 12, .inl (fun _ => nI 0))), (q2, .inl (cI, 12, .inl (fun _ => nI 0)))] := hD
  refine va_putF (D := (dC, dI)) (ci := 3) (v := .ref q2) (ty := .array .int) (C := RX3) (T := TX3) (N := 5) hx hb hts i_X3 tyX3 tyX3_ok nmX3 hown hK hP hD hS 0 rfl rfl 2 (by decide) k_15 (fun _ h9 => h9) rfl hin2 rfl (by decide +kernel) rfl rfl (Nat.le_of_ble_eq_true rfl) dX3_init_17 (fun H locs hP hD hS => ?_)
  have hP : va_P (dC, dI) vwCl [(h0, .inr (3, [.int (nI 0), .ref q1, .ref q2, .null, .null])), (q1, .inl (cI, 12, .inl (fun _ => nI 0))), (q2, .inl (cI, 12, .inl (fun _ => nI 0)))] H := hP
  have hD : va_D A [(h0, .inr (3, [.int (nI 0), .ref q1, .ref q2, .null, .null])), (q1, .inl (cI, 12, .inl (fun _ => nI 0))), (q2, .inl (cI, 12, .inl (fun _ => nI 0)))] := hD
  refine lv_aload_n hx hb dX3_init_20 rfl (lv_at hl 0 rfl) ?_
  refine lv_bipush (v := nI 12) hx hb dX3_init_21 (by decide) ?_
  refine xr_newa (atype := .int) (a0 := (12, .inl (fun _ => nI 0))) (N' := 12) (ty := .int) hx hb kA_int rfl hK hP hD hS hA1 0 rfl (xdf_int 12) (nI_pos (by decide)) (nI_clamp (by decide)) (by show 12 * 4 ≤ 536870912; decide) (Nat.le_of_ble_eq_true rfl) (Nat.le_of_ble_eq_true rfl) dX3_init_23 (fun q3 H hP hD hS => ?_)
  have hP : va_P (dC, dI) vwCl [(h0, .inr (3, [.int (nI 0), .ref q1, .ref q2, .null, .null])), (q1, .inl (cI, 12, .inl (fun _ => nI 0))), (q2, .inl (cI, 12, .inl (fun _ => nI 0))), (q3, .inl (cI, 12, .inl (fun _ => nI 0)))] H := hP
  have hD : va_D A [(h0, .inr (3, [.int (nI 0), .ref q1, .ref q2, .null, .null])), (q1, .inl (cI, 12, .inl (fun _ => nI 0))), (q2, .inl (cI, 12, .inl (fun _ => nI 0))), (q3, .inl (cI, 12, .inl (fun _ => nI 0)))] := hD
  refine va_putF (D := (dC, dI)) (ci := 3) (v := .ref q3) (ty := .array .int) (C := RX3) (T := TX3) (N := 5) hx hb hts i_X3 tyX3 tyX3_ok nmX3 hown hK hP hD hS 0 rfl rfl 3 (by decide) k_18 (fun _ h9 => h9) rfl hin2 rfl (by decide +kernel) rfl rfl (Nat.le_of_ble_eq_true rfl) dX3_init_25 (fun H locs hP hD hS => ?_)
  have hP : va_P (dC, dI) vwCl [(h0, .inr (3, [.int (nI 0), .ref q1, .ref q2, .ref q3, .null])), (q1, .inl (cI, 12, .inl (fun _ => nI 0))), (q2, .inl (cI, 12, .inl (fun _ => nI 0))), (q3, .inl (cI, 12, .inl (fun _ => nI 0)))] H := hP
  have hD : va_D A [(h0, .inr (3, [.int (nI 0), .ref q1, .ref q2, .ref q3, .null])), (q1, .inl (cI, 12, .inl (fun _ => nI 0))), (q2, .inl (cI, 12, .inl (fun _ => nI 0))), (q3, .inl (cI, 12, .inl (fun _ => nI 0)))] := hD
  refine lv_aload_n hx hb dX3_init_28 rfl (lv_at hl 0 rfl) ?_
  refine lv_bipush (v := nI 48) hx hb dX3_init_29 (by decide) ?_
  refine xr_newa (atype := .int) (a0 := (48, .inl (fun _ => nI 0))) (N' := 48) (ty := .int) hx hb kA_int rfl hK hP hD hS hA1 0 rfl (xdf_int 48) (nI_pos (by decide)) (nI_clamp (by decide)) (by show 48 * 4 ≤ 536870912; decide) (Nat.le_of_ble_eq_true rfl) (Nat.le_of_ble_eq_true rfl) dX3_init_31 (fun q4 H hP hD hS => ?_)
  have hP : va_P (dC, dI) vwCl [(h0, .inr (3, [.int (nI 0), .ref q1, .ref q2, .ref q3, .null])), (q1, .inl (cI, 12, .inl (fun _ => nI 0))), (q2, .inl (cI, 12, .inl (fun _ => nI 0))), (q3, .inl (cI, 12, .inl (fun _ => nI 0))), (q4, .inl (cI, 48, .inl (fun _ => nI 0)))] H := hP
  have hD : va_D A [(h0, .inr (3, [.int (nI 0), .ref q1, .ref q2, .ref q3, .null])), (q1, .inl (cI, 12, .inl (fun _ => nI 0))), (q2, .inl (cI, 12, .inl (fun _ => nI 0))), (q3, .inl (cI, 12, .inl (fun _ => nI 0))), (q4, .inl (cI, 48, .inl (fun _ => nI 0)))] := hD
  refine va_putF (D := (dC, dI)) (ci := 3) (v := .ref q4) (ty := .array .int) (C := RX3) (T := TX3) (N := 5) hx hb hts i_X3 tyX3 tyX3_ok nmX3 hown hK hP hD hS 0 rfl rfl 4 (by decide) k_21 (fun _ h9 => h9) rfl hin2 rfl (by decide +kernel) rfl rfl (Nat.le_of_ble_eq_true rfl) dX3_init_33 (fun H locs hP hD hS => ?_)
  have hP : va_P (dC, dI) vwCl [(h0, .inr (3, [.int (nI 0), .ref q1, .ref q2, .ref q3, .ref q4])), (q1, .inl (cI, 12, .inl (fun _ => nI 0))), (q2, .inl (cI, 12, .inl (fun _ => nI 0))), (q3, .inl (cI, 12, .inl (fun _ => nI 0))), (q4, .inl (cI, 48, .inl (fun _ => nI 0)))] H := hP
  have hD : va_D A [(h0, .inr (3, [.int (nI 0), .ref q1, .ref q2, .ref q3, .ref q4])), (q1, .inl (cI, 12, .inl (fun _ => nI 0))), (q2, .inl (cI, 12, .inl (fun _ => nI 0))), (q3, .inl (cI, 12, .inl (fun _ => nI 0))), (q4, .inl (cI, 48, .inl (fun _ => nI 0)))] := hD
  refine xr_old (wc := [(h0, .inr (3, [.int (nI 0), .null, .null, .null, .null]))]) (by rw [← hA]; exact hS) (fun locs1 hl1 => ?_)
  exact W.vret hx hb hr (fun t ht hW => ⟨⟨_, rfl, ⟨q1, q2, q3, q4, rfl⟩, by rw [ht]; exact hP, by rw [← hA]; exact hD⟩, xS_fr (by rw [← hA]; exact hS) ht⟩) hl1 dX3_init_36
set_option maxHeartbeats 4000000 in
set_option maxRecDepth 100000 in
theorem c_X5_init (l : Launch) (dC : Nat → ClassId) (dI : Nat → Nat → Nat) (cI cF cC cZ cQ cS : ClassId) (h0 : Nat) : Met l yX5_init wsX5_init ({ frames := 1, cells := 4, slots := 40, locals := 12 }) (xCre (dC, dI) vwCl [.ref h0] (xtys cI cF cC cZ cQ cS) [(h0, .inr (5, [.int (nI 0), .int (nI 0), .null, .null, .null, .null]))]) (xCq (dC, dI) vwCl [(h0, .inr (5, [.int (nI 0), .int (nI 0), .null, .null, .null, .null]))] (fun w => ∃ q1 q2 q3 q4 : Nat, w = [(h0, .inr (5, [.int (nI 0), .int (nI 0), .ref q1, .ref q2, .ref q3, .ref q4])), (q1, .inl (cI, 10, .inl (fun _ => nI 0))), (q2, .inl (cI, 10, .inl (fun _ => nI 0))), (q3, .inl (cI, 10, .inl (fun _ => nI 0))), (q4, .inl (cI, 10, .inl (fun _ => nI 0)))])) 4 40 (va_B [(h0, .inr (5, [.int (nI 0), .int (nI 0), .null, .null, .null, .null]))]) := by
  refine Met.ofW (cc := cX5_init) (maxL := 1) (ret := none) (by decide) rfl ?_
  intro p e s m args below meth c s₁ B hml hv
  obtain ⟨rfl, hP, hK, hD0, hN, hAR⟩ := hv
  have hx := B.exec
  have hb := B.bytes
  have hr := B.returns
  have hts := atoms_spec (ws := wsX5_init) B.pre
  have hown : s.vm.findClass RX5 = some m.cls := findClass_of_methodNamed B.named
  have hin2 : meth.name = "<init>" := (name_of_methodNamed B.named B.method).1
  have hlocks := B.notSynchronized
  have kA_int := hts (Cond.arrayClass .int) (by decide +kernel)
  have k_9 := hts (Cond.fieldLink RX5 9 "ShelfStages$Log" "kind" "[I") (by decide +kernel)
  have k_15 := hts (Cond.fieldLink RX5 15 "ShelfStages$Log" "batch" "[I") (by decide +kernel)
  have k_18 := hts (Cond.fieldLink RX5 18 "ShelfStages$Log" "units" "[I") (by decide +kernel)
  have k_21 := hts (Cond.fieldLink RX5 21 "ShelfStages$Log" "day" "[I") (by decide +kernel)
  have i_X5 : ∀ w ∈ wsX50, w ∈ wsX5_init := by decide +kernel
  obtain ⟨A, hA⟩ : ∃ A, A = va_A [(h0, .inr (5, [.int (nI 0), .int (nI 0), .null, .null, .null, .null]))] s.heap.size := ⟨_, rfl⟩
  have hA1 : ∀ q, s.heap.size ≤ q → A q := fun q h => by rw [hA]; exact Or.inr h
  have hD : va_D A [(h0, .inr (5, [.int (nI 0), .int (nI 0), .null, .null, .null, .null]))] := by rw [hA]; exact hD0.self
  have hS : va_S A s.heap s.heap [] := va_S.rf
  have hl := lv_entry ([.ref h0]) (n := 1) (Nat.le_of_ble_eq_true rfl)
  rw [lg_entry_eq]
  generalize (lg_sl ([.ref h0]) ++ List.replicate (1 - (lg_sl ([.ref h0])).length) Slot.unset).toArray = ls at hl ⊢
  have hl : lv_has ls 1 [(0, .ref h0)] := hl
  refine lv_aload_n hx hb dX5_init_0 rfl (lv_at hl 0 rfl) ?_
  refine W.objInit hx hb hown (hts (.methodLink RX5 3 objectInit) (by decide +kernel)) (hts (.instanceMethod objectInit) (by decide +kernel)) (hts (.code objectInit ⟨#[0xb1]⟩ 1 none) (List.mem_of_getElem? (i := 3) rfl)) rfl (by rw [hml]; exact hl.1) rfl dX5_init_1 (Nat.le_of_ble_eq_true rfl) (Nat.le_of_ble_eq_true rfl) ?_
  refine W.eq (show _ = F0 m 4 ls [] from rfl) ?_
  refine lv_aload_n hx hb dX5_init_4 rfl (lv_at hl 0 rfl) ?_
  refine lv_bipush (v := nI 10) hx hb dX5_init_5 (by decide) ?_
  refine xr_newa (atype := .int) (a0 := (10, .inl (fun _ => nI 0))) (N' := 10) (ty := .int) hx hb kA_int rfl hK hP hD hS hA1 0 rfl (xdf_int 10) (nI_pos (by decide)) (nI_clamp (by decide)) (by show 10 * 4 ≤ 536870912; decide) (Nat.le_of_ble_eq_true rfl) (Nat.le_of_ble_eq_true rfl) dX5_init_7 (fun q1 H hP hD hS => ?_)
  have hP : va_P (dC, dI) vwCl [(h0, .inr (5, [.int (nI 0), .int (nI 0), .null, .null, .null, .null])), (q1, .inl (cI, 10, .inl (fun _ => nI 0)))] H := hP
  have hD : va_D A [(h0, .inr (5, [.int (nI 0), .int (nI 0), .null, .null, .null, .null])), (q1, .inl (cI, 10, .inl (fun _ => nI 0)))] := hD
  refine va_putF (D := (dC, dI)) (ci := 5) (v := .ref q1) (ty := .array .int) (C := RX5) (T := TX5) (N := 6) hx hb hts i_X5 tyX5 tyX5_ok nmX5 hown hK hP hD hS 0 rfl rfl 2 (by decide) k_9 (fun _ h9 => h9) rfl hin2 rfl (by decide +kernel) rfl rfl (Nat.le_of_ble_eq_true rfl) dX5_init_9 (fun H locs hP hD hS => ?_)
  have hP : va_P (dC, dI) vwCl [(h0, .inr (5, [.int (nI 0), .int (nI 0), .ref q1, .null, .null, .null])), (q1, .inl (cI, 10, .inl (fun _ => nI 0)))] H := hP
  have hD : va_D A [(h0, .inr (5, [.int (nI 0), .int (nI 0), .ref q1, .null, .null, .null])), (q1, .inl (cI, 10, .inl (fun _ => nI 0)))] := hD
  refine lv_aload_n hx hb dX5_init_12 rfl (lv_at hl 0 rfl) ?_
  refine lv_bipush (v := nI 10) hx hb dX5_init_13 (by decide) ?_
  refine xr_newa (atype := .int) (a0 := (10, .inl (fun _ => nI 0))) (N' := 10) (ty := .int) hx hb kA_int rfl hK hP hD hS hA1 0 rfl (xdf_int 10) (nI_pos (by decide)) (nI_clamp (by decide)) (by show 10 * 4 ≤ 536870912; decide) (Nat.le_of_ble_eq_true rfl) (Nat.le_of_ble_eq_true rfl) dX5_init_15 (fun q2 H hP hD hS => ?_)
  have hP : va_P (dC, dI) vwCl [(h0, .inr (5, [.int (nI 0), .int (nI 0), .ref q1, .null, .null, .null])), (q1, .inl (cI, 10, .inl (fun _ => nI 0))), (q2, .inl (cI, 10, .inl (fun _ => nI 0)))] H := hP
  have hD : va_D A [(h0, .inr (5, [.int (nI 0), .int (nI 0), .ref q1, .null, .null, .null])), (q1, .inl (cI, 10, .inl (fun _ => nI 0))), (q2, .inl (cI, 10, .inl (fun _ => nI 0)))] := hD
  refine va_putF (D := (dC, dI)) (ci := 5) (v := .ref q2) (ty := .array .int) (C := RX5) (T := TX5) (N := 6) hx hb hts i_X5 tyX5 tyX5_ok nmX5 hown hK hP hD hS 0 rfl rfl 3 (by decide) k_15 (fun _ h9 => h9) rfl hin2 rfl (by decide +kernel) rfl rfl (Nat.le_of_ble_eq_true rfl) dX5_init_17 (fun H locs hP hD hS => ?_)
  have hP : va_P (dC, dI) vwCl [(h0, .inr (5, [.int (nI 0), .int (nI 0), .ref q1, .ref q2, .null, .null])), (q1, .inl (cI, 10, .inl (fun _ => nI 0))), (q2, .inl (cI, 10, .inl (fun _ => nI 0)))] H := hP
  have hD : va_D A [(h0, .inr (5, [.int (nI 0), .int (nI 0), .ref q1, .ref q2, .null, .null])), (q1, .inl (cI, 10, .inl (fun _ => nI 0))), (q2, .inl (cI, 10, .inl (fun _ => nI 0)))] := hD
  refine lv_aload_n hx hb dX5_init_20 rfl (lv_at hl 0 rfl) ?_
  refine lv_bipush (v := nI 10) hx hb dX5_init_21 (by decide) ?_
  refine xr_newa (atype := .int) (a0 := (10, .inl (fun _ => nI 0))) (N' := 10) (ty := .int) hx hb kA_int rfl hK hP hD hS hA1 0 rfl (xdf_int 10) (nI_pos (by decide)) (nI_clamp (by decide)) (by show 10 * 4 ≤ 536870912; decide) (Nat.le_of_ble_eq_true rfl) (Nat.le_of_ble_eq_true rfl) dX5_init_23 (fun q3 H hP hD hS => ?_)
  have hP : va_P (dC, dI) vwCl [(h0, .inr (5, [.int (nI 0), .int (nI 0), .ref q1, .ref q2, .null, .null])), (q1, .inl (cI, 10, .inl (fun _ => nI 0))), (q2, .inl (cI, 10, .inl (fun _ => nI 0))), (q3, .inl (cI, 10, .inl (fun _ => nI 0)))] H := hP
  have hD : va_D A [(h0, .inr (5, [.int (nI 0), .int (nI 0), .ref q1, .ref q2, .null, .null])), (q1, .inl (cI, 10, .inl (fun _ => nI 0))), (q2, .inl (cI, 10, .inl (fun _ => nI 0))), (q3, .inl (cI, 10, .inl (fun _ => nI 0)))] := hD
  refine va_putF (D := (dC, dI)) (ci := 5) (v := .ref q3) (ty := .array .int) (C := RX5) (T := TX5) (N := 6) hx hb hts i_X5 tyX5 tyX5_ok nmX5 hown hK hP hD hS 0 rfl rfl 4 (by decide) k_18 (fun _ h9 => h9) rfl hin2 rfl (by decide +kernel) rfl rfl (Nat.le_of_ble_eq_true rfl) dX5_init_25 (fun H locs hP hD hS => ?_)
  have hP : va_P (dC, dI) vwCl [(h0, .inr (5, [.int (nI 0), .int (nI 0), .ref q1, .ref q2, .ref q3, .null])), (q1, .inl (cI, 10, .inl (fun _ => nI 0))), (q2, .inl (cI, 10, .inl (fun _ => nI 0))), (q3, .inl (cI, 10, .inl (fun _ => nI 0)))] H := hP
  have hD : va_D A [(h0, .inr (5, [.int (nI 0), .int (nI 0), .ref q1, .ref q2, .ref q3, .null])), (q1, .inl (cI, 10, .inl (fun _ => nI 0))), (q2, .inl (cI, 10, .inl (fun _ => nI 0))), (q3, .inl (cI, 10, .inl (fun _ => nI 0)))] := hD
  refine lv_aload_n hx hb dX5_init_28 rfl (lv_at hl 0 rfl) ?_
  refine lv_bipush (v := nI 10) hx hb dX5_init_29 (by decide) ?_
  refine xr_newa (atype := .int) (a0 := (10, .inl (fun _ => nI 0))) (N' := 10) (ty := .int) hx hb kA_int rfl hK hP hD hS hA1 0 rfl (xdf_int 10) (nI_pos (by decide)) (nI_clamp (by decide)) (by show 10 * 4 ≤ 536870912; decide) (Nat.le_of_ble_eq_true rfl) (Nat.le_of_ble_eq_true rfl) dX5_init_31 (fun q4 H hP hD hS => ?_)
  have hP : va_P (dC, dI) vwCl [(h0, .inr (5, [.int (nI 0), .int (nI 0), .ref q1, .ref q2, .ref q3, .null])), (q1, .inl (cI, 10, .inl (fun _ => nI 0))), (q2, .inl (cI, 10, .inl (fun _ => nI 0))), (q3, .inl (cI, 10, .inl (fun _ => nI 0))), (q4, .inl (cI, 10, .inl (fun _ => nI 0)))] H := hP
  have hD : va_D A [(h0, .inr (5, [.int (nI 0), .int (nI 0), .ref q1, .ref q2, .ref q3, .null])), (q1, .inl (cI, 10, .inl (fun _ => nI 0))), (q2, .inl (cI, 10, .inl (fun _ => nI 0))), (q3, .inl (cI, 10, .inl (fun _ => nI 0))), (q4, .inl (cI, 10, .inl (fun _ => nI 0)))] := hD
  refine va_putF (D := (dC, dI)) (ci := 5) (v := .ref q4) (ty := .array .int) (C := RX5) (T := TX5) (N := 6) hx hb hts i_X5 tyX5 tyX5_ok nmX5 hown hK hP hD hS 0 rfl rfl 5 (by decide) k_21 (fun _ h9 => h9) rfl hin2 rfl (by decide +kernel) rfl rfl (Nat.le_of_ble_eq_true rfl) dX5_init_33 (fun H locs hP hD hS => ?_)
  have hP : va_P (dC, dI) vwCl [(h0, .inr (5, [.int (nI 0), .int (nI 0), .ref q1, .ref q2, .ref q3, .ref q4])), (q1, .inl (cI, 10, .inl (fun _ => nI 0))), (q2, .inl (cI, 10, .inl (fun _ => nI 0))), (q3, .inl (cI, 10, .inl (fun _ => nI 0))), (q4, .inl (cI, 10, .inl (fun _ => nI 0)))] H := hP
  have hD : va_D A [(h0, .inr (5, [.int (nI 0), .int (nI 0), .ref q1, .ref q2, .ref q3, .ref q4])), (q1, .inl (cI, 10, .inl (fun _ => nI 0))), (q2, .inl (cI, 10, .inl (fun _ => nI 0))), (q3, .inl (cI, 10, .inl (fun _ => nI 0))), (q4, .inl (cI, 10, .inl (fun _ => nI 0)))] := hD
  refine xr_old (wc := [(h0, .inr (5, [.int (nI 0), .int (nI 0), .null, .null, .null, .null]))]) (by rw [← hA]; exact hS) (fun locs1 hl1 => ?_)
  exact W.vret hx hb hr (fun t ht hW => ⟨⟨_, rfl, ⟨q1, q2, q3, q4, rfl⟩, by rw [ht]; exact hP, by rw [← hA]; exact hD⟩, xS_fr (by rw [← hA]; exact hS) ht⟩) hl1 dX5_init_36
set_option maxHeartbeats 4000000 in
set_option maxRecDepth 100000 in
theorem c_X6_init (l : Launch) (dC : Nat → ClassId) (dI : Nat → Nat → Nat) (cI cF cC cZ cQ cS : ClassId) (h0 : Nat) : Met l yX6_init wsX6_init ({ frames := 1, cells := 12, slots := 440, locals := 12 }) (xCre (dC, dI) vwCl [.ref h0] (xtys cI cF cC cZ cQ cS) [(h0, .inr (6, [.int (nI 0), .int (nI 0), .null, .null, .null, .null, .null, .null, .null, .null, .null, .null, .null, .null]))]) (xCq (dC, dI) vwCl [(h0, .inr (6, [.int (nI 0), .int (nI 0), .null, .null, .null, .null, .null, .null, .null, .null, .null, .null, .null, .null]))] (fun w => ∃ q1 q2 q3 q4 q5 q6 q7 q8 q9 q10 q11 q12 : Nat, w = [(h0, .inr (6, [.int (nI 0), .int (nI 0), .ref q1, .ref q2, .ref q3, .ref q4, .ref q5, .ref q6, .ref q7, .ref q8, .ref q9, .ref q10, .ref q11, .ref q12])), (q1, .inl (cI, 30, .inl (fun _ => nI 0))), (q2, .inl (cI, 30, .inl (fun _ => nI 0))), (q3, .inl (cI, 30, .inl (fun _ => nI 0))), (q4, .inl (cI, 30, .inl (fun _ => nI 0))), (q5, .inl (cI, 30, .inl (fun _ => nI 0))), (q6, .inl (cI, 30, .inl (fun _ => nI 0))), (q7, .inl (cI, 30, .inl (fun _ => nI 0))), (q8, .inl (cI, 30, .inl (fun _ => nI 0))), (q9, .inl (cI, 30, .inl (fun _ => nI 0))), (q10, .inl (cI, 30, .inl (fun _ => nI 0))), (q11, .inl (cI, 70, .inl (fun _ => nI 0))), (q12, .inl (cI, 70, .inl (fun _ => nI 0)))])) 12 440 (va_B [(h0, .inr (6, [.int (nI 0), .int (nI 0), .null, .null, .null, .null, .null, .null, .null, .null, .null, .null, .null, .null]))]) := by
  refine Met.ofW (cc := cX6_init) (maxL := 1) (ret := none) (by decide) rfl ?_
  intro p e s m args below meth c s₁ B hml hv
  obtain ⟨rfl, hP, hK, hD0, hN, hAR⟩ := hv
  have hx := B.exec
  have hb := B.bytes
  have hr := B.returns
  have hts := atoms_spec (ws := wsX6_init) B.pre
  have hown : s.vm.findClass RX6 = some m.cls := findClass_of_methodNamed B.named
  have hin2 : meth.name = "<init>" := (name_of_methodNamed B.named B.method).1
  have hlocks := B.notSynchronized
  have kA_int := hts (Cond.arrayClass .int) (by decide +kernel)
  have k_9 := hts (Cond.fieldLink RX6 9 "ShelfStages$Orders" "good" "[I") (by decide +kernel)
  have k_15 := hts (Cond.fieldLink RX6 15 "ShelfStages$Orders" "wanted" "[I") (by decide +kernel)
  have k_18 := hts (Cond.fieldLink RX6 18 "ShelfStages$Orders" "got" "[I") (by decide +kernel)
  have k_21 := hts (Cond.fieldLink RX6 21 "ShelfStages$Orders" "replaced" "[I") (by decide +kernel)
  have k_24 := hts (Cond.fieldLink RX6 24 "ShelfStages$Orders" "least" "[I") (by decide +kernel)
  have k_27 := hts (Cond.fieldLink RX6 27 "ShelfStages$Orders" "accepts" "[I") (by decide +kernel)
  have k_30 := hts (Cond.fieldLink RX6 30 "ShelfStages$Orders" "parts" "[I") (by decide +kernel)
  have k_33 := hts (Cond.fieldLink RX6 33 "ShelfStages$Orders" "due" "[I") (by decide +kernel)
  have k_36 := hts (Cond.fieldLink RX6 36 "ShelfStages$Orders" "day" "[I") (by decide +kernel)
  have k_39 := hts (Cond.fieldLink RX6 39 "ShelfStages$Orders" "firstTake" "[I") (by decide +kernel)
  have k_42 := hts (Cond.fieldLink RX6 42 "ShelfStages$Orders" "takeBatch" "[I") (by decide +kernel)
  have k_45 := hts (Cond.fieldLink RX6 45 "ShelfStages$Orders" "takeUnits" "[I") (by decide +kernel)
  have i_X6 : ∀ w ∈ wsX60, w ∈ wsX6_init := by decide +kernel
  obtain ⟨A, hA⟩ : ∃ A, A = va_A [(h0, .inr (6, [.int (nI 0), .int (nI 0), .null, .null, .null, .null, .null, .null, .null, .null, .null, .null, .null, .null]))] s.heap.size := ⟨_, rfl⟩
  have hA1 : ∀ q, s.heap.size ≤ q → A q := fun q h => by rw [hA]; exact Or.inr h
  have hD : va_D A [(h0, .inr (6, [.int (nI 0), .int (nI 0), .null, .null, .null, .null, .null, .null, .null, .null, .null, .null, .null, .null]))] := by rw [hA]; exact hD0.self
  have hS : va_S A s.heap s.heap [] := va_S.rf
  have hl := lv_entry ([.ref h0]) (n := 1) (Nat.le_of_ble_eq_true rfl)
  rw [lg_entry_eq]
  generalize (lg_sl ([.ref h0]) ++ List.replicate (1 - (lg_sl ([.ref h0])).length) Slot.unset).toArray = ls at hl ⊢
  have hl : lv_has ls 1 [(0, .ref h0)] := hl
  refine lv_aload_n hx hb dX6_init_0 rfl (lv_at hl 0 rfl) ?_
  refine W.objInit hx hb hown (hts (.methodLink RX6 3 objectInit) (by decide +kernel)) (hts (.instanceMethod objectInit) (by decide +kernel)) (hts (.code objectInit ⟨#[0xb1]⟩ 1 none) (List.mem_of_getElem? (i := 3) rfl)) rfl (by rw [hml]; exact hl.1) rfl dX6_init_1 (Nat.le_of_ble_eq_true rfl) (Nat.le_of_ble_eq_true rfl) ?_
  refine W.eq (show _ = F0 m 4 ls [] from rfl) ?_
  refine lv_aload_n hx hb dX6_init_4 rfl (lv_at hl 0 rfl) ?_
  refine lv_bipush (v := nI 30) hx hb dX6_init_5 (by decide) ?_
  refine xr_newa (atype := .int) (a0 := (30, .inl (fun _ => nI 0))) (N' := 30) (ty := .int) hx hb kA_int rfl hK hP hD hS hA1 0 rfl (xdf_int 30) (nI_pos (by decide)) (nI_clamp (by decide)) (by show 30 * 4 ≤ 536870912; decide) (Nat.le_of_ble_eq_true rfl) (Nat.le_of_ble_eq_true rfl) dX6_init_7 (fun q1 H hP hD hS => ?_)
  have hP : va_P (dC, dI) vwCl [(h0, .inr (6, [.int (nI 0), .int (nI 0), .null, .null, .null, .null, .null, .null, .null, .null, .null, .null, .null, .null])), (q1, .inl (cI, 30, .inl (fun _ => nI 0)))] H := hP
  have hD : va_D A [(h0, .inr (6, [.int (nI 0), .int (nI 0), .null, .null, .null, .null, .null, .null, .null, .null, .null, .null, .null, .null])), (q1, .inl (cI, 30, .inl (fun _ => nI 0)))] := hD
  refine va_putF (D := (dC, dI)) (ci := 6) (v := .ref q1) (ty := .array .int) (C := RX6) (T := TX6) (N := 14) hx hb hts i_X6 tyX6 tyX6_ok nmX6 hown hK hP hD hS 0 rfl rfl 2 (by decide) k_9 (fun _ h9 => h9) rfl hin2 rfl (by decide +kernel) rfl rfl (Nat.le_of_ble_eq_true rfl) dX6_init_9 (fun H locs hP hD hS => ?_)
  have hP : va_P (dC, dI) vwCl [(h0, .inr (6, [.int (nI 0), .int (nI 0), .ref q1, .null, .null, .null, .null, .null, .null, .null, .null, .null, .null, .null])), (q1, .inl (cI, 30, .inl (fun _ => nI 0)))] H := hP
  have hD : va_D A [(h0, .inr (6, [.int (nI 0), .int (nI 0), .ref q1, .null, .null, .null, .null, .null, .null, .null, .null, .null, .null, .null])), (q1, .inl (cI, 30, .inl (fun _ => nI 0)))] := hD
  refine lv_aload_n hx hb dX6_init_12 rfl (lv_at hl 0 rfl) ?_
  refine lv_bipush (v := nI 30) hx hb dX6_init_13 (by decide) ?_
  refine xr_newa (atype := .int) (a0 := (30, .inl (fun _ => nI 0))) (N' := 30) (ty := .int) hx hb kA_int rfl hK hP hD hS hA1 0 rfl (xdf_int 30) (nI_pos (by decide)) (nI_clamp (by decide)) (by show 30 * 4 ≤ 536870912; decide) (Nat.le_of_ble_eq_true rfl) (Nat.le_of_ble_eq_true rfl) dX6_init_15 (fun q2 H hP hD hS => ?_)
  have hP : va_P (dC, dI) vwCl [(h0, .inr (6, [.int (nI 0), .int (nI 0), .ref q1, .null, .null, .null, .null, .null, .null, .null, .null, .null, .null, .null])), (q1, .inl (cI, 30, .inl (fun _ => nI 0))), (q2, .inl (cI, 30, .inl (fun _ => nI 0)))] H := hP
  have hD : va_D A [(h0, .inr (6, [.int (nI 0), .int (nI 0), .ref q1, .null, .null, .null, .null, .null, .null, .null, .null, .null, .null, .null])), (q1, .inl (cI, 30, .inl (fun _ => nI 0))), (q2, .inl (cI, 30, .inl (fun _ => nI 0)))] := hD
  refine va_putF (D := (dC, dI)) (ci := 6) (v := .ref q2) (ty := .array .int) (C := RX6) (T := TX6) (N := 14) hx hb hts i_X6 tyX6 tyX6_ok nmX6 hown hK hP hD hS 0 rfl rfl 3 (by decide) k_15 (fun _ h9 => h9) rfl hin2 rfl (by decide +kernel) rfl rfl (Nat.le_of_ble_eq_true rfl) dX6_init_17 (fun H locs hP hD hS => ?_)
  have hP : va_P (dC, dI) vwCl [(h0, .inr (6, [.int (nI 0), .int (nI 0), .ref q1, .ref q2, .null, .null, .null, .null, .null, .null, .null, .null, .null, .null])), (q1, .inl (cI, 30, .inl (fun _ => nI 0))), (q2, .inl (cI, 30, .inl (fun _ => nI 0)))] H := hP
  have hD : va_D A [(h0, .inr (6, [.int (nI 0), .int (nI 0), .ref q1, .ref q2, .null, .null, .null, .null, .null, .null, .null, .null, .null, .null])), (q1, .inl (cI, 30, .inl (fun _ => nI 0))), (q2, .inl (cI, 30, .inl (fun _ => nI 0)))] := hD
  refine lv_aload_n hx hb dX6_init_20 rfl (lv_at hl 0 rfl) ?_
  refine lv_bipush (v := nI 30) hx hb dX6_init_21 (by decide) ?_
  refine xr_newa (atype := .int) (a0 := (30, .inl (fun _ => nI 0))) (N' := 30) (ty := .int) hx hb kA_int rfl hK hP hD hS hA1 0 rfl (xdf_int 30) (nI_pos (by decide)) (nI_clamp (by decide)) (by show 30 * 4 ≤ 536870912; decide) (Nat.le_of_ble_eq_true rfl) (Nat.le_of_ble_eq_true rfl) dX6_init_23 (fun q3 H hP hD hS => ?_)
  have hP : va_P (dC, dI) vwCl [(h0, .inr (6, [.int (nI 0), .int (nI 0), .ref q1, .ref q2, .null, .null, .null, .null, .null, .null, .null, .null, .null, .null])), (q1, .inl (cI, 30, .inl (fun _ => nI 0))), (q2, .inl (cI, 30, .inl (fun _ => nI 0))), (q3, .inl (cI, 30, .inl (fun _ => nI 0)))] H := hP
  have hD : va_D A [(h0, .inr (6, [.int (nI 0), .int (nI 0), .ref q1, .ref q2, .null, .null, .null, .null, .null, .null, .null, .null, .null, .null])), (q1, .inl (cI, 30, .inl (fun _ => nI 0))), (q2, .inl (cI, 30, .inl (fun _ => nI 0))), (q3, .inl (cI, 30, .inl (fun _ => nI 0)))] := hD
  refine va_putF (D := (dC, dI)) (ci := 6) (v := .ref q3) (ty := .array .int) (C := RX6) (T := TX6) (N := 14) hx hb hts i_X6 tyX6 tyX6_ok nmX6 hown hK hP hD hS 0 rfl rfl 4 (by decide) k_18 (fun _ h9 => h9) rfl hin2 rfl (by decide +kernel) rfl rfl (Nat.le_of_ble_eq_true rfl) dX6_init_25 (fun H locs hP hD hS => ?_)
  have hP : va_P (dC, dI) vwCl [(h0, .inr (6, [.int (nI 0), .int (nI 0), .ref q1, .ref q2, .ref q3, .null, .null, .null, .null, .null, .null, .null, .null, .null])), (q1, .inl (cI, 30, .inl (fun _ => nI 0))), (q2, .inl (cI, 30, .inl (fun _ => nI 0))), (q3, .inl (cI, 30, .inl (fun _ => nI 0)))] H := hP
  have hD : va_D A [(h0, .inr (6, [.int (nI 0), .int (nI 0), .ref q1, .ref q2, .ref q3, .null, .null, .null, .null, .null, .null, .null, .null, .null])), (q1, .inl (cI, 30, .inl (fun _ => nI 0))), (q2, .inl (cI, 30, .inl (fun _ => nI 0))), (q3, .inl (cI, 30, .inl (fun _ => nI 0)))] := hD
  refine lv_aload_n hx hb dX6_init_28 rfl (lv_at hl 0 rfl) ?_
  refine lv_bipush (v := nI 30) hx hb dX6_init_29 (by decide) ?_
  refine xr_newa (atype := .int) (a0 := (30, .inl (fun _ => nI 0))) (N' := 30) (ty := .int) hx hb kA_int rfl hK hP hD hS hA1 0 rfl (xdf_int 30) (nI_pos (by decide)) (nI_clamp (by decide)) (by show 30 * 4 ≤ 536870912; decide) (Nat.le_of_ble_eq_true rfl) (Nat.le_of_ble_eq_true rfl) dX6_init_31 (fun q4 H hP hD hS => ?_)
  have hP : va_P (dC, dI) vwCl [(h0, .inr (6, [.int (nI 0), .int (nI 0), .ref q1, .ref q2, .ref q3, .null, .null, .null, .null, .null, .null, .null, .null, .null])), (q1, .inl (cI, 30, .inl (fun _ => nI 0))), (q2, .inl (cI, 30, .inl (fun _ => nI 0))), (q3, .inl (cI, 30, .inl (fun _ => nI 0))), (q4, .inl (cI, 30, .inl (fun _ => nI 0)))] H := hP
  have hD : va_D A [(h0, .inr (6, [.int (nI 0), .int (nI 0), .ref q1, .ref q2, .ref q3, .null, .null, .null, .null, .null, .null, .null, .null, .null])), (q1, .inl (cI, 30, .inl (fun _ => nI 0))), (q2, .inl (cI, 30, .inl (fun _ => nI 0))), (q3, .inl (cI, 30, .inl (fun _ => nI 0))), (q4, .inl (cI, 30, .inl (fun _ => nI 0)))] := hD
  refine va_putF (D := (dC, dI)) (ci := 6) (v := .ref q4) (ty := .array .int) (C := RX6) (T := TX6) (N := 14) hx hb hts i_X6 tyX6 tyX6_ok nmX6 hown hK hP hD hS 0 rfl rfl 5 (by decide) k_21 (fun _ h9 => h9) rfl hin2 rfl (by decide +kernel) rfl rfl (Nat.le_of_ble_eq_true rfl) dX6_init_33 (fun H locs hP hD hS => ?_)
  have hP : va_P (dC, dI) vwCl [(h0, .inr (6, [.int (nI 0), .int (nI 0), .ref q1, .ref q2, .ref q3, .ref q4, .null, .null, .null, .null, .null, .null, .null, .null])), (q1, .inl (cI, 30, .inl (fun _ => nI 0))), (q2, .inl (cI, 30, .inl (fun _ => nI 0))), (q3, .inl (cI, 30, .inl (fun _ => nI 0))), (q4, .inl (cI, 30, .inl (fun _ => nI 0)))] H := hP
  have hD : va_D A [(h0, .inr (6, [.int (nI 0), .int (nI 0), .ref q1, .ref q2, .ref q3, .ref q4, .null, .null, .null, .null, .null, .null, .null, .null])), (q1, .inl (cI, 30, .inl (fun _ => nI 0))), (q2, .inl (cI, 30, .inl (fun _ => nI 0))), (q3, .inl (cI, 30, .inl (fun _ => nI 0))), (q4, .inl (cI, 30, .inl (fun _ => nI 0)))] := hD
  refine lv_aload_n hx hb dX6_init_36 rfl (lv_at hl 0 rfl) ?_
  refine lv_bipush (v := nI 30) hx hb dX6_init_37 (by decide) ?_
  refine xr_newa (atype := .int) (a0 := (30, .inl (fun _ => nI 0))) (N' := 30) (ty := .int) hx hb kA_int rfl hK hP hD hS hA1 0 rfl (xdf_int 30) (nI_pos (by decide)) (nI_clamp (by decide)) (by show 30 * 4 ≤ 536870912; decide) (Nat.le_of_ble_eq_true rfl) (Nat.le_of_ble_eq_true rfl) dX6_init_39 (fun q5 H hP hD hS => ?_)
  have hP : va_P (dC, dI) vwCl [(h0, .inr (6, [.int (nI 0), .int (nI 0), .ref q1, .ref q2, .ref q3, .ref q4, .null, .null, .null, .null, .null, .null, .null, .null])), (q1, .inl (cI, 30, .inl (fun _ => nI 0))), (q2, .inl (cI, 30, .inl (fun _ => nI 0))), (q3, .inl (cI, 30, .inl (fun _ => nI 0))), (q4, .inl (cI, 30, .inl (fun _ => nI 0))), (q5, .inl (cI, 30, .inl (fun _ => nI 0)))] H := hP
  have hD : va_D A [(h0, .inr (6, [.int (nI 0), .int (nI 0), .ref q1, .ref q2, .ref q3, .ref q4, .null, .null, .null, .null, .null, .null, .null, .null])), (q1, .inl (cI, 30, .inl (fun _ => nI 0))), (q2, .inl (cI, 30, .inl (fun _ => nI 0))), (q3, .inl (cI, 30, .inl (fun _ => nI 0))), (q4, .inl (cI, 30, .inl (fun _ => nI 0))), (q5, .inl (cI, 30, .inl (fun _ => nI 0)))] := hD
  refine va_putF (D := (dC, dI)) (ci := 6) (v := .ref q5) (ty := .array .int) (C := RX6) (T := TX6) (N := 14) hx hb hts i_X6 tyX6 tyX6_ok nmX6 hown hK hP hD hS 0 rfl rfl 6 (by decide) k_24 (fun _ h9 => h9) rfl hin2 rfl (by decide +kernel) rfl rfl (Nat.le_of_ble_eq_true rfl) dX6_init_41 (fun H locs hP hD hS => ?_)
  have hP : va_P (dC, dI) vwCl [(h0, .inr (6, [.int (nI 0), .int (nI 0), .ref q1, .ref q2, .ref q3, .ref q4, .ref q5, .null, .null, .null, .null, .null, .null, .null])), (q1, .inl (cI, 30, .inl (fun _ => nI 0))), (q2, .inl (cI, 30, .inl (fun _ => nI 0))), (q3, .inl (cI, 30, .inl (fun _ => nI 0))), (q4, .inl (cI, 30, .inl (fun _ => nI 0))), (q5, .inl (cI, 30, .inl (fun _ => nI 0)))] H := hP
  have hD : va_D A [(h0, .inr (6, [.int (nI 0), .int (nI 0), .ref q1, .ref q2, .ref q3, .ref q4, .ref q5, .null, .null, .null, .null, .null, .null, .null])), (q1, .inl (cI, 30, .inl (fun _ => nI 0))), (q2, .inl (cI, 30, .inl (fun _ => nI 0))), (q3, .inl (cI, 30, .inl (fun _ => nI 0))), (q4, .inl (cI, 30, .inl (fun _ => nI 0))), (q5, .inl (cI, 30, .inl (fun _ => nI 0)))] := hD
  refine lv_aload_n hx hb dX6_init_44 rfl (lv_at hl 0 rfl) ?_
  refine lv_bipush (v := nI 30) hx hb dX6_init_45 (by decide) ?_
  refine xr_newa (atype := .int) (a0 := (30, .inl (fun _ => nI 0))) (N' := 30) (ty := .int) hx hb kA_int rfl hK hP hD hS hA1 0 rfl (xdf_int 30) (nI_pos (by decide)) (nI_clamp (by decide)) (by show 30 * 4 ≤ 536870912; decide) (Nat.le_of_ble_eq_true rfl) (Nat.le_of_ble_eq_true rfl) dX6_init_47 (fun q6 H hP hD hS => ?_)
  have hP : va_P (dC, dI) vwCl [(h0, .inr (6, [.int (nI 0), .int (nI 0), .ref q1, .ref q2, .ref q3, .ref q4, .ref q5, .null, .null, .null, .null, .null, .null, .null])), (q1, .inl (cI, 30, .inl (fun _ => nI 0))), (q2, .inl (cI, 30, .inl (fun _ => nI 0))), (q3, .inl (cI, 30, .inl (fun _ => nI 0))), (q4, .inl (cI, 30, .inl (fun _ => nI 0))), (q5, .inl (cI, 30, .inl (fun _ => nI 0))), (q6, .inl (cI, 30, .inl (fun _ => nI 0)))] H := hP
  have hD : va_D A [(h0, .inr (6, [.int (nI 0), .int (nI 0), .ref q1, .ref q2, .ref q3, .ref q4, .ref q5, .null, .null, .null, .null, .null, .null, .null])), (q1, .inl (cI, 30, .inl (fun _ => nI 0))), (q2, .inl (cI, 30, .inl (fun _ => nI 0))), (q3, .inl (cI, 30, .inl (fun _ => nI 0))), (q4, .inl (cI, 30, .inl (fun _ => nI 0))), (q5, .inl (cI, 30, .inl (fun _ => nI 0))), (q6, .inl (cI, 30, .inl (fun _ => nI 0)))] := hD
  refine va_putF (D := (dC, dI)) (ci := 6) (v := .ref q6) (ty := .array .int) (C := RX6) (T := TX6) (N := 14) hx hb hts i_X6 tyX6 tyX6_ok nmX6 hown hK hP hD hS 0 rfl rfl 7 (by decide) k_27 (fun _ h9 => h9) rfl hin2 rfl (by decide +kernel) rfl rfl (Nat.le_of_ble_eq_true rfl) dX6_init_49 (fun H locs hP hD hS => ?_)
  have hP : va_P (dC, dI) vwCl [(h0, .inr (6, [.int (nI 0), .int (nI 0), .ref q1, .ref q2, .ref q3, .ref q4, .ref q5, .ref q6, .null, .null, .null, .null, .null, .null])), (q1, .inl (cI, 30, .inl (fun _ => nI 0))), (q2, .inl (cI, 30, .inl (fun _ => nI 0))), (q3, .inl (cI, 30, .inl (fun _ => nI 0))), (q4, .inl (cI, 30, .inl (fun _ => nI 0))), (q5, .inl (cI, 30, .inl (fun _ => nI 0))), (q6, .inl (cI, 30, .inl (fun _ => nI 0)))] H := hP
  have hD : va_D A [(h0, .inr (6, [.int (nI 0), .int (nI 0), .ref q1, .ref q2, .ref q3, .ref q4, .ref q5, .ref q6, .null, .null, .null, .null, .null, .null])), (q1, .inl (cI, 30, .inl (fun _ => nI 0))), (q2, .inl (cI, 30, .inl (fun _ => nI 0))), (q3, .inl (cI, 30, .inl (fun _ => nI 0))), (q4, .inl (cI, 30, .inl (fun _ => nI 0))), (q5, .inl (cI, 30, .inl (fun _ => nI 0))), (q6, .inl (cI, 30, .inl (fun _ => nI 0)))] := hD
  refine lv_aload_n hx hb dX6_init_52 rfl (lv_at hl 0 rfl) ?_
  refine lv_bipush (v := nI 30) hx hb dX6_init_53 (by decide) ?_
  refine xr_newa (atype := .int) (a0 := (30, .inl (fun _ => nI 0))) (N' := 30) (ty := .int) hx hb kA_int rfl hK hP hD hS hA1 0 rfl (xdf_int 30) (nI_pos (by decide)) (nI_clamp (by decide)) (by show 30 * 4 ≤ 536870912; decide) (Nat.le_of_ble_eq_true rfl) (Nat.le_of_ble_eq_true rfl) dX6_init_55 (fun q7 H hP hD hS => ?_)
  have hP : va_P (dC, dI) vwCl [(h0, .inr (6, [.int (nI 0), .int (nI 0), .ref q1, .ref q2, .ref q3, .ref q4, .ref q5, .ref q6, .null, .null, .null, .null, .null, .null])), (q1, .inl (cI, 30, .inl (fun _ => nI 0))), (q2, .inl (cI, 30, .inl (fun _ => nI 0))), (q3, .inl (cI, 30, .inl (fun _ => nI 0))), (q4, .inl (cI, 30, .inl (fun _ => nI 0))), (q5, .inl (cI, 30, .inl (fun _ => nI 0))), (q6, .inl (cI, 30, .inl (fun _ => nI 0))), (q7, .inl (cI, 30, .inl (fun _ => nI 0)))] H := hP
  have hD : va_D A [(h0, .inr (6, [.int (nI 0), .int (nI 0), .ref q1, .ref q2, .ref q3, .ref q4, .ref q5, .ref q6, .null, .null, .null, .null, .null, .null])), (q1, .inl (cI, 30, .inl (fun _ => nI 0))), (q2, .inl (cI, 30, .inl (fun _ => nI 0))), (q3, .inl (cI, 30, .inl (fun _ => nI 0))), (q4, .inl (cI, 30, .inl (fun _ => nI 0))), (q5, .inl (cI, 30, .inl (fun _ => nI 0))), (q6, .inl (cI, 30, .inl (fun _ => nI 0))), (q7, .inl (cI, 30, .inl (fun _ => nI 0)))] := hD
  refine va_putF (D := (dC, dI)) (ci := 6) (v := .ref q7) (ty := .array .int) (C := RX6) (T := TX6) (N := 14) hx hb hts i_X6 tyX6 tyX6_ok nmX6 hown hK hP hD hS 0 rfl rfl 8 (by decide) k_30 (fun _ h9 => h9) rfl hin2 rfl (by decide +kernel) rfl rfl (Nat.le_of_ble_eq_true rfl) dX6_init_57 (fun H locs hP hD hS => ?_)
  have hP : va_P (dC, dI) vwCl [(h0, .inr (6, [.int (nI 0), .int (nI 0), .ref q1, .ref q2, .ref q3, .ref q4, .ref q5, .ref q6, .ref q7, .null, .null, .null, .null, .null])), (q1, .inl (cI, 30, .inl (fun _ => nI 0))), (q2, .inl (cI, 30, .inl (fun _ => nI 0))), (q3, .inl (cI, 30, .inl (fun _ => nI 0))), (q4, .inl (cI, 30, .inl (fun _ => nI 0))), (q5, .inl (cI, 30, .inl (fun _ => nI 0))), (q6, .inl (cI, 30, .inl (fun _ => nI 0))), (q7, .inl (cI, 30, .inl (fun _ => nI 0)))] H := hP
  have hD : va_D A [(h0, .inr (6, [.int (nI 0), .int (nI 0), .ref q1, .ref q2, .ref q3, .ref q4, .ref q5, .ref q6, .ref q7, .null, .null, .null, .null, .null])), (q1, .inl (cI, 30, .inl (fun _ => nI 0))), (q2, .inl (cI, 30, .inl (fun _ => nI 0))), (q3, .inl (cI, 30, .inl (fun _ => nI 0))), (q4, .inl (cI, 30, .inl (fun _ => nI 0))), (q5, .inl (cI, 30, .inl (fun _ => nI 0))), (q6, .inl (cI, 30, .inl (fun _ => nI 0))), (q7, .inl (cI, 30, .inl (fun _ => nI 0)))] := hD
  refine lv_aload_n hx hb dX6_init_60 rfl (lv_at hl 0 rfl) ?_
  refine lv_bipush (v := nI 30) hx hb dX6_init_61 (by decide) ?_
  refine xr_newa (atype := .int) (a0 := (30, .inl (fun _ => nI 0))) (N' := 30) (ty := .int) hx hb kA_int rfl hK hP hD hS hA1 0 rfl (xdf_int 30) (nI_pos (by decide)) (nI_clamp (by decide)) (by show 30 * 4 ≤ 536870912; decide) (Nat.le_of_ble_eq_true rfl) (Nat.le_of_ble_eq_true rfl) dX6_init_63 (fun q8 H hP hD hS => ?_)
  have hP : va_P (dC, dI) vwCl [(h0, .inr (6, [.int (nI 0), .int (nI 0), .ref q1, .ref q2, .ref q3, .ref q4, .ref q5, .ref q6, .ref q7, .null, .null, .null, .null, .null])), (q1, .inl (cI, 30, .inl (fun _ => nI 0))), (q2, .inl (cI, 30, .inl (fun _ => nI 0))), (q3, .inl (cI, 30, .inl (fun _ => nI 0))), (q4, .inl (cI, 30, .inl (fun _ => nI 0))), (q5, .inl (cI, 30, .inl (fun _ => nI 0))), (q6, .inl (cI, 30, .inl (fun _ => nI 0))), (q7, .inl (cI, 30, .inl (fun _ => nI 0))), (q8, .inl (cI, 30, .inl (fun _ => nI 0)))] H := hP
  have hD : va_D A [(h0, .inr (6, [.int (nI 0), .int (nI 0), .ref q1, .ref q2, .ref q3, .ref q4, .ref q5, .ref q6, .ref q7, .null, .null, .null, .null, .null])), (q1, .inl (cI, 30, .inl (fun _ => nI 0))), (q2, .inl (cI, 30, .inl (fun _ => nI 0))), (q3, .inl (cI, 30, .inl (fun _ => nI 0))), (q4, .inl (cI, 30, .inl (fun _ => nI 0))), (q5, .inl (cI, 30, .inl (fun _ => nI 0))), (q6, .inl (cI, 30, .inl (fun _ => nI 0))), (q7, .inl (cI, 30, .inl (fun _ => nI 0))), (q8, .inl (cI, 30, .inl (fun _ => nI 0)))] := hD
  refine va_putF (D := (dC, dI)) (ci := 6) (v := .ref q8) (ty := .array .int) (C := RX6) (T := TX6) (N := 14) hx hb hts i_X6 tyX6 tyX6_ok nmX6 hown hK hP hD hS 0 rfl rfl 9 (by decide) k_33 (fun _ h9 => h9) rfl hin2 rfl (by decide +kernel) rfl rfl (Nat.le_of_ble_eq_true rfl) dX6_init_65 (fun H locs hP hD hS => ?_)
  have hP : va_P (dC, dI) vwCl [(h0, .inr (6, [.int (nI 0), .int (nI 0), .ref q1, .ref q2, .ref q3, .ref q4, .ref q5, .ref q6, .ref q7, .ref q8, .null, .null, .null, .null])), (q1, .inl (cI, 30, .inl (fun _ => nI 0))), (q2, .inl (cI, 30, .inl (fun _ => nI 0))), (q3, .inl (cI, 30, .inl (fun _ => nI 0))), (q4, .inl (cI, 30, .inl (fun _ => nI 0))), (q5, .inl (cI, 30, .inl (fun _ => nI 0))), (q6, .inl (cI, 30, .inl (fun _ => nI 0))), (q7, .inl (cI, 30, .inl (fun _ => nI 0))), (q8, .inl (cI, 30, .inl (fun _ => nI 0)))] H := hP
  have hD : va_D A [(h0, .inr (6, [.int (nI 0), .int (nI 0), .ref q1, .ref q2, .ref q3, .ref q4, .ref q5, .ref q6, .ref q7, .ref q8, .null, .null, .null, .null])), (q1, .inl (cI, 30, .inl (fun _ => nI 0))), (q2, .inl (cI, 30, .inl (fun _ => nI 0))), (q3, .inl (cI, 30, .inl (fun _ => nI 0))), (q4, .inl (cI, 30, .inl (fun _ => nI 0))), (q5, .inl (cI, 30, .inl (fun _ => nI 0))), (q6, .inl (cI, 30, .inl (fun _ => nI 0))), (q7, .inl (cI, 30, .inl (fun _ => nI 0))), (q8, .inl (cI, 30, .inl (fun _ => nI 0)))] := hD
  refine lv_aload_n hx hb dX6_init_68 rfl (lv_at hl 0 rfl) ?_
  refine lv_bipush (v := nI 30) hx hb dX6_init_69 (by decide) ?_
  refine xr_newa (atype := .int) (a0 := (30, .inl (fun _ => nI 0))) (N' := 30) (ty := .int) hx hb kA_int rfl hK hP hD hS hA1 0 rfl (xdf_int 30) (nI_pos (by decide)) (nI_clamp (by decide)) (by show 30 * 4 ≤ 536870912; decide) (Nat.le_of_ble_eq_true rfl) (Nat.le_of_ble_eq_true rfl) dX6_init_71 (fun q9 H hP hD hS => ?_)
  have hP : va_P (dC, dI) vwCl [(h0, .inr (6, [.int (nI 0), .int (nI 0), .ref q1, .ref q2, .ref q3, .ref q4, .ref q5, .ref q6, .ref q7, .ref q8, .null, .null, .null, .null])), (q1, .inl (cI, 30, .inl (fun _ => nI 0))), (q2, .inl (cI, 30, .inl (fun _ => nI 0))), (q3, .inl (cI, 30, .inl (fun _ => nI 0))), (q4, .inl (cI, 30, .inl (fun _ => nI 0))), (q5, .inl (cI, 30, .inl (fun _ => nI 0))), (q6, .inl (cI, 30, .inl (fun _ => nI 0))), (q7, .inl (cI, 30, .inl (fun _ => nI 0))), (q8, .inl (cI, 30, .inl (fun _ => nI 0))), (q9, .inl (cI, 30, .inl (fun _ => nI 0)))] H := hP
  have hD : va_D A [(h0, .inr (6, [.int (nI 0), .int (nI 0), .ref q1, .ref q2, .ref q3, .ref q4, .ref q5, .ref q6, .ref q7, .ref q8, .null, .null, .null, .null])), (q1, .inl (cI, 30, .inl (fun _ => nI 0))), (q2, .inl (cI, 30, .inl (fun _ => nI 0))), (q3, .inl (cI, 30, .inl (fun _ => nI 0))), (q4, .inl (cI, 30, .inl (fun _ => nI 0))), (q5, .inl (cI, 30, .inl (fun _ => nI 0))), (q6, .inl (cI, 30, .inl (fun _ => nI 0))), (q7, .inl (cI, 30, .inl (fun _ => nI 0))), (q8, .inl (cI, 30, .inl (fun _ => nI 0))), (q9, .inl (cI, 30, .inl (fun _ => nI 0)))] := hD
  refine va_putF (D := (dC, dI)) (ci := 6) (v := .ref q9) (ty := .array .int) (C := RX6) (T := TX6) (N := 14) hx hb hts i_X6 tyX6 tyX6_ok nmX6 hown hK hP hD hS 0 rfl rfl 10 (by decide) k_36 (fun _ h9 => h9) rfl hin2 rfl (by decide +kernel) rfl rfl (Nat.le_of_ble_eq_true rfl) dX6_init_73 (fun H locs hP hD hS => ?_)
  have hP : va_P (dC, dI) vwCl [(h0, .inr (6, [.int (nI 0), .int (nI 0), .ref q1, .ref q2, .ref q3, .ref q4, .ref q5, .ref q6, .ref q7, .ref q8, .ref q9, .null, .null, .null])), (q1, .inl (cI, 30, .inl (fun _ => nI 0))), (q2, .inl (cI, 30, .inl (fun _ => nI 0))), (q3, .inl (cI, 30, .inl (fun _ => nI 0))), (q4, .inl (cI, 30, .inl (fun _ => nI 0))), (q5, .inl (cI, 30, .inl (fun _ => nI 0))), (q6, .inl (cI, 30, .inl (fun _ => nI 0))), (q7, .inl (cI, 30, .inl (fun _ => nI 0))), (q8, .inl (cI, 30, .inl (fun _ => nI 0))), (q9, .inl (cI, 30, .inl (fun _ => nI 0)))] H := hP
  have hD : va_D A [(h0, .inr (6, [.int (nI 0), .int (nI 0), .ref q1, .ref q2, .ref q3, .ref q4, .ref q5, .ref q6, .ref q7, .ref q8, .ref q9, .null, .null, .null])), (q1, .inl (cI, 30, .inl (fun _ => nI 0))), (q2, .inl (cI, 30, .inl (fun _ => nI 0))), (q3, .inl (cI, 30, .inl (fun _ => nI 0))), (q4, .inl (cI, 30, .inl (fun _ => nI 0))), (q5, .inl (cI, 30, .inl (fun _ => nI 0))), (q6, .inl (cI, 30, .inl (fun _ => nI 0))), (q7, .inl (cI, 30, .inl (fun _ => nI 0))), (q8, .inl (cI, 30, .inl (fun _ => nI 0))), (q9, .inl (cI, 30, .inl (fun _ => nI 0)))] := hD
  refine lv_aload_n hx hb dX6_init_76 rfl (lv_at hl 0 rfl) ?_
  refine lv_bipush (v := nI 30) hx hb dX6_init_77 (by decide) ?_
  refine xr_newa (atype := .int) (a0 := (30, .inl (fun _ => nI 0))) (N' := 30) (ty := .int) hx hb kA_int rfl hK hP hD hS hA1 0 rfl (xdf_int 30) (nI_pos (by decide)) (nI_clamp (by decide)) (by show 30 * 4 ≤ 536870912; decide) (Nat.le_of_ble_eq_true rfl) (Nat.le_of_ble_eq_true rfl) dX6_init_79 (fun q10 H hP hD hS => ?_)
  have hP : va_P (dC, dI) vwCl [(h0, .inr (6, [.int (nI 0), .int (nI 0), .ref q1, .ref q2, .ref q3, .ref q4, .ref q5, .ref q6, .ref q7, .ref q8, .ref q9, .null, .null, .null])), (q1, .inl (cI, 30, .inl (fun _ => nI 0))), (q2, .inl (cI, 30, .inl (fun _ => nI 0))), (q3, .inl (cI, 30, .inl (fun _ => nI 0))), (q4, .inl (cI, 30, .inl (fun _ => nI 0))), (q5, .inl (cI, 30, .inl (fun _ => nI 0))), (q6, .inl (cI, 30, .inl (fun _ => nI 0))), (q7, .inl (cI, 30, .inl (fun _ => nI 0))), (q8, .inl (cI, 30, .inl (fun _ => nI 0))), (q9, .inl (cI, 30, .inl (fun _ => nI 0))), (q10, .inl (cI, 30, .inl (fun _ => nI 0)))] H := hP
  have hD : va_D A [(h0, .inr (6, [.int (nI 0), .int (nI 0), .ref q1, .ref q2, .ref q3, .ref q4, .ref q5, .ref q6, .ref q7, .ref q8, .ref q9, .null, .null, .null])), (q1, .inl (cI, 30, .inl (fun _ => nI 0))), (q2, .inl (cI, 30, .inl (fun _ => nI 0))), (q3, .inl (cI, 30, .inl (fun _ => nI 0))), (q4, .inl (cI, 30, .inl (fun _ => nI 0))), (q5, .inl (cI, 30, .inl (fun _ => nI 0))), (q6, .inl (cI, 30, .inl (fun _ => nI 0))), (q7, .inl (cI, 30, .inl (fun _ => nI 0))), (q8, .inl (cI, 30, .inl (fun _ => nI 0))), (q9, .inl (cI, 30, .inl (fun _ => nI 0))), (q10, .inl (cI, 30, .inl (fun _ => nI 0)))] := hD
  refine va_putF (D := (dC, dI)) (ci := 6) (v := .ref q10) (ty := .array .int) (C := RX6) (T := TX6) (N := 14) hx hb hts i_X6 tyX6 tyX6_ok nmX6 hown hK hP hD hS 0 rfl rfl 11 (by decide) k_39 (fun _ h9 => h9) rfl hin2 rfl (by decide +kernel) rfl rfl (Nat.le_of_ble_eq_true rfl) dX6_init_81 (fun H locs hP hD hS => ?_)
  have hP : va_P (dC, dI) vwCl [(h0, .inr (6, [.int (nI 0), .int (nI 0), .ref q1, .ref q2, .ref q3, .ref q4, .ref q5, .ref q6, .ref q7, .ref q8, .ref q9, .ref q10, .null, .null])), (q1, .inl (cI, 30, .inl (fun _ => nI 0))), (q2, .inl (cI, 30, .inl (fun _ => nI 0))), (q3, .inl (cI, 30, .inl (fun _ => nI 0))), (q4, .inl (cI, 30, .inl (fun _ => nI 0))), (q5, .inl (cI, 30, .inl (fun _ => nI 0))), (q6, .inl (cI, 30, .inl (fun _ => nI 0))), (q7, .inl (cI, 30, .inl (fun _ => nI 0))), (q8, .inl (cI, 30, .inl (fun _ => nI 0))), (q9, .inl (cI, 30, .inl (fun _ => nI 0))), (q10, .inl (cI, 30, .inl (fun _ => nI 0)))] H := hP
  have hD : va_D A [(h0, .inr (6, [.int (nI 0), .int (nI 0), .ref q1, .ref q2, .ref q3, .ref q4, .ref q5, .ref q6, .ref q7, .ref q8, .ref q9, .ref q10, .null, .null])), (q1, .inl (cI, 30, .inl (fun _ => nI 0))), (q2, .inl (cI, 30, .inl (fun _ => nI 0))), (q3, .inl (cI, 30, .inl (fun _ => nI 0))), (q4, .inl (cI, 30, .inl (fun _ => nI 0))), (q5, .inl (cI, 30, .inl (fun _ => nI 0))), (q6, .inl (cI, 30, .inl (fun _ => nI 0))), (q7, .inl (cI, 30, .inl (fun _ => nI 0))), (q8, .inl (cI, 30, .inl (fun _ => nI 0))), (q9, .inl (cI, 30, .inl (fun _ => nI 0))), (q10, .inl (cI, 30, .inl (fun _ => nI 0)))] := hD
  refine lv_aload_n hx hb dX6_init_84 rfl (lv_at hl 0 rfl) ?_
  refine lv_bipush (v := nI 70) hx hb dX6_init_85 (by decide) ?_
  refine xr_newa (atype := .int) (a0 := (70, .inl (fun _ => nI 0))) (N' := 70) (ty := .int) hx hb kA_int rfl hK hP hD hS hA1 0 rfl (xdf_int 70) (nI_pos (by decide)) (nI_clamp (by decide)) (by show 70 * 4 ≤ 536870912; decide) (Nat.le_of_ble_eq_true rfl) (Nat.le_of_ble_eq_true rfl) dX6_init_87 (fun q11 H hP hD hS => ?_)
  have hP : va_P (dC, dI) vwCl [(h0, .inr (6, [.int (nI 0), .int (nI 0), .ref q1, .ref q2, .ref q3, .ref q4, .ref q5, .ref q6, .ref q7, .ref q8, .ref q9, .ref q10, .null, .null])), (q1, .inl (cI, 30, .inl (fun _ => nI 0))), (q2, .inl (cI, 30, .inl (fun _ => nI 0))), (q3, .inl (cI, 30, .inl (fun _ => nI 0))), (q4, .inl (cI, 30, .inl (fun _ => nI 0))), (q5, .inl (cI, 30, .inl (fun _ => nI 0))), (q6, .inl (cI, 30, .inl (fun _ => nI 0))), (q7, .inl (cI, 30, .inl (fun _ => nI 0))), (q8, .inl (cI, 30, .inl (fun _ => nI 0))), (q9, .inl (cI, 30, .inl (fun _ => nI 0))), (q10, .inl (cI, 30, .inl (fun _ => nI 0))), (q11, .inl (cI, 70, .inl (fun _ => nI 0)))] H := hP
  have hD : va_D A [(h0, .inr (6, [.int (nI 0), .int (nI 0), .ref q1, .ref q2, .ref q3, .ref q4, .ref q5, .ref q6, .ref q7, .ref q8, .ref q9, .ref q10, .null, .null])), (q1, .inl (cI, 30, .inl (fun _ => nI 0))), (q2, .inl (cI, 30, .inl (fun _ => nI 0))), (q3, .inl (cI, 30, .inl (fun _ => nI 0))), (q4, .inl (cI, 30, .inl (fun _ => nI 0))), (q5, .inl (cI, 30, .inl (fun _ => nI 0))), (q6, .inl (cI, 30, .inl (fun _ => nI 0))), (q7, .inl (cI, 30, .inl (fun _ => nI 0))), (q8, .inl (cI, 30, .inl (fun _ => nI 0))), (q9, .inl (cI, 30, .inl (fun _ => nI 0))), (q10, .inl (cI, 30, .inl (fun _ => nI 0))), (q11, .inl (cI, 70, .inl (fun _ => nI 0)))] := hD
  refine va_putF (D := (dC, dI)) (ci := 6) (v := .ref q11) (ty := .array .int) (C := RX6) (T := TX6) (N := 14) hx hb hts i_X6 tyX6 tyX6_ok nmX6 hown hK hP hD hS 0 rfl rfl 12 (by decide) k_42 (fun _ h9 => h9) rfl hin2 rfl (by decide +kernel) rfl rfl (Nat.le_of_ble_eq_true rfl) dX6_init_89 (fun H locs hP hD hS => ?_)
  have hP : va_P (dC, dI) vwCl [(h0, .inr (6, [.int (nI 0), .int (nI 0), .ref q1, .ref q2, .ref q3, .ref q4, .ref q5, .ref q6, .ref q7, .ref q8, .ref q9, .ref q10, .ref q11, .null])), (q1, .inl (cI, 30, .inl (fun _ => nI 0))), (q2, .inl (cI, 30, .inl (fun _ => nI 0))), (q3, .inl (cI, 30, .inl (fun _ => nI 0))), (q4, .inl (cI, 30, .inl (fun _ => nI 0))), (q5, .inl (cI, 30, .inl (fun _ => nI 0))), (q6, .inl (cI, 30, .inl (fun _ => nI 0))), (q7, .inl (cI, 30, .inl (fun _ => nI 0))), (q8, .inl (cI, 30, .inl (fun _ => nI 0))), (q9, .inl (cI, 30, .inl (fun _ => nI 0))), (q10, .inl (cI, 30, .inl (fun _ => nI 0))), (q11, .inl (cI, 70, .inl (fun _ => nI 0)))] H := hP
  have hD : va_D A [(h0, .inr (6, [.int (nI 0), .int (nI 0), .ref q1, .ref q2, .ref q3, .ref q4, .ref q5, .ref q6, .ref q7, .ref q8, .ref q9, .ref q10, .ref q11, .null])), (q1, .inl (cI, 30, .inl (fun _ => nI 0))), (q2, .inl (cI, 30, .inl (fun _ => nI 0))), (q3, .inl (cI, 30, .inl (fun _ => nI 0))), (q4, .inl (cI, 30, .inl (fun _ => nI 0))), (q5, .inl (cI, 30, .inl (fun _ => nI 0))), (q6, .inl (cI, 30, .inl (fun _ => nI 0))), (q7, .inl (cI, 30, .inl (fun _ => nI 0))), (q8, .inl (cI, 30, .inl (fun _ => nI 0))), (q9, .inl (cI, 30, .inl (fun _ => nI 0))), (q10, .inl (cI, 30, .inl (fun _ => nI 0))), (q11, .inl (cI, 70, .inl (fun _ => nI 0)))] := hD
  refine lv_aload_n hx hb dX6_init_92 rfl (lv_at hl 0 rfl) ?_
  refine lv_bipush (v := nI 70) hx hb dX6_init_93 (by decide) ?_
  refine xr_newa (atype := .int) (a0 := (70, .inl (fun _ => nI 0))) (N' := 70) (ty := .int) hx hb kA_int rfl hK hP hD hS hA1 0 rfl (xdf_int 70) (nI_pos (by decide)) (nI_clamp (by decide)) (by show 70 * 4 ≤ 536870912; decide) (Nat.le_of_ble_eq_true rfl) (Nat.le_of_ble_eq_true rfl) dX6_init_95 (fun q12 H hP hD hS => ?_)
  have hP : va_P (dC, dI) vwCl [(h0, .inr (6, [.int (nI 0), .int (nI 0), .ref q1, .ref q2, .ref q3, .ref q4, .ref q5, .ref q6, .ref q7, .ref q8, .ref q9, .ref q10, .ref q11, .null])), (q1, .inl (cI, 30, .inl (fun _ => nI 0))), (q2, .inl (cI, 30, .inl (fun _ => nI 0))), (q3, .inl (cI, 30, .inl (fun _ => nI 0))), (q4, .inl (cI, 30, .inl (fun _ => nI 0))), (q5, .inl (cI, 30, .inl (fun _ => nI 0))), (q6, .inl (cI, 30, .inl (fun _ => nI 0))), (q7, .inl (cI, 30, .inl (fun _ => nI 0))), (q8, .inl (cI, 30, .inl (fun _ => nI 0))), (q9, .inl (cI, 30, .inl (fun _ => nI 0))), (q10, .inl (cI, 30, .inl (fun _ => nI 0))), (q11, .inl (cI, 70, .inl (fun _ => nI 0))), (q12, .inl (cI, 70, .inl (fun _ => nI 0)))] H := hP
  have hD : va_D A [(h0, .inr (6, [.int (nI 0), .int (nI 0), .ref q1, .ref q2, .ref q3, .ref q4, .ref q5, .ref q6, .ref q7, .ref q8, .ref q9, .ref q10, .ref q11, .null])), (q1, .inl (cI, 30, .inl (fun _ => nI 0))), (q2, .inl (cI, 30, .inl (fun _ => nI 0))), (q3, .inl (cI, 30, .inl (fun _ => nI 0))), (q4, .inl (cI, 30, .inl (fun _ => nI 0))), (q5, .inl (cI, 30, .inl (fun _ => nI 0))), (q6, .inl (cI, 30, .inl (fun _ => nI 0))), (q7, .inl (cI, 30, .inl (fun _ => nI 0))), (q8, .inl (cI, 30, .inl (fun _ => nI 0))), (q9, .inl (cI, 30, .inl (fun _ => nI 0))), (q10, .inl (cI, 30, .inl (fun _ => nI 0))), (q11, .inl (cI, 70, .inl (fun _ => nI 0))), (q12, .inl (cI, 70, .inl (fun _ => nI 0)))] := hD
  refine va_putF (D := (dC, dI)) (ci := 6) (v := .ref q12) (ty := .array .int) (C := RX6) (T := TX6) (N := 14) hx hb hts i_X6 tyX6 tyX6_ok nmX6 hown hK hP hD hS 0 rfl rfl 13 (by decide) k_45 (fun _ h9 => h9) rfl hin2 rfl (by decide +kernel) rfl rfl (Nat.le_of_ble_eq_true rfl) dX6_init_97 (fun H locs hP hD hS => ?_)
  have hP : va_P (dC, dI) vwCl [(h0, .inr (6, [.int (nI 0), .int (nI 0), .ref q1, .ref q2, .ref q3, .ref q4, .ref q5, .ref q6, .ref q7, .ref q8, .ref q9, .ref q10, .ref q11, .ref q12])), (q1, .inl (cI, 30, .inl (fun _ => nI 0))), (q2, .inl (cI, 30, .inl (fun _ => nI 0))), (q3, .inl (cI, 30, .inl (fun _ => nI 0))), (q4, .inl (cI, 30, .inl (fun _ => nI 0))), (q5, .inl (cI, 30, .inl (fun _ => nI 0))), (q6, .inl (cI, 30, .inl (fun _ => nI 0))), (q7, .inl (cI, 30, .inl (fun _ => nI 0))), (q8, .inl (cI, 30, .inl (fun _ => nI 0))), (q9, .inl (cI, 30, .inl (fun _ => nI 0))), (q10, .inl (cI, 30, .inl (fun _ => nI 0))), (q11, .inl (cI, 70, .inl (fun _ => nI 0))), (q12, .inl (cI, 70, .inl (fun _ => nI 0)))] H := hP
  have hD : va_D A [(h0, .inr (6, [.int (nI 0), .int (nI 0), .ref q1, .ref q2, .ref q3, .ref q4, .ref q5, .ref q6, .ref q7, .ref q8, .ref q9, .ref q10, .ref q11, .ref q12])), (q1, .inl (cI, 30, .inl (fun _ => nI 0))), (q2, .inl (cI, 30, .inl (fun _ => nI 0))), (q3, .inl (cI, 30, .inl (fun _ => nI 0))), (q4, .inl (cI, 30, .inl (fun _ => nI 0))), (q5, .inl (cI, 30, .inl (fun _ => nI 0))), (q6, .inl (cI, 30, .inl (fun _ => nI 0))), (q7, .inl (cI, 30, .inl (fun _ => nI 0))), (q8, .inl (cI, 30, .inl (fun _ => nI 0))), (q9, .inl (cI, 30, .inl (fun _ => nI 0))), (q10, .inl (cI, 30, .inl (fun _ => nI 0))), (q11, .inl (cI, 70, .inl (fun _ => nI 0))), (q12, .inl (cI, 70, .inl (fun _ => nI 0)))] := hD
  refine xr_old (wc := [(h0, .inr (6, [.int (nI 0), .int (nI 0), .null, .null, .null, .null, .null, .null, .null, .null, .null, .null, .null, .null]))]) (by rw [← hA]; exact hS) (fun locs1 hl1 => ?_)
  exact W.vret hx hb hr (fun t ht hW => ⟨⟨_, rfl, ⟨q1, q2, q3, q4, q5, q6, q7, q8, q9, q10, q11, q12, rfl⟩, by rw [ht]; exact hP, by rw [← hA]; exact hD⟩, xS_fr (by rw [← hA]; exact hS) ht⟩) hl1 dX6_init_100
