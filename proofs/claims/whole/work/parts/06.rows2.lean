theorem hdV_X0_copyFrom : yX0_copyFrom.cls = RX0 ∧ yX0_copyFrom.cls ≠ "java/lang/invoke/MethodHandle" ∧ yX0_copyFrom.cls ≠ "java/lang/invoke/VarHandle" ∧ (parseMethodDescriptor yX0_copyFrom.desc).map (fun d => d.parameters.length) = some 1 := by decide +kernel
set_option maxHeartbeats 4000000 in
set_option maxRecDepth 100000 in
theorem c_X0_copyFrom (l : Launch) (dC : Nat → ClassId) (dI : Nat → Nat → Nat) (cI cF cC cZ cQ cS : ClassId) (n : Int32) (n9 : Int32) (h0 : Nat) (x0 : Nat) (x1 : Nat) (x2 : Nat) (x3 : Nat) (x4 : Nat) (x5 : Nat) (x6 : Nat) (xw : Nat) (good : Nat → Int32) (came : Nat → Int32) (left : Nat → Int32) (shelf : Nat → Int32) (sold : Nat → Int32) (given : Nat → Int32) (cents : Nat → Int32) (xw0 : Nat) (wa : Nat → Int32) (xw1 : Nat) (wb : Nat → Int32) (xw2 : Nat) (wc : Nat → Int32) (o0 : Nat) (y0 : Nat) (y1 : Nat) (y2 : Nat) (y3 : Nat) (y4 : Nat) (y5 : Nat) (y6 : Nat) (yw : Nat) (good9 : Nat → Int32) (came9 : Nat → Int32) (left9 : Nat → Int32) (shelf9 : Nat → Int32) (sold9 : Nat → Int32) (given9 : Nat → Int32) (cents9 : Nat → Int32) (yw0 : Nat) (wa9 : Nat → Int32) (yw1 : Nat) (wb9 : Nat → Int32) (yw2 : Nat) (wc9 : Nat → Int32) : Met l yX0_copyFrom wsX0_copyFrom ({ frames := 2, cells := 0, slots := 0, locals := 61 }) (xPre (dC, dI) vwCl [.ref h0, .ref o0] (xtys cI cF cC cZ cQ cS) [(h0, .inr (0, [.int n, .ref x0, .ref x1, .ref x2, .ref x3, .ref x4, .ref x5, .ref x6, .ref xw])), (x0, .inl (cI, 40, .inl good)), (x1, .inl (cI, 40, .inl came)), (x2, .inl (cI, 40, .inl left)), (x3, .inl (cI, 40, .inl shelf)), (x4, .inl (cI, 40, .inl sold)), (x5, .inl (cI, 40, .inl given)), (x6, .inl (cI, 40, .inl cents)), (xw, .inl (cQ, 3, .inr (.inr (.inr (.inr (xrow [xw0, xw1, xw2])))))), (xw0, .inl (cI, 40, .inl wa)), (xw1, .inl (cI, 40, .inl wb)), (xw2, .inl (cI, 40, .inl wc)), (o0, .inr (0, [.int n9, .ref y0, .ref y1, .ref y2, .ref y3, .ref y4, .ref y5, .ref y6, .ref yw])), (y0, .inl (cI, 40, .inl good9)), (y1, .inl (cI, 40, .inl came9)), (y2, .inl (cI, 40, .inl left9)), (y3, .inl (cI, 40, .inl shelf9)), (y4, .inl (cI, 40, .inl sold9)), (y5, .inl (cI, 40, .inl given9)), (y6, .inl (cI, 40, .inl cents9)), (yw, .inl (cQ, 3, .inr (.inr (.inr (.inr (xrow [yw0, yw1, yw2])))))), (yw0, .inl (cI, 40, .inl wa9)), (yw1, .inl (cI, 40, .inl wb9)), (yw2, .inl (cI, 40, .inl wc9))]) (xWv (dC, dI) vwCl [(h0, .inr (0, [.int n, .ref x0, .ref x1, .ref x2, .ref x3, .ref x4, .ref x5, .ref x6, .ref xw])), (x0, .inl (cI, 40, .inl good)), (x1, .inl (cI, 40, .inl came)), (x2, .inl (cI, 40, .inl left)), (x3, .inl (cI, 40, .inl shelf)), (x4, .inl (cI, 40, .inl sold)), (x5, .inl (cI, 40, .inl given)), (x6, .inl (cI, 40, .inl cents)), (xw, .inl (cQ, 3, .inr (.inr (.inr (.inr (xrow [xw0, xw1, xw2])))))), (xw0, .inl (cI, 40, .inl wa)), (xw1, .inl (cI, 40, .inl wb)), (xw2, .inl (cI, 40, .inl wc)), (o0, .inr (0, [.int n9, .ref y0, .ref y1, .ref y2, .ref y3, .ref y4, .ref y5, .ref y6, .ref yw])), (y0, .inl (cI, 40, .inl good9)), (y1, .inl (cI, 40, .inl came9)), (y2, .inl (cI, 40, .inl left9)), (y3, .inl (cI, 40, .inl shelf9)), (y4, .inl (cI, 40, .inl sold9)), (y5, .inl (cI, 40, .inl given9)), (y6, .inl (cI, 40, .inl cents9)), (yw, .inl (cQ, 3, .inr (.inr (.inr (.inr (xrow [yw0, yw1, yw2])))))), (yw0, .inl (cI, 40, .inl wa9)), (yw1, .inl (cI, 40, .inl wb9)), (yw2, .inl (cI, 40, .inl wc9))] (fun w0 => w0 = [(h0, .inr (0, [.int n9, .ref x0, .ref x1, .ref x2, .ref x3, .ref x4, .ref x5, .ref x6, .ref xw])), (x0, .inl (cI, 40, .inl good9)), (x1, .inl (cI, 40, .inl came9)), (x2, .inl (cI, 40, .inl left9)), (x3, .inl (cI, 40, .inl shelf9)), (x4, .inl (cI, 40, .inl sold9)), (x5, .inl (cI, 40, .inl given9)), (x6, .inl (cI, 40, .inl cents9)), (xw, .inl (cQ, 3, .inr (.inr (.inr (.inr (xrow [xw0, xw1, xw2])))))), (xw0, .inl (cI, 40, .inl wa9)), (xw1, .inl (cI, 40, .inl wb9)), (xw2, .inl (cI, 40, .inl wc9)), (o0, .inr (0, [.int n9, .ref y0, .ref y1, .ref y2, .ref y3, .ref y4, .ref y5, .ref y6, .ref yw])), (y0, .inl (cI, 40, .inl good9)), (y1, .inl (cI, 40, .inl came9)), (y2, .inl (cI, 40, .inl left9)), (y3, .inl (cI, 40, .inl shelf9)), (y4, .inl (cI, 40, .inl sold9)), (y5, .inl (cI, 40, .inl given9)), (y6, .inl (cI, 40, .inl cents9)), (yw, .inl (cQ, 3, .inr (.inr (.inr (.inr (xrow [yw0, yw1, yw2])))))), (yw0, .inl (cI, 40, .inl wa9)), (yw1, .inl (cI, 40, .inl wb9)), (yw2, .inl (cI, 40, .inl wc9))])) 0 0 (va_B [(h0, .inr (0, [.int n, .ref x0, .ref x1, .ref x2, .ref x3, .ref x4, .ref x5, .ref x6, .ref xw])), (x0, .inl (cI, 40, .inl good)), (x1, .inl (cI, 40, .inl came)), (x2, .inl (cI, 40, .inl left)), (x3, .inl (cI, 40, .inl shelf)), (x4, .inl (cI, 40, .inl sold)), (x5, .inl (cI, 40, .inl given)), (x6, .inl (cI, 40, .inl cents)), (xw, .inl (cQ, 3, .inr (.inr (.inr (.inr (xrow [xw0, xw1, xw2])))))), (xw0, .inl (cI, 40, .inl wa)), (xw1, .inl (cI, 40, .inl wb)), (xw2, .inl (cI, 40, .inl wc)), (o0, .inr (0, [.int n9, .ref y0, .ref y1, .ref y2, .ref y3, .ref y4, .ref y5, .ref y6, .ref yw])), (y0, .inl (cI, 40, .inl good9)), (y1, .inl (cI, 40, .inl came9)), (y2, .inl (cI, 40, .inl left9)), (y3, .inl (cI, 40, .inl shelf9)), (y4, .inl (cI, 40, .inl sold9)), (y5, .inl (cI, 40, .inl given9)), (y6, .inl (cI, 40, .inl cents9)), (yw, .inl (cQ, 3, .inr (.inr (.inr (.inr (xrow [yw0, yw1, yw2])))))), (yw0, .inl (cI, 40, .inl wa9)), (yw1, .inl (cI, 40, .inl wb9)), (yw2, .inl (cI, 40, .inl wc9))]) := by
  refine Met.ofW (cc := cX0_copyFrom) (maxL := 3) (ret := none) (by decide) rfl ?_
  intro p e s m args below meth c s₁ B hml hv
  obtain ⟨rfl, hP, hK, hD0, hN⟩ := hv
  have hx := B.exec
  have hb := B.bytes
  have hr := B.returns
  have hts := atoms_spec (ws := wsX0_copyFrom) B.pre
  have hown : s.vm.findClass RX0 = some m.cls := findClass_of_methodNamed B.named
  have hlocks := B.notSynchronized
  have k_15 := hts (Cond.fieldLink RX0 15 "ShelfStages$Batches" "came" "[I") (by decide +kernel)
  have k_18 := hts (Cond.fieldLink RX0 18 "ShelfStages$Batches" "left" "[I") (by decide +kernel)
  have k_21 := hts (Cond.fieldLink RX0 21 "ShelfStages$Batches" "shelf" "[I") (by decide +kernel)
  have k_24 := hts (Cond.fieldLink RX0 24 "ShelfStages$Batches" "sold" "[I") (by decide +kernel)
  have k_27 := hts (Cond.fieldLink RX0 27 "ShelfStages$Batches" "given" "[I") (by decide +kernel)
  have k_30 := hts (Cond.fieldLink RX0 30 "ShelfStages$Batches" "cents" "[I") (by decide +kernel)
  have k_35 := hts (Cond.fieldLink RX0 35 "ShelfStages$Batches" "wasted" "[[I") (by decide +kernel)
  have k_38 := hts (Cond.fieldLink RX0 38 "ShelfStages$Batches" "size" "I") (by decide +kernel)
  have k_9 := hts (Cond.fieldLink RX0 9 "ShelfStages$Batches" "good" "[I") (by decide +kernel)
  have ki_RX9 := hts (Cond.initialized RX9) (by decide +kernel)
  have ks_X9_copyRow := hts (Cond.static yX9_copyRow) (by decide +kernel)
  have i_X0 : ∀ w ∈ wsX00, w ∈ wsX0_copyFrom := by decide +kernel
  obtain ⟨A, hA⟩ : ∃ A, A = va_B [(h0, .inr (0, [.int n, .ref x0, .ref x1, .ref x2, .ref x3, .ref x4, .ref x5, .ref x6, .ref xw])), (x0, .inl (cI, 40, .inl good)), (x1, .inl (cI, 40, .inl came)), (x2, .inl (cI, 40, .inl left)), (x3, .inl (cI, 40, .inl shelf)), (x4, .inl (cI, 40, .inl sold)), (x5, .inl (cI, 40, .inl given)), (x6, .inl (cI, 40, .inl cents)), (xw, .inl (cQ, 3, .inr (.inr (.inr (.inr (xrow [xw0, xw1, xw2])))))), (xw0, .inl (cI, 40, .inl wa)), (xw1, .inl (cI, 40, .inl wb)), (xw2, .inl (cI, 40, .inl wc)), (o0, .inr (0, [.int n9, .ref y0, .ref y1, .ref y2, .ref y3, .ref y4, .ref y5, .ref y6, .ref yw])), (y0, .inl (cI, 40, .inl good9)), (y1, .inl (cI, 40, .inl came9)), (y2, .inl (cI, 40, .inl left9)), (y3, .inl (cI, 40, .inl shelf9)), (y4, .inl (cI, 40, .inl sold9)), (y5, .inl (cI, 40, .inl given9)), (y6, .inl (cI, 40, .inl cents9)), (yw, .inl (cQ, 3, .inr (.inr (.inr (.inr (xrow [yw0, yw1, yw2])))))), (yw0, .inl (cI, 40, .inl wa9)), (yw1, .inl (cI, 40, .inl wb9)), (yw2, .inl (cI, 40, .inl wc9))] := ⟨_, rfl⟩
  have hD : va_D A [(h0, .inr (0, [.int n, .ref x0, .ref x1, .ref x2, .ref x3, .ref x4, .ref x5, .ref x6, .ref xw])), (x0, .inl (cI, 40, .inl good)), (x1, .inl (cI, 40, .inl came)), (x2, .inl (cI, 40, .inl left)), (x3, .inl (cI, 40, .inl shelf)), (x4, .inl (cI, 40, .inl sold)), (x5, .inl (cI, 40, .inl given)), (x6, .inl (cI, 40, .inl cents)), (xw, .inl (cQ, 3, .inr (.inr (.inr (.inr (xrow [xw0, xw1, xw2])))))), (xw0, .inl (cI, 40, .inl wa)), (xw1, .inl (cI, 40, .inl wb)), (xw2, .inl (cI, 40, .inl wc)), (o0, .inr (0, [.int n9, .ref y0, .ref y1, .ref y2, .ref y3, .ref y4, .ref y5, .ref y6, .ref yw])), (y0, .inl (cI, 40, .inl good9)), (y1, .inl (cI, 40, .inl came9)), (y2, .inl (cI, 40, .inl left9)), (y3, .inl (cI, 40, .inl shelf9)), (y4, .inl (cI, 40, .inl sold9)), (y5, .inl (cI, 40, .inl given9)), (y6, .inl (cI, 40, .inl cents9)), (yw, .inl (cQ, 3, .inr (.inr (.inr (.inr (xrow [yw0, yw1, yw2])))))), (yw0, .inl (cI, 40, .inl wa9)), (yw1, .inl (cI, 40, .inl wb9)), (yw2, .inl (cI, 40, .inl wc9))] := hA ▸ hD0.own
  have hS : va_S A s.heap s.heap [] := va_S.rf
  have hl := lv_entry ([.ref h0, .ref o0]) (n := 3) (Nat.le_of_ble_eq_true rfl)
  rw [lg_entry_eq]
  generalize (lg_sl ([.ref h0, .ref o0]) ++ List.replicate (3 - (lg_sl ([.ref h0, .ref o0])).length) Slot.unset).toArray = ls at hl ⊢
  have hl : lv_has ls 3 [(0, .ref h0), (1, .ref o0)] := hl
  refine lv_aload_n hx hb dX0_copyFrom_0 rfl (lv_at hl 0 rfl) ?_
  refine lv_aload_n hx hb dX0_copyFrom_1 rfl (lv_at hl 1 rfl) ?_
  refine va_get (D := (dC, dI)) (ci := 0) (v := .int n9) (C := RX0) (T := TX0) (N := 9) hx hb hts i_X0 hown hK hP 12 rfl rfl 0 (by decide) k_38 (fun _ h9 => h9) rfl dX0_copyFrom_2 ?_
  refine va_put (D := (dC, dI)) (ci := 0) (v := .int n9) (ty := .int) (C := RX0) (T := TX0) (N := 9) hx hb hts i_X0 tyX0 tyX0_ok nmX0 hown hK hP hD hS 0 rfl rfl 0 (by decide) k_38 (fun _ h9 => h9) rfl (by decide +kernel) rfl rfl (Nat.le_of_ble_eq_true rfl) dX0_copyFrom_5 (fun H locs hP hD hS => ?_)
  have hP : va_P (dC, dI) vwCl [(h0, .inr (0, [.int n9, .ref x0, .ref x1, .ref x2, .ref x3, .ref x4, .ref x5, .ref x6, .ref xw])), (x0, .inl (cI, 40, .inl good)), (x1, .inl (cI, 40, .inl came)), (x2, .inl (cI, 40, .inl left)), (x3, .inl (cI, 40, .inl shelf)), (x4, .inl (cI, 40, .inl sold)), (x5, .inl (cI, 40, .inl given)), (x6, .inl (cI, 40, .inl cents)), (xw, .inl (cQ, 3, .inr (.inr (.inr (.inr (xrow [xw0, xw1, xw2])))))), (xw0, .inl (cI, 40, .inl wa)), (xw1, .inl (cI, 40, .inl wb)), (xw2, .inl (cI, 40, .inl wc)), (o0, .inr (0, [.int n9, .ref y0, .ref y1, .ref y2, .ref y3, .ref y4, .ref y5, .ref y6, .ref yw])), (y0, .inl (cI, 40, .inl good9)), (y1, .inl (cI, 40, .inl came9)), (y2, .inl (cI, 40, .inl left9)), (y3, .inl (cI, 40, .inl shelf9)), (y4, .inl (cI, 40, .inl sold9)), (y5, .inl (cI, 40, .inl given9)), (y6, .inl (cI, 40, .inl cents9)), (yw, .inl (cQ, 3, .inr (.inr (.inr (.inr (xrow [yw0, yw1, yw2])))))), (yw0, .inl (cI, 40, .inl wa9)), (yw1, .inl (cI, 40, .inl wb9)), (yw2, .inl (cI, 40, .inl wc9))] H := hP
  have hD : va_D A [(h0, .inr (0, [.int n9, .ref x0, .ref x1, .ref x2, .ref x3, .ref x4, .ref x5, .ref x6, .ref xw])), (x0, .inl (cI, 40, .inl good)), (x1, .inl (cI, 40, .inl came)), (x2, .inl (cI, 40, .inl left)), (x3, .inl (cI, 40, .inl shelf)), (x4, .inl (cI, 40, .inl sold)), (x5, .inl (cI, 40, .inl given)), (x6, .inl (cI, 40, .inl cents)), (xw, .inl (cQ, 3, .inr (.inr (.inr (.inr (xrow [xw0, xw1, xw2])))))), (xw0, .inl (cI, 40, .inl wa)), (xw1, .inl (cI, 40, .inl wb)), (xw2, .inl (cI, 40, .inl wc)), (o0, .inr (0, [.int n9, .ref y0, .ref y1, .ref y2, .ref y3, .ref y4, .ref y5, .ref y6, .ref yw])), (y0, .inl (cI, 40, .inl good9)), (y1, .inl (cI, 40, .inl came9)), (y2, .inl (cI, 40, .inl left9)), (y3, .inl (cI, 40, .inl shelf9)), (y4, .inl (cI, 40, .inl sold9)), (y5, .inl (cI, 40, .inl given9)), (y6, .inl (cI, 40, .inl cents9)), (yw, .inl (cQ, 3, .inr (.inr (.inr (.inr (xrow [yw0, yw1, yw2])))))), (yw0, .inl (cI, 40, .inl wa9)), (yw1, .inl (cI, 40, .inl wb9)), (yw2, .inl (cI, 40, .inl wc9))] := hD
  refine lv_aload_n hx hb dX0_copyFrom_8 rfl (lv_at hl 1 rfl) ?_
  refine va_get (D := (dC, dI)) (ci := 0) (v := .ref y0) (C := RX0) (T := TX0) (N := 9) hx hb hts i_X0 hown hK hP 12 rfl rfl 1 (by decide) k_9 (fun _ h9 => h9) rfl dX0_copyFrom_9 ?_
  refine lv_aload_n hx hb dX0_copyFrom_12 rfl (lv_at hl 0 rfl) ?_
  refine va_get (D := (dC, dI)) (ci := 0) (v := .ref x0) (C := RX0) (T := TX0) (N := 9) hx hb hts i_X0 hown hK hP 0 rfl rfl 1 (by decide) k_9 (fun _ h9 => h9) rfl dX0_copyFrom_13 ?_
  refine xkV2 (xSN (As := [.ref y0, .ref x0]) (rest := []) (wc := [(y0, .inl (cI, 40, .inl good9)), (x0, .inl (cI, 40, .inl good))]) hx hb hml hown hts (c_X9_copyRow l dC dI cI cF cC cZ cQ cS y0 good9 x0 good 40 (by omega)) 2 gX0_copyFrom_X9_copyRow_n42 rfl rfl rfl (hN (RX0, 42, yX9_copyRow) (List.mem_of_getElem? (i := 10) rfl)) ki_RX9 ks_X9_copyRow hdN_X9_copyRow ⟨Nat.le_of_ble_eq_true rfl, Nat.le_of_ble_eq_true rfl⟩ hN hK hP hD [13, 1] rfl rfl rfl hl.1 rfl (Nat.le_of_ble_eq_true rfl) dX0_copyFrom_16 ⟨Nat.zero_le _, Nat.zero_le _⟩) hP hD hS [13, 1] [0, 1, 2, 3, 4, 5, 6, 7, 8, 9, 10, 11, 12, 13, 14, 15, 16, 17, 18, 19, 20, 21, 22, 23] rfl rfl 24 rfl (by decide +kernel) (fun H locs hP hD hS => ?_)
  have hP : va_P (dC, dI) vwCl [(h0, .inr (0, [.int n9, .ref x0, .ref x1, .ref x2, .ref x3, .ref x4, .ref x5, .ref x6, .ref xw])), (x0, .inl (cI, 40, .inl good9)), (x1, .inl (cI, 40, .inl came)), (x2, .inl (cI, 40, .inl left)), (x3, .inl (cI, 40, .inl shelf)), (x4, .inl (cI, 40, .inl sold)), (x5, .inl (cI, 40, .inl given)), (x6, .inl (cI, 40, .inl cents)), (xw, .inl (cQ, 3, .inr (.inr (.inr (.inr (xrow [xw0, xw1, xw2])))))), (xw0, .inl (cI, 40, .inl wa)), (xw1, .inl (cI, 40, .inl wb)), (xw2, .inl (cI, 40, .inl wc)), (o0, .inr (0, [.int n9, .ref y0, .ref y1, .ref y2, .ref y3, .ref y4, .ref y5, .ref y6, .ref yw])), (y0, .inl (cI, 40, .inl good9)), (y1, .inl (cI, 40, .inl came9)), (y2, .inl (cI, 40, .inl left9)), (y3, .inl (cI, 40, .inl shelf9)), (y4, .inl (cI, 40, .inl sold9)), (y5, .inl (cI, 40, .inl given9)), (y6, .inl (cI, 40, .inl cents9)), (yw, .inl (cQ, 3, .inr (.inr (.inr (.inr (xrow [yw0, yw1, yw2])))))), (yw0, .inl (cI, 40, .inl wa9)), (yw1, .inl (cI, 40, .inl wb9)), (yw2, .inl (cI, 40, .inl wc9))] H := hP
  have hD : va_D A [(h0, .inr (0, [.int n9, .ref x0, .ref x1, .ref x2, .ref x3, .ref x4, .ref x5, .ref x6, .ref xw])), (x0, .inl (cI, 40, .inl good9)), (x1, .inl (cI, 40, .inl came)), (x2, .inl (cI, 40, .inl left)), (x3, .inl (cI, 40, .inl shelf)), (x4, .inl (cI, 40, .inl sold)), (x5, .inl (cI, 40, .inl given)), (x6, .inl (cI, 40, .inl cents)), (xw, .inl (cQ, 3, .inr (.inr (.inr (.inr (xrow [xw0, xw1, xw2])))))), (xw0, .inl (cI, 40, .inl wa)), (xw1, .inl (cI, 40, .inl wb)), (xw2, .inl (cI, 40, .inl wc)), (o0, .inr (0, [.int n9, .ref y0, .ref y1, .ref y2, .ref y3, .ref y4, .ref y5, .ref y6, .ref yw])), (y0, .inl (cI, 40, .inl good9)), (y1, .inl (cI, 40, .inl came9)), (y2, .inl (cI, 40, .inl left9)), (y3, .inl (cI, 40, .inl shelf9)), (y4, .inl (cI, 40, .inl sold9)), (y5, .inl (cI, 40, .inl given9)), (y6, .inl (cI, 40, .inl cents9)), (yw, .inl (cQ, 3, .inr (.inr (.inr (.inr (xrow [yw0, yw1, yw2])))))), (yw0, .inl (cI, 40, .inl wa9)), (yw1, .inl (cI, 40, .inl wb9)), (yw2, .inl (cI, 40, .inl wc9))] := hD
  refine lv_aload_n hx hb dX0_copyFrom_19 rfl (lv_at hl 1 rfl) ?_
  refine va_get (D := (dC, dI)) (ci := 0) (v := .ref y1) (C := RX0) (T := TX0) (N := 9) hx hb hts i_X0 hown hK hP 12 rfl rfl 2 (by decide) k_15 (fun _ h9 => h9) rfl dX0_copyFrom_20 ?_
  refine lv_aload_n hx hb dX0_copyFrom_23 rfl (lv_at hl 0 rfl) ?_
  refine va_get (D := (dC, dI)) (ci := 0) (v := .ref x1) (C := RX0) (T := TX0) (N := 9) hx hb hts i_X0 hown hK hP 0 rfl rfl 2 (by decide) k_15 (fun _ h9 => h9) rfl dX0_copyFrom_24 ?_
  refine xkV2 (xSN (As := [.ref y1, .ref x1]) (rest := []) (wc := [(y1, .inl (cI, 40, .inl came9)), (x1, .inl (cI, 40, .inl came))]) hx hb hml hown hts (c_X9_copyRow l dC dI cI cF cC cZ cQ cS y1 came9 x1 came 40 (by omega)) 2 gX0_copyFrom_X9_copyRow_n42 rfl rfl rfl (hN (RX0, 42, yX9_copyRow) (List.mem_of_getElem? (i := 10) rfl)) ki_RX9 ks_X9_copyRow hdN_X9_copyRow ⟨Nat.le_of_ble_eq_true rfl, Nat.le_of_ble_eq_true rfl⟩ hN hK hP hD [14, 2] rfl rfl rfl hl.1 rfl (Nat.le_of_ble_eq_true rfl) dX0_copyFrom_27 ⟨Nat.zero_le _, Nat.zero_le _⟩) hP hD hS [14, 2] [0, 1, 2, 3, 4, 5, 6, 7, 8, 9, 10, 11, 12, 13, 14, 15, 16, 17, 18, 19, 20, 21, 22, 23] rfl rfl 24 rfl (by decide +kernel) (fun H locs hP hD hS => ?_)
  have hP : va_P (dC, dI) vwCl [(h0, .inr (0, [.int n9, .ref x0, .ref x1, .ref x2, .ref x3, .ref x4, .ref x5, .ref x6, .ref xw])), (x0, .inl (cI, 40, .inl good9)), (x1, .inl (cI, 40, .inl came9)), (x2, .inl (cI, 40, .inl left)), (x3, .inl (cI, 40, .inl shelf)), (x4, .inl (cI, 40, .inl sold)), (x5, .inl (cI, 40, .inl given)), (x6, .inl (cI, 40, .inl cents)), (xw, .inl (cQ, 3, .inr (.inr (.inr (.inr (xrow [xw0, xw1, xw2])))))), (xw0, .inl (cI, 40, .inl wa)), (xw1, .inl (cI, 40, .inl wb)), (xw2, .inl (cI, 40, .inl wc)), (o0, .inr (0, [.int n9, .ref y0, .ref y1, .ref y2, .ref y3, .ref y4, .ref y5, .ref y6, .ref yw])), (y0, .inl (cI, 40, .inl good9)), (y1, .inl (cI, 40, .inl came9)), (y2, .inl (cI, 40, .inl left9)), (y3, .inl (cI, 40, .inl shelf9)), (y4, .inl (cI, 40, .inl sold9)), (y5, .inl (cI, 40, .inl given9)), (y6, .inl (cI, 40, .inl cents9)), (yw, .inl (cQ, 3, .inr (.inr (.inr (.inr (xrow [yw0, yw1, yw2])))))), (yw0, .inl (cI, 40, .inl wa9)), (yw1, .inl (cI, 40, .inl wb9)), (yw2, .inl (cI, 40, .inl wc9))] H := hP
  have hD : va_D A [(h0, .inr (0, [.int n9, .ref x0, .ref x1, .ref x2, .ref x3, .ref x4, .ref x5, .ref x6, .ref xw])), (x0, .inl (cI, 40, .inl good9)), (x1, .inl (cI, 40, .inl came9)), (x2, .inl (cI, 40, .inl left)), (x3, .inl (cI, 40, .inl shelf)), (x4, .inl (cI, 40, .inl sold)), (x5, .inl (cI, 40, .inl given)), (x6, .inl (cI, 40, .inl cents)), (xw, .inl (cQ, 3, .inr (.inr (.inr (.inr (xrow [xw0, xw1, xw2])))))), (xw0, .inl (cI, 40, .inl wa)), (xw1, .inl (cI, 40, .inl wb)), (xw2, .inl (cI, 40, .inl wc)), (o0, .inr (0, [.int n9, .ref y0, .ref y1, .ref y2, .ref y3, .ref y4, .ref y5, .ref y6, .ref yw])), (y0, .inl (cI, 40, .inl good9)), (y1, .inl (cI, 40, .inl came9)), (y2, .inl (cI, 40, .inl left9)), (y3, .inl (cI, 40, .inl shelf9)), (y4, .inl (cI, 40, .inl sold9)), (y5, .inl (cI, 40, .inl given9)), (y6, .inl (cI, 40, .inl cents9)), (yw, .inl (cQ, 3, .inr (.inr (.inr (.inr (xrow [yw0, yw1, yw2])))))), (yw0, .inl (cI, 40, .inl wa9)), (yw1, .inl (cI, 40, .inl wb9)), (yw2, .inl (cI, 40, .inl wc9))] := hD
  refine lv_aload_n hx hb dX0_copyFrom_30 rfl (lv_at hl 1 rfl) ?_
  refine va_get (D := (dC, dI)) (ci := 0) (v := .ref y2) (C := RX0) (T := TX0) (N := 9) hx hb hts i_X0 hown hK hP 12 rfl rfl 3 (by decide) k_18 (fun _ h9 => h9) rfl dX0_copyFrom_31 ?_
  refine lv_aload_n hx hb dX0_copyFrom_34 rfl (lv_at hl 0 rfl) ?_
  refine va_get (D := (dC, dI)) (ci := 0) (v := .ref x2) (C := RX0) (T := TX0) (N := 9) hx hb hts i_X0 hown hK hP 0 rfl rfl 3 (by decide) k_18 (fun _ h9 => h9) rfl dX0_copyFrom_35 ?_
  refine xkV2 (xSN (As := [.ref y2, .ref x2]) (rest := []) (wc := [(y2, .inl (cI, 40, .inl left9)), (x2, .inl (cI, 40, .inl left))]) hx hb hml hown hts (c_X9_copyRow l dC dI cI cF cC cZ cQ cS y2 left9 x2 left 40 (by omega)) 2 gX0_copyFrom_X9_copyRow_n42 rfl rfl rfl (hN (RX0, 42, yX9_copyRow) (List.mem_of_getElem? (i := 10) rfl)) ki_RX9 ks_X9_copyRow hdN_X9_copyRow ⟨Nat.le_of_ble_eq_true rfl, Nat.le_of_ble_eq_true rfl⟩ hN hK hP hD [15, 3] rfl rfl rfl hl.1 rfl (Nat.le_of_ble_eq_true rfl) dX0_copyFrom_38 ⟨Nat.zero_le _, Nat.zero_le _⟩) hP hD hS [15, 3] [0, 1, 2, 3, 4, 5, 6, 7, 8, 9, 10, 11, 12, 13, 14, 15, 16, 17, 18, 19, 20, 21, 22, 23] rfl rfl 24 rfl (by decide +kernel) (fun H locs hP hD hS => ?_)
  have hP : va_P (dC, dI) vwCl [(h0, .inr (0, [.int n9, .ref x0, .ref x1, .ref x2, .ref x3, .ref x4, .ref x5, .ref x6, .ref xw])), (x0, .inl (cI, 40, .inl good9)), (x1, .inl (cI, 40, .inl came9)), (x2, .inl (cI, 40, .inl left9)), (x3, .inl (cI, 40, .inl shelf)), (x4, .inl (cI, 40, .inl sold)), (x5, .inl (cI, 40, .inl given)), (x6, .inl (cI, 40, .inl cents)), (xw, .inl (cQ, 3, .inr (.inr (.inr (.inr (xrow [xw0, xw1, xw2])))))), (xw0, .inl (cI, 40, .inl wa)), (xw1, .inl (cI, 40, .inl wb)), (xw2, .inl (cI, 40, .inl wc)), (o0, .inr (0, [.int n9, .ref y0, .ref y1, .ref y2, .ref y3, .ref y4, .ref y5, .ref y6, .ref yw])), (y0, .inl (cI, 40, .inl good9)), (y1, .inl (cI, 40, .inl came9)), (y2, .inl (cI, 40, .inl left9)), (y3, .inl (cI, 40, .inl shelf9)), (y4, .inl (cI, 40, .inl sold9)), (y5, .inl (cI, 40, .inl given9)), (y6, .inl (cI, 40, .inl cents9)), (yw, .inl (cQ, 3, .inr (.inr (.inr (.inr (xrow [yw0, yw1, yw2])))))), (yw0, .inl (cI, 40, .inl wa9)), (yw1, .inl (cI, 40, .inl wb9)), (yw2, .inl (cI, 40, .inl wc9))] H := hP
  have hD : va_D A [(h0, .inr (0, [.int n9, .ref x0, .ref x1, .ref x2, .ref x3, .ref x4, .ref x5, .ref x6, .ref xw])), (x0, .inl (cI, 40, .inl good9)), (x1, .inl (cI, 40, .inl came9)), (x2, .inl (cI, 40, .inl left9)), (x3, .inl (cI, 40, .inl shelf)), (x4, .inl (cI, 40, .inl sold)), (x5, .inl (cI, 40, .inl given)), (x6, .inl (cI, 40, .inl cents)), (xw, .inl (cQ, 3, .inr (.inr (.inr (.inr (xrow [xw0, xw1, xw2])))))), (xw0, .inl (cI, 40, .inl wa)), (xw1, .inl (cI, 40, .inl wb)), (xw2, .inl (cI, 40, .inl wc)), (o0, .inr (0, [.int n9, .ref y0, .ref y1, .ref y2, .ref y3, .ref y4, .ref y5, .ref y6, .ref yw])), (y0, .inl (cI, 40, .inl good9)), (y1, .inl (cI, 40, .inl came9)), (y2, .inl (cI, 40, .inl left9)), (y3, .inl (cI, 40, .inl shelf9)), (y4, .inl (cI, 40, .inl sold9)), (y5, .inl (cI, 40, .inl given9)), (y6, .inl (cI, 40, .inl cents9)), (yw, .inl (cQ, 3, .inr (.inr (.inr (.inr (xrow [yw0, yw1, yw2])))))), (yw0, .inl (cI, 40, .inl wa9)), (yw1, .inl (cI, 40, .inl wb9)), (yw2, .inl (cI, 40, .inl wc9))] := hD
  refine lv_aload_n hx hb dX0_copyFrom_41 rfl (lv_at hl 1 rfl) ?_
  refine va_get (D := (dC, dI)) (ci := 0) (v := .ref y3) (C := RX0) (T := TX0) (N := 9) hx hb hts i_X0 hown hK hP 12 rfl rfl 4 (by decide) k_21 (fun _ h9 => h9) rfl dX0_copyFrom_42 ?_
  refine lv_aload_n hx hb dX0_copyFrom_45 rfl (lv_at hl 0 rfl) ?_
  refine va_get (D := (dC, dI)) (ci := 0) (v := .ref x3) (C := RX0) (T := TX0) (N := 9) hx hb hts i_X0 hown hK hP 0 rfl rfl 4 (by decide) k_21 (fun _ h9 => h9) rfl dX0_copyFrom_46 ?_
  refine xkV2 (xSN (As := [.ref y3, .ref x3]) (rest := []) (wc := [(y3, .inl (cI, 40, .inl shelf9)), (x3, .inl (cI, 40, .inl shelf))]) hx hb hml hown hts (c_X9_copyRow l dC dI cI cF cC cZ cQ cS y3 shelf9 x3 shelf 40 (by omega)) 2 gX0_copyFrom_X9_copyRow_n42 rfl rfl rfl (hN (RX0, 42, yX9_copyRow) (List.mem_of_getElem? (i := 10) rfl)) ki_RX9 ks_X9_copyRow hdN_X9_copyRow ⟨Nat.le_of_ble_eq_true rfl, Nat.le_of_ble_eq_true rfl⟩ hN hK hP hD [16, 4] rfl rfl rfl hl.1 rfl (Nat.le_of_ble_eq_true rfl) dX0_copyFrom_49 ⟨Nat.zero_le _, Nat.zero_le _⟩) hP hD hS [16, 4] [0, 1, 2, 3, 4, 5, 6, 7, 8, 9, 10, 11, 12, 13, 14, 15, 16, 17, 18, 19, 20, 21, 22, 23] rfl rfl 24 rfl (by decide +kernel) (fun H locs hP hD hS => ?_)
  have hP : va_P (dC, dI) vwCl [(h0, .inr (0, [.int n9, .ref x0, .ref x1, .ref x2, .ref x3, .ref x4, .ref x5, .ref x6, .ref xw])), (x0, .inl (cI, 40, .inl good9)), (x1, .inl (cI, 40, .inl came9)), (x2, .inl (cI, 40, .inl left9)), (x3, .inl (cI, 40, .inl shelf9)), (x4, .inl (cI, 40, .inl sold)), (x5, .inl (cI, 40, .inl given)), (x6, .inl (cI, 40, .inl cents)), (xw, .inl (cQ, 3, .inr (.inr (.inr (.inr (xrow [xw0, xw1, xw2])))))), (xw0, .inl (cI, 40, .inl wa)), (xw1, .inl (cI, 40, .inl wb)), (xw2, .inl (cI, 40, .inl wc)), (o0, .inr (0, [.int n9, .ref y0, .ref y1, .ref y2, .ref y3, .ref y4, .ref y5, .ref y6, .ref yw])), (y0, .inl (cI, 40, .inl good9)), (y1, .inl (cI, 40, .inl came9)), (y2, .inl (cI, 40, .inl left9)), (y3, .inl (cI, 40, .inl shelf9)), (y4, .inl (cI, 40, .inl sold9)), (y5, .inl (cI, 40, .inl given9)), (y6, .inl (cI, 40, .inl cents9)), (yw, .inl (cQ, 3, .inr (.inr (.inr (.inr (xrow [yw0, yw1, yw2])))))), (yw0, .inl (cI, 40, .inl wa9)), (yw1, .inl (cI, 40, .inl wb9)), (yw2, .inl (cI, 40, .inl wc9))] H := hP
  have hD : va_D A [(h0, .inr (0, [.int n9, .ref x0, .ref x1, .ref x2, .ref x3, .ref x4, .ref x5, .ref x6, .ref xw])), (x0, .inl (cI, 40, .inl good9)), (x1, .inl (cI, 40, .inl came9)), (x2, .inl (cI, 40, .inl left9)), (x3, .inl (cI, 40, .inl shelf9)), (x4, .inl (cI, 40, .inl sold)), (x5, .inl (cI, 40, .inl given)), (x6, .inl (cI, 40, .inl cents)), (xw, .inl (cQ, 3, .inr (.inr (.inr (.inr (xrow [xw0, xw1, xw2])))))), (xw0, .inl (cI, 40, .inl wa)), (xw1, .inl (cI, 40, .inl wb)), (xw2, .inl (cI, 40, .inl wc)), (o0, .inr (0, [.int n9, .ref y0, .ref y1, .ref y2, .ref y3, .ref y4, .ref y5, .ref y6, .ref yw])), (y0, .inl (cI, 40, .inl good9)), (y1, .inl (cI, 40, .inl came9)), (y2, .inl (cI, 40, .inl left9)), (y3, .inl (cI, 40, .inl shelf9)), (y4, .inl (cI, 40, .inl sold9)), (y5, .inl (cI, 40, .inl given9)), (y6, .inl (cI, 40, .inl cents9)), (yw, .inl (cQ, 3, .inr (.inr (.inr (.inr (xrow [yw0, yw1, yw2])))))), (yw0, .inl (cI, 40, .inl wa9)), (yw1, .inl (cI, 40, .inl wb9)), (yw2, .inl (cI, 40, .inl wc9))] := hD
  refine lv_aload_n hx hb dX0_copyFrom_52 rfl (lv_at hl 1 rfl) ?_
  refine va_get (D := (dC, dI)) (ci := 0) (v := .ref y4) (C := RX0) (T := TX0) (N := 9) hx hb hts i_X0 hown hK hP 12 rfl rfl 5 (by decide) k_24 (fun _ h9 => h9) rfl dX0_copyFrom_53 ?_
  refine lv_aload_n hx hb dX0_copyFrom_56 rfl (lv_at hl 0 rfl) ?_
  refine va_get (D := (dC, dI)) (ci := 0) (v := .ref x4) (C := RX0) (T := TX0) (N := 9) hx hb hts i_X0 hown hK hP 0 rfl rfl 5 (by decide) k_24 (fun _ h9 => h9) rfl dX0_copyFrom_57 ?_
  refine xkV2 (xSN (As := [.ref y4, .ref x4]) (rest := []) (wc := [(y4, .inl (cI, 40, .inl sold9)), (x4, .inl (cI, 40, .inl sold))]) hx hb hml hown hts (c_X9_copyRow l dC dI cI cF cC cZ cQ cS y4 sold9 x4 sold 40 (by omega)) 2 gX0_copyFrom_X9_copyRow_n42 rfl rfl rfl (hN (RX0, 42, yX9_copyRow) (List.mem_of_getElem? (i := 10) rfl)) ki_RX9 ks_X9_copyRow hdN_X9_copyRow ⟨Nat.le_of_ble_eq_true rfl, Nat.le_of_ble_eq_true rfl⟩ hN hK hP hD [17, 5] rfl rfl rfl hl.1 rfl (Nat.le_of_ble_eq_true rfl) dX0_copyFrom_60 ⟨Nat.zero_le _, Nat.zero_le _⟩) hP hD hS [17, 5] [0, 1, 2, 3, 4, 5, 6, 7, 8, 9, 10, 11, 12, 13, 14, 15, 16, 17, 18, 19, 20, 21, 22, 23] rfl rfl 24 rfl (by decide +kernel) (fun H locs hP hD hS => ?_)
  have hP : va_P (dC, dI) vwCl [(h0, .inr (0, [.int n9, .ref x0, .ref x1, .ref x2, .ref x3, .ref x4, .ref x5, .ref x6, .ref xw])), (x0, .inl (cI, 40, .inl good9)), (x1, .inl (cI, 40, .inl came9)), (x2, .inl (cI, 40, .inl left9)), (x3, .inl (cI, 40, .inl shelf9)), (x4, .inl (cI, 40, .inl sold9)), (x5, .inl (cI, 40, .inl given)), (x6, .inl (cI, 40, .inl cents)), (xw, .inl (cQ, 3, .inr (.inr (.inr (.inr (xrow [xw0, xw1, xw2])))))), (xw0, .inl (cI, 40, .inl wa)), (xw1, .inl (cI, 40, .inl wb)), (xw2, .inl (cI, 40, .inl wc)), (o0, .inr (0, [.int n9, .ref y0, .ref y1, .ref y2, .ref y3, .ref y4, .ref y5, .ref y6, .ref yw])), (y0, .inl (cI, 40, .inl good9)), (y1, .inl (cI, 40, .inl came9)), (y2, .inl (cI, 40, .inl left9)), (y3, .inl (cI, 40, .inl shelf9)), (y4, .inl (cI, 40, .inl sold9)), (y5, .inl (cI, 40, .inl given9)), (y6, .inl (cI, 40, .inl cents9)), (yw, .inl (cQ, 3, .inr (.inr (.inr (.inr (xrow [yw0, yw1, yw2])))))), (yw0, .inl (cI, 40, .inl wa9)), (yw1, .inl (cI, 40, .inl wb9)), (yw2, .inl (cI, 40, .inl wc9))] H := hP
  have hD : va_D A [(h0, .inr (0, [.int n9, .ref x0, .ref x1, .ref x2, .ref x3, .ref x4, .ref x5, .ref x6, .ref xw])), (x0, .inl (cI, 40, .inl good9)), (x1, .inl (cI, 40, .inl came9)), (x2, .inl (cI, 40, .inl left9)), (x3, .inl (cI, 40, .inl shelf9)), (x4, .inl (cI, 40, .inl sold9)), (x5, .inl (cI, 40, .inl given)), (x6, .inl (cI, 40, .inl cents)), (xw, .inl (cQ, 3, .inr (.inr (.inr (.inr (xrow [xw0, xw1, xw2])))))), (xw0, .inl (cI, 40, .inl wa)), (xw1, .inl (cI, 40, .inl wb)), (xw2, .inl (cI, 40, .inl wc)), (o0, .inr (0, [.int n9, .ref y0, .ref y1, .ref y2, .ref y3, .ref y4, .ref y5, .ref y6, .ref yw])), (y0, .inl (cI, 40, .inl good9)), (y1, .inl (cI, 40, .inl came9)), (y2, .inl (cI, 40, .inl left9)), (y3, .inl (cI, 40, .inl shelf9)), (y4, .inl (cI, 40, .inl sold9)), (y5, .inl (cI, 40, .inl given9)), (y6, .inl (cI, 40, .inl cents9)), (yw, .inl (cQ, 3, .inr (.inr (.inr (.inr (xrow [yw0, yw1, yw2])))))), (yw0, .inl (cI, 40, .inl wa9)), (yw1, .inl (cI, 40, .inl wb9)), (yw2, .inl (cI, 40, .inl wc9))] := hD
  refine lv_aload_n hx hb dX0_copyFrom_63 rfl (lv_at hl 1 rfl) ?_
  refine va_get (D := (dC, dI)) (ci := 0) (v := .ref y5) (C := RX0) (T := TX0) (N := 9) hx hb hts i_X0 hown hK hP 12 rfl rfl 6 (by decide) k_27 (fun _ h9 => h9) rfl dX0_copyFrom_64 ?_
  refine lv_aload_n hx hb dX0_copyFrom_67 rfl (lv_at hl 0 rfl) ?_
  refine va_get (D := (dC, dI)) (ci := 0) (v := .ref x5) (C := RX0) (T := TX0) (N := 9) hx hb hts i_X0 hown hK hP 0 rfl rfl 6 (by decide) k_27 (fun _ h9 => h9) rfl dX0_copyFrom_68 ?_
  refine xkV2 (xSN (As := [.ref y5, .ref x5]) (rest := []) (wc := [(y5, .inl (cI, 40, .inl given9)), (x5, .inl (cI, 40, .inl given))]) hx hb hml hown hts (c_X9_copyRow l dC dI cI cF cC cZ cQ cS y5 given9 x5 given 40 (by omega)) 2 gX0_copyFrom_X9_copyRow_n42 rfl rfl rfl (hN (RX0, 42, yX9_copyRow) (List.mem_of_getElem? (i := 10) rfl)) ki_RX9 ks_X9_copyRow hdN_X9_copyRow ⟨Nat.le_of_ble_eq_true rfl, Nat.le_of_ble_eq_true rfl⟩ hN hK hP hD [18, 6] rfl rfl rfl hl.1 rfl (Nat.le_of_ble_eq_true rfl) dX0_copyFrom_71 ⟨Nat.zero_le _, Nat.zero_le _⟩) hP hD hS [18, 6] [0, 1, 2, 3, 4, 5, 6, 7, 8, 9, 10, 11, 12, 13, 14, 15, 16, 17, 18, 19, 20, 21, 22, 23] rfl rfl 24 rfl (by decide +kernel) (fun H locs hP hD hS => ?_)
  have hP : va_P (dC, dI) vwCl [(h0, .inr (0, [.int n9, .ref x0, .ref x1, .ref x2, .ref x3, .ref x4, .ref x5, .ref x6, .ref xw])), (x0, .inl (cI, 40, .inl good9)), (x1, .inl (cI, 40, .inl came9)), (x2, .inl (cI, 40, .inl left9)), (x3, .inl (cI, 40, .inl shelf9)), (x4, .inl (cI, 40, .inl sold9)), (x5, .inl (cI, 40, .inl given9)), (x6, .inl (cI, 40, .inl cents)), (xw, .inl (cQ, 3, .inr (.inr (.inr (.inr (xrow [xw0, xw1, xw2])))))), (xw0, .inl (cI, 40, .inl wa)), (xw1, .inl (cI, 40, .inl wb)), (xw2, .inl (cI, 40, .inl wc)), (o0, .inr (0, [.int n9, .ref y0, .ref y1, .ref y2, .ref y3, .ref y4, .ref y5, .ref y6, .ref yw])), (y0, .inl (cI, 40, .inl good9)), (y1, .inl (cI, 40, .inl came9)), (y2, .inl (cI, 40, .inl left9)), (y3, .inl (cI, 40, .inl shelf9)), (y4, .inl (cI, 40, .inl sold9)), (y5, .inl (cI, 40, .inl given9)), (y6, .inl (cI, 40, .inl cents9)), (yw, .inl (cQ, 3, .inr (.inr (.inr (.inr (xrow [yw0, yw1, yw2])))))), (yw0, .inl (cI, 40, .inl wa9)), (yw1, .inl (cI, 40, .inl wb9)), (yw2, .inl (cI, 40, .inl wc9))] H := hP
  have hD : va_D A [(h0, .inr (0, [.int n9, .ref x0, .ref x1, .ref x2, .ref x3, .ref x4, .ref x5, .ref x6, .ref xw])), (x0, .inl (cI, 40, .inl good9)), (x1, .inl (cI, 40, .inl came9)), (x2, .inl (cI, 40, .inl left9)), (x3, .inl (cI, 40, .inl shelf9)), (x4, .inl (cI, 40, .inl sold9)), (x5, .inl (cI, 40, .inl given9)), (x6, .inl (cI, 40, .inl cents)), (xw, .inl (cQ, 3, .inr (.inr (.inr (.inr (xrow [xw0, xw1, xw2])))))), (xw0, .inl (cI, 40, .inl wa)), (xw1, .inl (cI, 40, .inl wb)), (xw2, .inl (cI, 40, .inl wc)), (o0, .inr (0, [.int n9, .ref y0, .ref y1, .ref y2, .ref y3, .ref y4, .ref y5, .ref y6, .ref yw])), (y0, .inl (cI, 40, .inl good9)), (y1, .inl (cI, 40, .inl came9)), (y2, .inl (cI, 40, .inl left9)), (y3, .inl (cI, 40, .inl shelf9)), (y4, .inl (cI, 40, .inl sold9)), (y5, .inl (cI, 40, .inl given9)), (y6, .inl (cI, 40, .inl cents9)), (yw, .inl (cQ, 3, .inr (.inr (.inr (.inr (xrow [yw0, yw1, yw2])))))), (yw0, .inl (cI, 40, .inl wa9)), (yw1, .inl (cI, 40, .inl wb9)), (yw2, .inl (cI, 40, .inl wc9))] := hD
  refine lv_aload_n hx hb dX0_copyFrom_74 rfl (lv_at hl 1 rfl) ?_
  refine va_get (D := (dC, dI)) (ci := 0) (v := .ref y6) (C := RX0) (T := TX0) (N := 9) hx hb hts i_X0 hown hK hP 12 rfl rfl 7 (by decide) k_30 (fun _ h9 => h9) rfl dX0_copyFrom_75 ?_
  refine lv_aload_n hx hb dX0_copyFrom_78 rfl (lv_at hl 0 rfl) ?_
  refine va_get (D := (dC, dI)) (ci := 0) (v := .ref x6) (C := RX0) (T := TX0) (N := 9) hx hb hts i_X0 hown hK hP 0 rfl rfl 7 (by decide) k_30 (fun _ h9 => h9) rfl dX0_copyFrom_79 ?_
  refine xkV2 (xSN (As := [.ref y6, .ref x6]) (rest := []) (wc := [(y6, .inl (cI, 40, .inl cents9)), (x6, .inl (cI, 40, .inl cents))]) hx hb hml hown hts (c_X9_copyRow l dC dI cI cF cC cZ cQ cS y6 cents9 x6 cents 40 (by omega)) 2 gX0_copyFrom_X9_copyRow_n42 rfl rfl rfl (hN (RX0, 42, yX9_copyRow) (List.mem_of_getElem? (i := 10) rfl)) ki_RX9 ks_X9_copyRow hdN_X9_copyRow ⟨Nat.le_of_ble_eq_true rfl, Nat.le_of_ble_eq_true rfl⟩ hN hK hP hD [19, 7] rfl rfl rfl hl.1 rfl (Nat.le_of_ble_eq_true rfl) dX0_copyFrom_82 ⟨Nat.zero_le _, Nat.zero_le _⟩) hP hD hS [19, 7] [0, 1, 2, 3, 4, 5, 6, 7, 8, 9, 10, 11, 12, 13, 14, 15, 16, 17, 18, 19, 20, 21, 22, 23] rfl rfl 24 rfl (by decide +kernel) (fun H locs hP hD hS => ?_)
  have hP : va_P (dC, dI) vwCl [(h0, .inr (0, [.int n9, .ref x0, .ref x1, .ref x2, .ref x3, .ref x4, .ref x5, .ref x6, .ref xw])), (x0, .inl (cI, 40, .inl good9)), (x1, .inl (cI, 40, .inl came9)), (x2, .inl (cI, 40, .inl left9)), (x3, .inl (cI, 40, .inl shelf9)), (x4, .inl (cI, 40, .inl sold9)), (x5, .inl (cI, 40, .inl given9)), (x6, .inl (cI, 40, .inl cents9)), (xw, .inl (cQ, 3, .inr (.inr (.inr (.inr (xrow [xw0, xw1, xw2])))))), (xw0, .inl (cI, 40, .inl wa)), (xw1, .inl (cI, 40, .inl wb)), (xw2, .inl (cI, 40, .inl wc)), (o0, .inr (0, [.int n9, .ref y0, .ref y1, .ref y2, .ref y3, .ref y4, .ref y5, .ref y6, .ref yw])), (y0, .inl (cI, 40, .inl good9)), (y1, .inl (cI, 40, .inl came9)), (y2, .inl (cI, 40, .inl left9)), (y3, .inl (cI, 40, .inl shelf9)), (y4, .inl (cI, 40, .inl sold9)), (y5, .inl (cI, 40, .inl given9)), (y6, .inl (cI, 40, .inl cents9)), (yw, .inl (cQ, 3, .inr (.inr (.inr (.inr (xrow [yw0, yw1, yw2])))))), (yw0, .inl (cI, 40, .inl wa9)), (yw1, .inl (cI, 40, .inl wb9)), (yw2, .inl (cI, 40, .inl wc9))] H := hP
  have hD : va_D A [(h0, .inr (0, [.int n9, .ref x0, .ref x1, .ref x2, .ref x3, .ref x4, .ref x5, .ref x6, .ref xw])), (x0, .inl (cI, 40, .inl good9)), (x1, .inl (cI, 40, .inl came9)), (x2, .inl (cI, 40, .inl left9)), (x3, .inl (cI, 40, .inl shelf9)), (x4, .inl (cI, 40, .inl sold9)), (x5, .inl (cI, 40, .inl given9)), (x6, .inl (cI, 40, .inl cents9)), (xw, .inl (cQ, 3, .inr (.inr (.inr (.inr (xrow [xw0, xw1, xw2])))))), (xw0, .inl (cI, 40, .inl wa)), (xw1, .inl (cI, 40, .inl wb)), (xw2, .inl (cI, 40, .inl wc)), (o0, .inr (0, [.int n9, .ref y0, .ref y1, .ref y2, .ref y3, .ref y4, .ref y5, .ref y6, .ref yw])), (y0, .inl (cI, 40, .inl good9)), (y1, .inl (cI, 40, .inl came9)), (y2, .inl (cI, 40, .inl left9)), (y3, .inl (cI, 40, .inl shelf9)), (y4, .inl (cI, 40, .inl sold9)), (y5, .inl (cI, 40, .inl given9)), (y6, .inl (cI, 40, .inl cents9)), (yw, .inl (cQ, 3, .inr (.inr (.inr (.inr (xrow [yw0, yw1, yw2])))))), (yw0, .inl (cI, 40, .inl wa9)), (yw1, .inl (cI, 40, .inl wb9)), (yw2, .inl (cI, 40, .inl wc9))] := hD
  refine lv_iconst (v := nI 0) hx hb dX0_copyFrom_85 (by decide) ?_
  refine lv_istore_n (lv' := [(2, .int (nI 0)), (0, .ref h0), (1, .ref o0)]) hx hb dX0_copyFrom_86 rfl hl (by decide) rfl (fun ls hl => ?_)
  refine lv_iload_n hx hb dX0_copyFrom_87 rfl (lv_at hl 0 rfl) ?_
  refine lv_iconst (v := nI 3) hx hb dX0_copyFrom_88 (by decide) ?_
  refine xr_ge_n (a := 0) (b := 3) (tgt := 113) hx hb (by decide) (by decide) dX0_copyFrom_89 (by decide) (fun c9 => absurd c9 (by decide)) (fun _ => ?_)
  refine lv_aload_n hx hb dX0_copyFrom_92 rfl (lv_at hl 2 rfl) ?_
  refine va_get (D := (dC, dI)) (ci := 0) (v := .ref yw) (C := RX0) (T := TX0) (N := 9) hx hb hts i_X0 hown hK hP 12 rfl rfl 8 (by decide) k_35 (fun _ h9 => h9) rfl dX0_copyFrom_93 ?_
  refine lv_iload_n hx hb dX0_copyFrom_96 rfl (lv_at hl 0 rfl) ?_
  refine xr_aald hx hb hK hP 20 4 rfl rfl rfl (i := 0) (v := yw0) (by omega) (by decide) rfl dX0_copyFrom_97 ?_
  refine lv_aload_n hx hb dX0_copyFrom_98 rfl (lv_at hl 1 rfl) ?_
  refine va_get (D := (dC, dI)) (ci := 0) (v := .ref xw) (C := RX0) (T := TX0) (N := 9) hx hb hts i_X0 hown hK hP 0 rfl rfl 8 (by decide) k_35 (fun _ h9 => h9) rfl dX0_copyFrom_99 ?_
  refine lv_iload_n hx hb dX0_copyFrom_102 rfl (lv_at hl 0 rfl) ?_
  refine xr_aald hx hb hK hP 8 4 rfl rfl rfl (i := 0) (v := xw0) (by omega) (by decide) rfl dX0_copyFrom_103 ?_
  refine xkV2 (xSN (As := [.ref yw0, .ref xw0]) (rest := []) (wc := [(yw0, .inl (cI, 40, .inl wa9)), (xw0, .inl (cI, 40, .inl wa))]) hx hb hml hown hts (c_X9_copyRow l dC dI cI cF cC cZ cQ cS yw0 wa9 xw0 wa 40 (by omega)) 2 gX0_copyFrom_X9_copyRow_n42 rfl rfl rfl (hN (RX0, 42, yX9_copyRow) (List.mem_of_getElem? (i := 10) rfl)) ki_RX9 ks_X9_copyRow hdN_X9_copyRow ⟨Nat.le_of_ble_eq_true rfl, Nat.le_of_ble_eq_true rfl⟩ hN hK hP hD [21, 9] rfl rfl rfl hl.1 rfl (Nat.le_of_ble_eq_true rfl) dX0_copyFrom_104 ⟨Nat.zero_le _, Nat.zero_le _⟩) hP hD hS [21, 9] [0, 1, 2, 3, 4, 5, 6, 7, 8, 9, 10, 11, 12, 13, 14, 15, 16, 17, 18, 19, 20, 21, 22, 23] rfl rfl 24 rfl (by decide +kernel) (fun H locs hP hD hS => ?_)
  have hP : va_P (dC, dI) vwCl [(h0, .inr (0, [.int n9, .ref x0, .ref x1, .ref x2, .ref x3, .ref x4, .ref x5, .ref x6, .ref xw])), (x0, .inl (cI, 40, .inl good9)), (x1, .inl (cI, 40, .inl came9)), (x2, .inl (cI, 40, .inl left9)), (x3, .inl (cI, 40, .inl shelf9)), (x4, .inl (cI, 40, .inl sold9)), (x5, .inl (cI, 40, .inl given9)), (x6, .inl (cI, 40, .inl cents9)), (xw, .inl (cQ, 3, .inr (.inr (.inr (.inr (xrow [xw0, xw1, xw2])))))), (xw0, .inl (cI, 40, .inl wa9)), (xw1, .inl (cI, 40, .inl wb)), (xw2, .inl (cI, 40, .inl wc)), (o0, .inr (0, [.int n9, .ref y0, .ref y1, .ref y2, .ref y3, .ref y4, .ref y5, .ref y6, .ref yw])), (y0, .inl (cI, 40, .inl good9)), (y1, .inl (cI, 40, .inl came9)), (y2, .inl (cI, 40, .inl left9)), (y3, .inl (cI, 40, .inl shelf9)), (y4, .inl (cI, 40, .inl sold9)), (y5, .inl (cI, 40, .inl given9)), (y6, .inl (cI, 40, .inl cents9)), (yw, .inl (cQ, 3, .inr (.inr (.inr (.inr (xrow [yw0, yw1, yw2])))))), (yw0, .inl (cI, 40, .inl wa9)), (yw1, .inl (cI, 40, .inl wb9)), (yw2, .inl (cI, 40, .inl wc9))] H := hP
  have hD : va_D A [(h0, .inr (0, [.int n9, .ref x0, .ref x1, .ref x2, .ref x3, .ref x4, .ref x5, .ref x6, .ref xw])), (x0, .inl (cI, 40, .inl good9)), (x1, .inl (cI, 40, .inl came9)), (x2, .inl (cI, 40, .inl left9)), (x3, .inl (cI, 40, .inl shelf9)), (x4, .inl (cI, 40, .inl sold9)), (x5, .inl (cI, 40, .inl given9)), (x6, .inl (cI, 40, .inl cents9)), (xw, .inl (cQ, 3, .inr (.inr (.inr (.inr (xrow [xw0, xw1, xw2])))))), (xw0, .inl (cI, 40, .inl wa9)), (xw1, .inl (cI, 40, .inl wb)), (xw2, .inl (cI, 40, .inl wc)), (o0, .inr (0, [.int n9, .ref y0, .ref y1, .ref y2, .ref y3, .ref y4, .ref y5, .ref y6, .ref yw])), (y0, .inl (cI, 40, .inl good9)), (y1, .inl (cI, 40, .inl came9)), (y2, .inl (cI, 40, .inl left9)), (y3, .inl (cI, 40, .inl shelf9)), (y4, .inl (cI, 40, .inl sold9)), (y5, .inl (cI, 40, .inl given9)), (y6, .inl (cI, 40, .inl cents9)), (yw, .inl (cQ, 3, .inr (.inr (.inr (.inr (xrow [yw0, yw1, yw2])))))), (yw0, .inl (cI, 40, .inl wa9)), (yw1, .inl (cI, 40, .inl wb9)), (yw2, .inl (cI, 40, .inl wc9))] := hD
  refine lv_iinc (v := nI 1) (lv' := [(2, .int (nI 1)), (0, .ref h0), (1, .ref o0)]) hx hb dX0_copyFrom_107 hl (k := 0) rfl (nI_inc1 0) (by decide) rfl (fun ls hl => ?_)
  refine lv_goto (tgt := 87) hx hb dX0_copyFrom_110 (by decide) ?_
  refine lv_iload_n hx hb dX0_copyFrom_87 rfl (lv_at hl 0 rfl) ?_
  refine lv_iconst (v := nI 3) hx hb dX0_copyFrom_88 (by decide) ?_
  refine xr_ge_n (a := 1) (b := 3) (tgt := 113) hx hb (by decide) (by decide) dX0_copyFrom_89 (by decide) (fun c9 => absurd c9 (by decide)) (fun _ => ?_)
  refine lv_aload_n hx hb dX0_copyFrom_92 rfl (lv_at hl 2 rfl) ?_
  refine va_get (D := (dC, dI)) (ci := 0) (v := .ref yw) (C := RX0) (T := TX0) (N := 9) hx hb hts i_X0 hown hK hP 12 rfl rfl 8 (by decide) k_35 (fun _ h9 => h9) rfl dX0_copyFrom_93 ?_
  refine lv_iload_n hx hb dX0_copyFrom_96 rfl (lv_at hl 0 rfl) ?_
  refine xr_aald hx hb hK hP 20 4 rfl rfl rfl (i := 1) (v := yw1) (by omega) (by decide) rfl dX0_copyFrom_97 ?_
  refine lv_aload_n hx hb dX0_copyFrom_98 rfl (lv_at hl 1 rfl) ?_
  refine va_get (D := (dC, dI)) (ci := 0) (v := .ref xw) (C := RX0) (T := TX0) (N := 9) hx hb hts i_X0 hown hK hP 0 rfl rfl 8 (by decide) k_35 (fun _ h9 => h9) rfl dX0_copyFrom_99 ?_
  refine lv_iload_n hx hb dX0_copyFrom_102 rfl (lv_at hl 0 rfl) ?_
  refine xr_aald hx hb hK hP 8 4 rfl rfl rfl (i := 1) (v := xw1) (by omega) (by decide) rfl dX0_copyFrom_103 ?_
  refine xkV2 (xSN (As := [.ref yw1, .ref xw1]) (rest := []) (wc := [(yw1, .inl (cI, 40, .inl wb9)), (xw1, .inl (cI, 40, .inl wb))]) hx hb hml hown hts (c_X9_copyRow l dC dI cI cF cC cZ cQ cS yw1 wb9 xw1 wb 40 (by omega)) 2 gX0_copyFrom_X9_copyRow_n42 rfl rfl rfl (hN (RX0, 42, yX9_copyRow) (List.mem_of_getElem? (i := 10) rfl)) ki_RX9 ks_X9_copyRow hdN_X9_copyRow ⟨Nat.le_of_ble_eq_true rfl, Nat.le_of_ble_eq_true rfl⟩ hN hK hP hD [22, 10] rfl rfl rfl hl.1 rfl (Nat.le_of_ble_eq_true rfl) dX0_copyFrom_104 ⟨Nat.zero_le _, Nat.zero_le _⟩) hP hD hS [22, 10] [0, 1, 2, 3, 4, 5, 6, 7, 8, 9, 10, 11, 12, 13, 14, 15, 16, 17, 18, 19, 20, 21, 22, 23] rfl rfl 24 rfl (by decide +kernel) (fun H locs hP hD hS => ?_)
  have hP : va_P (dC, dI) vwCl [(h0, .inr (0, [.int n9, .ref x0, .ref x1, .ref x2, .ref x3, .ref x4, .ref x5, .ref x6, .ref xw])), (x0, .inl (cI, 40, .inl good9)), (x1, .inl (cI, 40, .inl came9)), (x2, .inl (cI, 40, .inl left9)), (x3, .inl (cI, 40, .inl shelf9)), (x4, .inl (cI, 40, .inl sold9)), (x5, .inl (cI, 40, .inl given9)), (x6, .inl (cI, 40, .inl cents9)), (xw, .inl (cQ, 3, .inr (.inr (.inr (.inr (xrow [xw0, xw1, xw2])))))), (xw0, .inl (cI, 40, .inl wa9)), (xw1, .inl (cI, 40, .inl wb9)), (xw2, .inl (cI, 40, .inl wc)), (o0, .inr (0, [.int n9, .ref y0, .ref y1, .ref y2, .ref y3, .ref y4, .ref y5, .ref y6, .ref yw])), (y0, .inl (cI, 40, .inl good9)), (y1, .inl (cI, 40, .inl came9)), (y2, .inl (cI, 40, .inl left9)), (y3, .inl (cI, 40, .inl shelf9)), (y4, .inl (cI, 40, .inl sold9)), (y5, .inl (cI, 40, .inl given9)), (y6, .inl (cI, 40, .inl cents9)), (yw, .inl (cQ, 3, .inr (.inr (.inr (.inr (xrow [yw0, yw1, yw2])))))), (yw0, .inl (cI, 40, .inl wa9)), (yw1, .inl (cI, 40, .inl wb9)), (yw2, .inl (cI, 40, .inl wc9))] H := hP
  have hD : va_D A [(h0, .inr (0, [.int n9, .ref x0, .ref x1, .ref x2, .ref x3, .ref x4, .ref x5, .ref x6, .ref xw])), (x0, .inl (cI, 40, .inl good9)), (x1, .inl (cI, 40, .inl came9)), (x2, .inl (cI, 40, .inl left9)), (x3, .inl (cI, 40, .inl shelf9)), (x4, .inl (cI, 40, .inl sold9)), (x5, .inl (cI, 40, .inl given9)), (x6, .inl (cI, 40, .inl cents9)), (xw, .inl (cQ, 3, .inr (.inr (.inr (.inr (xrow [xw0, xw1, xw2])))))), (xw0, .inl (cI, 40, .inl wa9)), (xw1, .inl (cI, 40, .inl wb9)), (xw2, .inl (cI, 40, .inl wc)), (o0, .inr (0, [.int n9, .ref y0, .ref y1, .ref y2, .ref y3, .ref y4, .ref y5, .ref y6, .ref yw])), (y0, .inl (cI, 40, .inl good9)), (y1, .inl (cI, 40, .inl came9)), (y2, .inl (cI, 40, .inl left9)), (y3, .inl (cI, 40, .inl shelf9)), (y4, .inl (cI, 40, .inl sold9)), (y5, .inl (cI, 40, .inl given9)), (y6, .inl (cI, 40, .inl cents9)), (yw, .inl (cQ, 3, .inr (.inr (.inr (.inr (xrow [yw0, yw1, yw2])))))), (yw0, .inl (cI, 40, .inl wa9)), (yw1, .inl (cI, 40, .inl wb9)), (yw2, .inl (cI, 40, .inl wc9))] := hD
  refine lv_iinc (v := nI 2) (lv' := [(2, .int (nI 2)), (0, .ref h0), (1, .ref o0)]) hx hb dX0_copyFrom_107 hl (k := 0) rfl (nI_inc1 1) (by decide) rfl (fun ls hl => ?_)
  refine lv_goto (tgt := 87) hx hb dX0_copyFrom_110 (by decide) ?_
  refine lv_iload_n hx hb dX0_copyFrom_87 rfl (lv_at hl 0 rfl) ?_
  refine lv_iconst (v := nI 3) hx hb dX0_copyFrom_88 (by decide) ?_
  refine xr_ge_n (a := 2) (b := 3) (tgt := 113) hx hb (by decide) (by decide) dX0_copyFrom_89 (by decide) (fun c9 => absurd c9 (by decide)) (fun _ => ?_)
  refine lv_aload_n hx hb dX0_copyFrom_92 rfl (lv_at hl 2 rfl) ?_
  refine va_get (D := (dC, dI)) (ci := 0) (v := .ref yw) (C := RX0) (T := TX0) (N := 9) hx hb hts i_X0 hown hK hP 12 rfl rfl 8 (by decide) k_35 (fun _ h9 => h9) rfl dX0_copyFrom_93 ?_
  refine lv_iload_n hx hb dX0_copyFrom_96 rfl (lv_at hl 0 rfl) ?_
  refine xr_aald hx hb hK hP 20 4 rfl rfl rfl (i := 2) (v := yw2) (by omega) (by decide) rfl dX0_copyFrom_97 ?_
  refine lv_aload_n hx hb dX0_copyFrom_98 rfl (lv_at hl 1 rfl) ?_
  refine va_get (D := (dC, dI)) (ci := 0) (v := .ref xw) (C := RX0) (T := TX0) (N := 9) hx hb hts i_X0 hown hK hP 0 rfl rfl 8 (by decide) k_35 (fun _ h9 => h9) rfl dX0_copyFrom_99 ?_
  refine lv_iload_n hx hb dX0_copyFrom_102 rfl (lv_at hl 0 rfl) ?_
  refine xr_aald hx hb hK hP 8 4 rfl rfl rfl (i := 2) (v := xw2) (by omega) (by decide) rfl dX0_copyFrom_103 ?_
  refine xkV2 (xSN (As := [.ref yw2, .ref xw2]) (rest := []) (wc := [(yw2, .inl (cI, 40, .inl wc9)), (xw2, .inl (cI, 40, .inl wc))]) hx hb hml hown hts (c_X9_copyRow l dC dI cI cF cC cZ cQ cS yw2 wc9 xw2 wc 40 (by omega)) 2 gX0_copyFrom_X9_copyRow_n42 rfl rfl rfl (hN (RX0, 42, yX9_copyRow) (List.mem_of_getElem? (i := 10) rfl)) ki_RX9 ks_X9_copyRow hdN_X9_copyRow ⟨Nat.le_of_ble_eq_true rfl, Nat.le_of_ble_eq_true rfl⟩ hN hK hP hD [23, 11] rfl rfl rfl hl.1 rfl (Nat.le_of_ble_eq_true rfl) dX0_copyFrom_104 ⟨Nat.zero_le _, Nat.zero_le _⟩) hP hD hS [23, 11] [0, 1, 2, 3, 4, 5, 6, 7, 8, 9, 10, 11, 12, 13, 14, 15, 16, 17, 18, 19, 20, 21, 22, 23] rfl rfl 24 rfl (by decide +kernel) (fun H locs hP hD hS => ?_)
  have hP : va_P (dC, dI) vwCl [(h0, .inr (0, [.int n9, .ref x0, .ref x1, .ref x2, .ref x3, .ref x4, .ref x5, .ref x6, .ref xw])), (x0, .inl (cI, 40, .inl good9)), (x1, .inl (cI, 40, .inl came9)), (x2, .inl (cI, 40, .inl left9)), (x3, .inl (cI, 40, .inl shelf9)), (x4, .inl (cI, 40, .inl sold9)), (x5, .inl (cI, 40, .inl given9)), (x6, .inl (cI, 40, .inl cents9)), (xw, .inl (cQ, 3, .inr (.inr (.inr (.inr (xrow [xw0, xw1, xw2])))))), (xw0, .inl (cI, 40, .inl wa9)), (xw1, .inl (cI, 40, .inl wb9)), (xw2, .inl (cI, 40, .inl wc9)), (o0, .inr (0, [.int n9, .ref y0, .ref y1, .ref y2, .ref y3, .ref y4, .ref y5, .ref y6, .ref yw])), (y0, .inl (cI, 40, .inl good9)), (y1, .inl (cI, 40, .inl came9)), (y2, .inl (cI, 40, .inl left9)), (y3, .inl (cI, 40, .inl shelf9)), (y4, .inl (cI, 40, .inl sold9)), (y5, .inl (cI, 40, .inl given9)), (y6, .inl (cI, 40, .inl cents9)), (yw, .inl (cQ, 3, .inr (.inr (.inr (.inr (xrow [yw0, yw1, yw2])))))), (yw0, .inl (cI, 40, .inl wa9)), (yw1, .inl (cI, 40, .inl wb9)), (yw2, .inl (cI, 40, .inl wc9))] H := hP
  have hD : va_D A [(h0, .inr (0, [.int n9, .ref x0, .ref x1, .ref x2, .ref x3, .ref x4, .ref x5, .ref x6, .ref xw])), (x0, .inl (cI, 40, .inl good9)), (x1, .inl (cI, 40, .inl came9)), (x2, .inl (cI, 40, .inl left9)), (x3, .inl (cI, 40, .inl shelf9)), (x4, .inl (cI, 40, .inl sold9)), (x5, .inl (cI, 40, .inl given9)), (x6, .inl (cI, 40, .inl cents9)), (xw, .inl (cQ, 3, .inr (.inr (.inr (.inr (xrow [xw0, xw1, xw2])))))), (xw0, .inl (cI, 40, .inl wa9)), (xw1, .inl (cI, 40, .inl wb9)), (xw2, .inl (cI, 40, .inl wc9)), (o0, .inr (0, [.int n9, .ref y0, .ref y1, .ref y2, .ref y3, .ref y4, .ref y5, .ref y6, .ref yw])), (y0, .inl (cI, 40, .inl good9)), (y1, .inl (cI, 40, .inl came9)), (y2, .inl (cI, 40, .inl left9)), (y3, .inl (cI, 40, .inl shelf9)), (y4, .inl (cI, 40, .inl sold9)), (y5, .inl (cI, 40, .inl given9)), (y6, .inl (cI, 40, .inl cents9)), (yw, .inl (cQ, 3, .inr (.inr (.inr (.inr (xrow [yw0, yw1, yw2])))))), (yw0, .inl (cI, 40, .inl wa9)), (yw1, .inl (cI, 40, .inl wb9)), (yw2, .inl (cI, 40, .inl wc9))] := hD
  refine lv_iinc (v := nI 3) (lv' := [(2, .int (nI 3)), (0, .ref h0), (1, .ref o0)]) hx hb dX0_copyFrom_107 hl (k := 0) rfl (nI_inc1 2) (by decide) rfl (fun ls hl => ?_)
  refine lv_goto (tgt := 87) hx hb dX0_copyFrom_110 (by decide) ?_
  refine lv_iload_n hx hb dX0_copyFrom_87 rfl (lv_at hl 0 rfl) ?_
  refine lv_iconst (v := nI 3) hx hb dX0_copyFrom_88 (by decide) ?_
  refine xr_ge_n (a := 3) (b := 3) (tgt := 113) hx hb (by decide) (by decide) dX0_copyFrom_89 (by decide) (fun _ => ?_) (fun c9 => absurd c9 (by decide))
  have hP9 : va_P (dC, dI) vwCl [(h0, .inr (0, [.int n9, .ref x0, .ref x1, .ref x2, .ref x3, .ref x4, .ref x5, .ref x6, .ref xw])), (x0, .inl (cI, 40, .inl good9)), (x1, .inl (cI, 40, .inl came9)), (x2, .inl (cI, 40, .inl left9)), (x3, .inl (cI, 40, .inl shelf9)), (x4, .inl (cI, 40, .inl sold9)), (x5, .inl (cI, 40, .inl given9)), (x6, .inl (cI, 40, .inl cents9)), (xw, .inl (cQ, 3, .inr (.inr (.inr (.inr (xrow [xw0, xw1, xw2])))))), (xw0, .inl (cI, 40, .inl wa9)), (xw1, .inl (cI, 40, .inl wb9)), (xw2, .inl (cI, 40, .inl wc9)), (o0, .inr (0, [.int n9, .ref y0, .ref y1, .ref y2, .ref y3, .ref y4, .ref y5, .ref y6, .ref yw])), (y0, .inl (cI, 40, .inl good9)), (y1, .inl (cI, 40, .inl came9)), (y2, .inl (cI, 40, .inl left9)), (y3, .inl (cI, 40, .inl shelf9)), (y4, .inl (cI, 40, .inl sold9)), (y5, .inl (cI, 40, .inl given9)), (y6, .inl (cI, 40, .inl cents9)), (yw, .inl (cQ, 3, .inr (.inr (.inr (.inr (xrow [yw0, yw1, yw2])))))), (yw0, .inl (cI, 40, .inl wa9)), (yw1, .inl (cI, 40, .inl wb9)), (yw2, .inl (cI, 40, .inl wc9))] H := hP
  have hS9 : va_S (va_B [(h0, .inr (0, [.int n, .ref x0, .ref x1, .ref x2, .ref x3, .ref x4, .ref x5, .ref x6, .ref xw])), (x0, .inl (cI, 40, .inl good)), (x1, .inl (cI, 40, .inl came)), (x2, .inl (cI, 40, .inl left)), (x3, .inl (cI, 40, .inl shelf)), (x4, .inl (cI, 40, .inl sold)), (x5, .inl (cI, 40, .inl given)), (x6, .inl (cI, 40, .inl cents)), (xw, .inl (cQ, 3, .inr (.inr (.inr (.inr (xrow [xw0, xw1, xw2])))))), (xw0, .inl (cI, 40, .inl wa)), (xw1, .inl (cI, 40, .inl wb)), (xw2, .inl (cI, 40, .inl wc)), (o0, .inr (0, [.int n9, .ref y0, .ref y1, .ref y2, .ref y3, .ref y4, .ref y5, .ref y6, .ref yw])), (y0, .inl (cI, 40, .inl good9)), (y1, .inl (cI, 40, .inl came9)), (y2, .inl (cI, 40, .inl left9)), (y3, .inl (cI, 40, .inl shelf9)), (y4, .inl (cI, 40, .inl sold9)), (y5, .inl (cI, 40, .inl given9)), (y6, .inl (cI, 40, .inl cents9)), (yw, .inl (cQ, 3, .inr (.inr (.inr (.inr (xrow [yw0, yw1, yw2])))))), (yw0, .inl (cI, 40, .inl wa9)), (yw1, .inl (cI, 40, .inl wb9)), (yw2, .inl (cI, 40, .inl wc9))]) s.heap H locs := by rw [← hA]; exact hS
  exact W.vret hx hb hr (fun t ht hW => ⟨⟨_, rfl, rfl, by rw [ht]; exact hP9⟩, hS9.X ht⟩) hS9.2.2 dX0_copyFrom_113
theorem hdV_X3_append : yX3_append.cls = RX3 ∧ yX3_append.cls ≠ "java/lang/invoke/MethodHandle" ∧ yX3_append.cls ≠ "java/lang/invoke/VarHandle" ∧ (parseMethodDescriptor yX3_append.desc).map (fun d => d.parameters.length) = some 2 := by decide +kernel
set_option maxHeartbeats 4000000 in
set_option maxRecDepth 100000 in
theorem c_X3_append (l : Launch) (dC : Nat → ClassId) (dI : Nat → Nat → Nat) (cI cF cC cZ cQ cS : ClassId) (h0 : Nat) (qprice : Nat) (qlife : Nat) (h0_listed : Value) (h0_list : Value) (price : Nat → Int32) (life : Nat → Int32) (n : Nat) (fp : Int32) (dl : Int32) (hn : n < 12) : Met l yX3_append wsX3_append ({ frames := 0, cells := 0, slots := 0, locals := 0 }) (xPre (dC, dI) vwCl [.ref h0, .int fp, .int dl] (xtys cI cF cC cZ cQ cS) [(h0, .inr (3, [.int (nI n), .ref qprice, .ref qlife, h0_listed, h0_list])), (qprice, .inl (cI, 12, .inl price)), (qlife, .inl (cI, 12, .inl life))]) (xWi (dC, dI) vwCl [(h0, .inr (3, [.int (nI n), .ref qprice, .ref qlife, h0_listed, h0_list])), (qprice, .inl (cI, 12, .inl price)), (qlife, .inl (cI, 12, .inl life))] (fun r0 w0 => r0 = nI n ∧ w0 = [(h0, .inr (3, [.int (nI (n + 1)), .ref qprice, .ref qlife, h0_listed, h0_list])), (qprice, .inl (cI, 12, .inl (upd price n fp))), (qlife, .inl (cI, 12, .inl (upd life n dl)))])) 0 0 (va_B [(h0, .inr (3, [.int (nI n), .ref qprice, .ref qlife, h0_listed, h0_list])), (qprice, .inl (cI, 12, .inl price)), (qlife, .inl (cI, 12, .inl life))]) := by
  refine Met.ofW (cc := cX3_append) (maxL := 4) (ret := (some .int)) (by decide) rfl ?_
  intro p e s m args below meth c s₁ B hml hv
  obtain ⟨rfl, hP, hK, hD0, hN⟩ := hv
  have hx := B.exec
  have hb := B.bytes
  have hr := B.returns
  have hts := atoms_spec (ws := wsX3_append) B.pre
  have hown : s.vm.findClass RX3 = some m.cls := findClass_of_methodNamed B.named
  have hlocks := B.notSynchronized
  have k_15 := hts (Cond.fieldLink RX3 15 "ShelfStages$Goods" "life" "[I") (by decide +kernel)
  have k_24 := hts (Cond.fieldLink RX3 24 "ShelfStages$Goods" "size" "I") (by decide +kernel)
  have k_9 := hts (Cond.fieldLink RX3 9 "ShelfStages$Goods" "price" "[I") (by decide +kernel)
  have i_X3 : ∀ w ∈ wsX30, w ∈ wsX3_append := by decide +kernel
  obtain ⟨A, hA⟩ : ∃ A, A = va_B [(h0, .inr (3, [.int (nI n), .ref qprice, .ref qlife, h0_listed, h0_list])), (qprice, .inl (cI, 12, .inl price)), (qlife, .inl (cI, 12, .inl life))] := ⟨_, rfl⟩
  have hD : va_D A [(h0, .inr (3, [.int (nI n), .ref qprice, .ref qlife, h0_listed, h0_list])), (qprice, .inl (cI, 12, .inl price)), (qlife, .inl (cI, 12, .inl life))] := hA ▸ hD0.own
  have hS : va_S A s.heap s.heap [] := va_S.rf
  have hl := lv_entry ([.ref h0, .int fp, .int dl]) (n := 4) (Nat.le_of_ble_eq_true rfl)
  rw [lg_entry_eq]
  generalize (lg_sl ([.ref h0, .int fp, .int dl]) ++ List.replicate (4 - (lg_sl ([.ref h0, .int fp, .int dl])).length) Slot.unset).toArray = ls at hl ⊢
  have hl : lv_has ls 4 [(0, .ref h0), (1, .int fp), (2, .int dl)] := hl
  refine lv_aload_n hx hb dX3_append_0 rfl (lv_at hl 0 rfl) ?_
  refine va_get (D := (dC, dI)) (ci := 3) (v := .int (nI n)) (C := RX3) (T := TX3) (N := 5) hx hb hts i_X3 hown hK hP 0 rfl rfl 0 (by decide) k_24 (fun _ h9 => h9) rfl dX3_append_1 ?_
  refine lv_istore_n (lv' := [(3, .int (nI n)), (0, .ref h0), (1, .int fp), (2, .int dl)]) hx hb dX3_append_4 rfl hl (by decide) rfl (fun ls hl => ?_)
  refine lv_aload_n hx hb dX3_append_5 rfl (lv_at hl 1 rfl) ?_
  refine va_get (D := (dC, dI)) (ci := 3) (v := .ref qprice) (C := RX3) (T := TX3) (N := 5) hx hb hts i_X3 hown hK hP 0 rfl rfl 1 (by decide) k_9 (fun _ h9 => h9) rfl dX3_append_6 ?_
  refine lv_iload_n hx hb dX3_append_9 rfl (lv_at hl 0 rfl) ?_
  refine lv_iload_n hx hb dX3_append_10 rfl (lv_at hl 2 rfl) ?_
  refine xr_iast hx hb hK hP hD hS 1 0 rfl rfl (i := n) (by omega) (by decide) dX3_append_11 (fun H locs hP hD hS => ?_)
  have hP : va_P (dC, dI) vwCl [(h0, .inr (3, [.int (nI n), .ref qprice, .ref qlife, h0_listed, h0_list])), (qprice, .inl (cI, 12, .inl (upd price n fp))), (qlife, .inl (cI, 12, .inl life))] H := hP
  have hD : va_D A [(h0, .inr (3, [.int (nI n), .ref qprice, .ref qlife, h0_listed, h0_list])), (qprice, .inl (cI, 12, .inl (upd price n fp))), (qlife, .inl (cI, 12, .inl life))] := hD
  refine lv_aload_n hx hb dX3_append_12 rfl (lv_at hl 1 rfl) ?_
  refine va_get (D := (dC, dI)) (ci := 3) (v := .ref qlife) (C := RX3) (T := TX3) (N := 5) hx hb hts i_X3 hown hK hP 0 rfl rfl 2 (by decide) k_15 (fun _ h9 => h9) rfl dX3_append_13 ?_
  refine lv_iload_n hx hb dX3_append_16 rfl (lv_at hl 0 rfl) ?_
  refine lv_iload_n hx hb dX3_append_17 rfl (lv_at hl 3 rfl) ?_
  refine xr_iast hx hb hK hP hD hS 2 0 rfl rfl (i := n) (by omega) (by decide) dX3_append_18 (fun H locs hP hD hS => ?_)
  have hP : va_P (dC, dI) vwCl [(h0, .inr (3, [.int (nI n), .ref qprice, .ref qlife, h0_listed, h0_list])), (qprice, .inl (cI, 12, .inl (upd price n fp))), (qlife, .inl (cI, 12, .inl (upd life n dl)))] H := hP
  have hD : va_D A [(h0, .inr (3, [.int (nI n), .ref qprice, .ref qlife, h0_listed, h0_list])), (qprice, .inl (cI, 12, .inl (upd price n fp))), (qlife, .inl (cI, 12, .inl (upd life n dl)))] := hD
  refine lv_aload_n hx hb dX3_append_19 rfl (lv_at hl 1 rfl) ?_
  refine lv_dup hx hb dX3_append_20 rfl ?_
  refine va_get (D := (dC, dI)) (ci := 3) (v := .int (nI n)) (C := RX3) (T := TX3) (N := 5) hx hb hts i_X3 hown hK hP 0 rfl rfl 0 (by decide) k_24 (fun _ h9 => h9) rfl dX3_append_21 ?_
  refine lv_iconst (v := nI 1) hx hb dX3_append_24 (by decide) ?_
  refine xr_iadd_n hx hb dX3_append_25 ?_
  refine va_put (D := (dC, dI)) (ci := 3) (v := .int (nI (n + 1))) (ty := .int) (C := RX3) (T := TX3) (N := 5) hx hb hts i_X3 tyX3 tyX3_ok nmX3 hown hK hP hD hS 0 rfl rfl 0 (by decide) k_24 (fun _ h9 => h9) rfl (by decide +kernel) rfl rfl (Nat.le_of_ble_eq_true rfl) dX3_append_26 (fun H locs hP hD hS => ?_)
  have hP : va_P (dC, dI) vwCl [(h0, .inr (3, [.int (nI (n + 1)), .ref qprice, .ref qlife, h0_listed, h0_list])), (qprice, .inl (cI, 12, .inl (upd price n fp))), (qlife, .inl (cI, 12, .inl (upd life n dl)))] H := hP
  have hD : va_D A [(h0, .inr (3, [.int (nI (n + 1)), .ref qprice, .ref qlife, h0_listed, h0_list])), (qprice, .inl (cI, 12, .inl (upd price n fp))), (qlife, .inl (cI, 12, .inl (upd life n dl)))] := hD
  refine lv_iload_n hx hb dX3_append_29 rfl (lv_at hl 0 rfl) ?_
  have hP9 : va_P (dC, dI) vwCl [(h0, .inr (3, [.int (nI (n + 1)), .ref qprice, .ref qlife, h0_listed, h0_list])), (qprice, .inl (cI, 12, .inl (upd price n fp))), (qlife, .inl (cI, 12, .inl (upd life n dl)))] H := hP
  have hS9 : va_S (va_B [(h0, .inr (3, [.int (nI n), .ref qprice, .ref qlife, h0_listed, h0_list])), (qprice, .inl (cI, 12, .inl price)), (qlife, .inl (cI, 12, .inl life))]) s.heap H locs := by rw [← hA]; exact hS
  exact W.iret (v := nI n) hx hb hr (fun t ht hW => ⟨⟨_, _, rfl, ⟨(show nI n = nI n from rfl), rfl⟩, by rw [ht]; exact hP9⟩, hS9.X ht⟩) hS9.2.2 dX3_append_30
theorem hdV_X3_listedAt : yX3_listedAt.cls = RX3 ∧ yX3_listedAt.cls ≠ "java/lang/invoke/MethodHandle" ∧ yX3_listedAt.cls ≠ "java/lang/invoke/VarHandle" ∧ (parseMethodDescriptor yX3_listedAt.desc).map (fun d => d.parameters.length) = some 2 := by decide +kernel
set_option maxHeartbeats 4000000 in
set_option maxRecDepth 100000 in
theorem c_X3_listedAt (l : Launch) (dC : Nat → ClassId) (dI : Nat → Nat → Nat) (cI cF cC cZ cQ cS : ClassId) (h0 : Nat) (h0_size : Value) (h0_price : Value) (h0_life : Value) (h0_listed : Value) (qlist : Nat) (list : Nat → Int32) (gd : Nat) (pl : Nat) (hg : gd * 4 + pl < 48) : Met l yX3_listedAt wsX3_listedAt ({ frames := 0, cells := 0, slots := 0, locals := 0 }) (xPre (dC, dI) vwCl [.ref h0, .int (nI gd), .int (nI pl)] (xtys cI cF cC cZ cQ cS) [(h0, .inr (3, [h0_size, h0_price, h0_life, h0_listed, .ref qlist])), (qlist, .inl (cI, 48, .inl list))]) (vp_Si (fun r0 => r0 = list (gd * 4 + pl))) 0 0 (fun _ => False) := by
  refine Met.ofW (cc := cX3_listedAt) (maxL := 3) (ret := (some .int)) (by decide) rfl ?_
  intro p e s m args below meth c s₁ B hml hv
  obtain ⟨rfl, hP, hK, hD0, hN⟩ := hv
  have hx := B.exec
  have hb := B.bytes
  have hr := B.returns
  have hts := atoms_spec (ws := wsX3_listedAt) B.pre
  have hown : s.vm.findClass RX3 = some m.cls := findClass_of_methodNamed B.named
  have hlocks := B.notSynchronized
  have k_21 := hts (Cond.fieldLink RX3 21 "ShelfStages$Goods" "list" "[I") (by decide +kernel)
  have i_X3 : ∀ w ∈ wsX30, w ∈ wsX3_listedAt := by decide +kernel
  have hD := hD0
  have hl := lv_entry ([.ref h0, .int (nI gd), .int (nI pl)]) (n := 3) (Nat.le_of_ble_eq_true rfl)
  rw [lg_entry_eq]
  generalize (lg_sl ([.ref h0, .int (nI gd), .int (nI pl)]) ++ List.replicate (3 - (lg_sl ([.ref h0, .int (nI gd), .int (nI pl)])).length) Slot.unset).toArray = ls at hl ⊢
  have hl : lv_has ls 3 [(0, .ref h0), (1, .int (nI gd)), (2, .int (nI pl))] := hl
  refine lv_aload_n hx hb dX3_listedAt_0 rfl (lv_at hl 0 rfl) ?_
  refine va_get (D := (dC, dI)) (ci := 3) (v := .ref qlist) (C := RX3) (T := TX3) (N := 5) hx hb hts i_X3 hown hK hP 0 rfl rfl 4 (by decide) k_21 (fun _ h9 => h9) rfl dX3_listedAt_1 ?_
  refine lv_iload_n hx hb dX3_listedAt_4 rfl (lv_at hl 1 rfl) ?_
  refine lv_iconst (v := nI 4) hx hb dX3_listedAt_5 (by decide) ?_
  refine xr_imul_n hx hb dX3_listedAt_6 ?_
  refine lv_iload_n hx hb dX3_listedAt_7 rfl (lv_at hl 2 rfl) ?_
  refine xr_iadd_n hx hb dX3_listedAt_8 ?_
  refine xr_iald hx hb hK hP 1 0 rfl rfl (i := (gd * 4) + pl) (by omega) (by decide) dX3_listedAt_9 ?_
  exact W.iret (v := list ((gd * 4) + pl)) hx hb hr (fun t ht hW => ⟨_, rfl, (show list ((gd * 4) + pl) = list (gd * 4 + pl) from rfl), ht⟩) (fun q h => by cases h) dX3_listedAt_10
theorem hdV_X3_lists : yX3_lists.cls = RX3 ∧ yX3_lists.cls ≠ "java/lang/invoke/MethodHandle" ∧ yX3_lists.cls ≠ "java/lang/invoke/VarHandle" ∧ (parseMethodDescriptor yX3_lists.desc).map (fun d => d.parameters.length) = some 2 := by decide +kernel
set_option maxHeartbeats 4000000 in
set_option maxRecDepth 100000 in
theorem c_X3_lists (l : Launch) (dC : Nat → ClassId) (dI : Nat → Nat → Nat) (cI cF cC cZ cQ cS : ClassId) (h0 : Nat) (h0_size : Value) (h0_price : Value) (h0_life : Value) (qlisted : Nat) (qlist : Nat) (listed : Nat → Int32) (list : Nat → Int32) (gd : Nat) (k9 : Nat) (sb : Int32) (hg : gd < 12) (hlg : listed gd = nI k9) (hm : k9 ≤ 4) : Met l yX3_lists wsX3_lists ({ frames := 1, cells := 0, slots := 0, locals := 22 }) (xPre (dC, dI) vwCl [.ref h0, .int (nI gd), .int sb] (xtys cI cF cC cZ cQ cS) [(h0, .inr (3, [h0_size, h0_price, h0_life, .ref qlisted, .ref qlist])), (qlisted, .inl (cI, 12, .inl listed)), (qlist, .inl (cI, 48, .inl list))]) (vp_Si (fun r0 => r0 = (if ∃ j, j < k9 ∧ list (gd * 4 + j) = sb then nI 1 else nI 0))) 0 0 (fun _ => False) := by
  refine Met.ofW (cc := cX3_lists) (maxL := 4) (ret := (some .boolean)) (by decide) rfl ?_
  intro p e s m args below meth c s₁ B hml hv
  obtain ⟨rfl, hP, hK, hD0, hN⟩ := hv
  have hx := B.exec
  have hb := B.bytes
  have hr := B.returns
  have hts := atoms_spec (ws := wsX3_lists) B.pre
  have hown : s.vm.findClass RX3 = some m.cls := findClass_of_methodNamed B.named
  have hlocks := B.notSynchronized
  have k_18 := hts (Cond.fieldLink RX3 18 "ShelfStages$Goods" "listed" "[I") (by decide +kernel)
  have i_X3 : ∀ w ∈ wsX30, w ∈ wsX3_lists := by decide +kernel
  have hD := hD0
  have hl := lv_entry ([.ref h0, .int (nI gd), .int sb]) (n := 4) (Nat.le_of_ble_eq_true rfl)
  rw [lg_entry_eq]
  generalize (lg_sl ([.ref h0, .int (nI gd), .int sb]) ++ List.replicate (4 - (lg_sl ([.ref h0, .int (nI gd), .int sb])).length) Slot.unset).toArray = ls at hl ⊢
  have hl : lv_has ls 4 [(0, .ref h0), (1, .int (nI gd)), (2, .int sb)] := hl
  refine lv_iconst (v := nI 0) hx hb dX3_lists_0 (by decide) ?_
  refine lv_istore_n (lv' := [(3, .int (nI 0)), (0, .ref h0), (1, .int (nI gd)), (2, .int sb)]) hx hb dX3_lists_1 rfl hl (by decide) rfl (fun ls hl => ?_)
  refine xr_loop (J := Nat) (fun n0 H locs g => ∃ (k : Nat) (ls : Array Slot), H = s.heap ∧ locs = [] ∧ n0 = k9 - k ∧ g = F0 m 2 ls [] ∧ lv_has ls 4 [(3, .int (nI k)), (0, .ref h0), (1, .int (nI gd)), (2, .int sb)] ∧ (k ≤ k9) ∧ (∀ j, j < k → ¬ list (gd * 4 + j) = sb)) (fun n => n) ?_ (k9 - 0) (g := F0 m 2 ls []) ⟨0, ls, rfl, rfl, rfl, rfl, lv_sub hl [0, 1, 2, 3] rfl, (Nat.zero_le _), (fun j hj => absurd hj (Nat.not_lt_zero j))⟩
  intro n0 ih_2 H locs g hp
  obtain ⟨k, ls, rfl, rfl, rfl, rfl, hl, hk, hne⟩ := hp
  refine lv_iload_n hx hb dX3_lists_2 rfl (lv_at hl 0 rfl) ?_
  refine lv_aload_n hx hb dX3_lists_3 rfl (lv_at hl 1 rfl) ?_
  refine va_get (D := (dC, dI)) (ci := 3) (v := .ref qlisted) (C := RX3) (T := TX3) (N := 5) hx hb hts i_X3 hown hK hP 0 rfl rfl 3 (by decide) k_18 (fun _ h9 => h9) rfl dX3_lists_4 ?_
  refine lv_iload_n hx hb dX3_lists_7 rfl (lv_at hl 2 rfl) ?_
  refine xr_iald hx hb hK hP 1 0 rfl rfl (i := gd) (by omega) (by decide) dX3_lists_8 ?_
  refine xr_top (show listed gd = nI k9 from hlg) ?_
  refine xr_ge_n (tgt := 30) hx hb (by omega) (by omega) dX3_lists_9 (by decide) (fun c_1 => ?_) (fun c_1 => ?_)
  · skip
    refine lv_iconst (v := nI 0) hx hb dX3_lists_30 (by decide) ?_
    exact W.zret (v := nI 0) hx hb hr rfl (fun t ht hW => ⟨_, rfl, (show nI 0 = (if ∃ j, j < k9 ∧ list (gd * 4 + j) = sb then nI 1 else nI 0) from (if_neg (fun ⟨j, h1, h2⟩ => hne j (by omega) h2)).symm), ht⟩) (fun q h => by cases h) dX3_lists_31
  refine lv_aload_n hx hb dX3_lists_12 rfl (lv_at hl 1 rfl) ?_
  refine lv_iload_n hx hb dX3_lists_13 rfl (lv_at hl 2 rfl) ?_
  refine lv_iload_n hx hb dX3_lists_14 rfl (lv_at hl 0 rfl) ?_
  refine xkRi (xV (As := [.int (nI gd), .int (nI k)]) (rest := []) (wc := [(h0, .inr (3, [h0_size, h0_price, h0_life, .ref qlisted, .ref qlist])), (qlist, .inl (cI, 48, .inl list))]) hx hb hml hown hts (c_X3_listedAt l dC dI cI cF cC cZ cQ cS h0 h0_size h0_price h0_life (.ref qlisted) qlist list gd k (by omega)) 2 gX3_lists_X3_listedAt rfl rfl rfl hdV_X3_listedAt ⟨Nat.le_of_ble_eq_true rfl, Nat.le_of_ble_eq_true rfl⟩ hN hK hP hD [0, 2] rfl rfl 3 0 rfl rfl rfl hl.1 rfl (Nat.le_of_ble_eq_true rfl) dX3_lists_15 ⟨Nat.zero_le _, Nat.zero_le _⟩) (fun r_2 hr_2 => ?_)
  obtain rfl : r_2 = list (gd * 4 + k) := hr_2
  refine lv_iload_n hx hb dX3_lists_18 rfl (lv_at hl 3 rfl) ?_
  refine lv_icmp_ne (tgt := 24) hx hb dX3_lists_19 (by decide) (fun c_3 => ?_) (fun c_3 => ?_)
  · skip
    refine lv_iinc (v := nI (k + 1)) (lv' := [(3, .int (nI (k + 1))), (0, .ref h0), (1, .int (nI gd)), (2, .int sb)]) hx hb dX3_lists_24 hl (k := 0) rfl (nI_inc1 k) (by decide) rfl (fun ls hl => ?_)
    refine lv_goto (tgt := 2) hx hb dX3_lists_27 (by decide) ?_
    exact ih_2 (k9 - (k + 1)) _ _ _ (show k9 - (k + 1) < k9 - k from by omega) ⟨(k + 1), ls, rfl, rfl, rfl, rfl, lv_sub hl [0, 1, 2, 3] rfl, (by omega), (fun j hj => by rcases (show j < k ∨ j = k by omega) with q | q; exact hne j q; rw [q]; exact c_3)⟩
  refine lv_iconst (v := nI 1) hx hb dX3_lists_22 (by decide) ?_
  exact W.zret (v := nI 1) hx hb hr rfl (fun t ht hW => ⟨_, rfl, (show nI 1 = (if ∃ j, j < k9 ∧ list (gd * 4 + j) = sb then nI 1 else nI 0) from (if_pos ⟨k, by omega, c_3⟩).symm), ht⟩) (fun q h => by cases h) dX3_lists_23
theorem hdV_X3_insert : yX3_insert.cls = RX3 ∧ yX3_insert.cls ≠ "java/lang/invoke/MethodHandle" ∧ yX3_insert.cls ≠ "java/lang/invoke/VarHandle" ∧ (parseMethodDescriptor yX3_insert.desc).map (fun d => d.parameters.length) = some 3 := by decide +kernel
set_option maxHeartbeats 4000000 in
set_option maxRecDepth 100000 in
theorem c_X3_insert (l : Launch) (dC : Nat → ClassId) (dI : Nat → Nat → Nat) (cI cF cC cZ cQ cS : ClassId) (h0 : Nat) (h0_size : Value) (h0_price : Value) (h0_life : Value) (qlisted : Nat) (qlist : Nat) (listed : Nat → Int32) (list : Nat → Int32) (gd : Nat) (k9 : Nat) (sb : Int32) (pl : Nat) (hg : gd < 12) (hlg : listed gd = nI k9) (hm : k9 < 4) (hpl : pl ≤ k9) : Met l yX3_insert wsX3_insert ({ frames := 0, cells := 0, slots := 0, locals := 0 }) (xPre (dC, dI) vwCl [.ref h0, .int (nI gd), .int sb, .int (nI pl)] (xtys cI cF cC cZ cQ cS) [(h0, .inr (3, [h0_size, h0_price, h0_life, .ref qlisted, .ref qlist])), (qlisted, .inl (cI, 12, .inl listed)), (qlist, .inl (cI, 48, .inl list))]) (xWv (dC, dI) vwCl [(h0, .inr (3, [h0_size, h0_price, h0_life, .ref qlisted, .ref qlist])), (qlisted, .inl (cI, 12, .inl listed)), (qlist, .inl (cI, 48, .inl list))] (fun w0 => w0 = [(h0, .inr (3, [h0_size, h0_price, h0_life, .ref qlisted, .ref qlist])), (qlisted, .inl (cI, 12, .inl (upd listed gd (nI (k9 + 1))))), (qlist, .inl (cI, 48, .inl (xins list (gd * 4) k9 pl sb)))])) 0 0 (va_B [(h0, .inr (3, [h0_size, h0_price, h0_life, .ref qlisted, .ref qlist])), (qlisted, .inl (cI, 12, .inl listed)), (qlist, .inl (cI, 48, .inl list))]) := by
  refine Met.ofW (cc := cX3_insert) (maxL := 6) (ret := none) (by decide) rfl ?_
  intro p e s m args below meth c s₁ B hml hv
  obtain ⟨rfl, hP, hK, hD0, hN⟩ := hv
  have hx := B.exec
  have hb := B.bytes
  have hr := B.returns
  have hts := atoms_spec (ws := wsX3_insert) B.pre
  have hown : s.vm.findClass RX3 = some m.cls := findClass_of_methodNamed B.named
  have hlocks := B.notSynchronized
  have k_18 := hts (Cond.fieldLink RX3 18 "ShelfStages$Goods" "listed" "[I") (by decide +kernel)
  have k_21 := hts (Cond.fieldLink RX3 21 "ShelfStages$Goods" "list" "[I") (by decide +kernel)
  have i_X3 : ∀ w ∈ wsX30, w ∈ wsX3_insert := by decide +kernel
  obtain ⟨A, hA⟩ : ∃ A, A = va_B [(h0, .inr (3, [h0_size, h0_price, h0_life, .ref qlisted, .ref qlist])), (qlisted, .inl (cI, 12, .inl listed)), (qlist, .inl (cI, 48, .inl list))] := ⟨_, rfl⟩
  have hD : va_D A [(h0, .inr (3, [h0_size, h0_price, h0_life, .ref qlisted, .ref qlist])), (qlisted, .inl (cI, 12, .inl listed)), (qlist, .inl (cI, 48, .inl list))] := hA ▸ hD0.own
  have hS : va_S A s.heap s.heap [] := va_S.rf
  have hl := lv_entry ([.ref h0, .int (nI gd), .int sb, .int (nI pl)]) (n := 6) (Nat.le_of_ble_eq_true rfl)
  rw [lg_entry_eq]
  generalize (lg_sl ([.ref h0, .int (nI gd), .int sb, .int (nI pl)]) ++ List.replicate (6 - (lg_sl ([.ref h0, .int (nI gd), .int sb, .int (nI pl)])).length) Slot.unset).toArray = ls at hl ⊢
  have hl : lv_has ls 6 [(0, .ref h0), (1, .int (nI gd)), (2, .int sb), (3, .int (nI pl))] := hl
  refine lv_iload_n hx hb dX3_insert_0 rfl (lv_at hl 1 rfl) ?_
  refine lv_iconst (v := nI 4) hx hb dX3_insert_1 (by decide) ?_
  refine xr_imul_n hx hb dX3_insert_2 ?_
  refine lv_istore (lv' := [(4, .int (nI (gd * 4))), (0, .ref h0), (1, .int (nI gd)), (2, .int sb), (3, .int (nI pl))]) hx hb dX3_insert_3 hl (by decide) rfl (fun ls hl => ?_)
  refine lv_aload_n hx hb dX3_insert_5 rfl (lv_at hl 1 rfl) ?_
  refine va_get (D := (dC, dI)) (ci := 3) (v := .ref qlisted) (C := RX3) (T := TX3) (N := 5) hx hb hts i_X3 hown hK hP 0 rfl rfl 3 (by decide) k_18 (fun _ h9 => h9) rfl dX3_insert_6 ?_
  refine lv_iload_n hx hb dX3_insert_9 rfl (lv_at hl 2 rfl) ?_
  refine xr_iald hx hb hK hP 1 0 rfl rfl (i := gd) (by omega) (by decide) dX3_insert_10 ?_
  refine xr_top (show listed gd = nI k9 from hlg) ?_
  refine lv_istore (lv' := [(5, .int (nI k9)), (4, .int (nI (gd * 4))), (0, .ref h0), (1, .int (nI gd)), (2, .int sb), (3, .int (nI pl))]) hx hb dX3_insert_11 hl (by decide) rfl (fun ls hl => ?_)
  refine xr_loop (J := Nat) (fun n0 H locs g => ∃ (k : Nat) (lf : Nat → Int32) (ls : Array Slot), n0 = k + 1 ∧ g = F0 m 13 ls [] ∧ lv_has ls 6 [(5, .int (nI k)), (4, .int (nI (gd * 4))), (0, .ref h0), (1, .int (nI gd)), (2, .int sb), (3, .int (nI pl))] ∧ va_P (dC, dI) vwCl [(h0, .inr (3, [h0_size, h0_price, h0_life, .ref qlisted, .ref qlist])), (qlisted, .inl (cI, 12, .inl listed)), (qlist, .inl (cI, 48, .inl lf))] H ∧ va_D A [(h0, .inr (3, [h0_size, h0_price, h0_life, .ref qlisted, .ref qlist])), (qlisted, .inl (cI, 12, .inl listed)), (qlist, .inl (cI, 48, .inl lf))] ∧ va_S A s.heap H locs ∧ (k ≤ k9 ∧ pl ≤ k) ∧ (lf = xshr list (gd * 4) k9 k)) (fun n => n) ?_ (k9 + 1) (g := F0 m 13 ls []) ⟨k9, list, ls, rfl, rfl, lv_sub hl [0, 1, 2, 3, 4, 5] rfl, hP, hD, hS, (⟨Nat.le_refl _, hpl⟩), (xshr_0 _ _ _)⟩
  intro n0 ih_13 H locs g hp
  obtain ⟨k, lf, ls, rfl, rfl, hl, hP, hD, hS, hk, hlf⟩ := hp
  refine lv_iload hx hb dX3_insert_13 (lv_at hl 0 rfl) ?_
  refine lv_iload_n hx hb dX3_insert_15 rfl (lv_at hl 5 rfl) ?_
  refine xr_le_n (tgt := 47) hx hb (by omega) (by omega) dX3_insert_16 (by decide) (fun c_1 => ?_) (fun c_1 => ?_)
  · skip
    refine lv_aload_n hx hb dX3_insert_47 rfl (lv_at hl 2 rfl) ?_
    refine va_get (D := (dC, dI)) (ci := 3) (v := .ref qlist) (C := RX3) (T := TX3) (N := 5) hx hb hts i_X3 hown hK hP 0 rfl rfl 4 (by decide) k_21 (fun _ h9 => h9) rfl dX3_insert_48 ?_
    refine lv_iload hx hb dX3_insert_51 (lv_at hl 1 rfl) ?_
    refine lv_iload_n hx hb dX3_insert_53 rfl (lv_at hl 5 rfl) ?_
    refine xr_iadd_n hx hb dX3_insert_54 ?_
    refine lv_iload_n hx hb dX3_insert_55 rfl (lv_at hl 4 rfl) ?_
    refine xr_iast hx hb hK hP hD hS 2 0 rfl rfl (i := (gd * 4) + pl) (by omega) (by decide) dX3_insert_56 (fun H locs hP hD hS => ?_)
    have hP : va_P (dC, dI) vwCl [(h0, .inr (3, [h0_size, h0_price, h0_life, .ref qlisted, .ref qlist])), (qlisted, .inl (cI, 12, .inl listed)), (qlist, .inl (cI, 48, .inl (upd lf ((gd * 4) + pl) sb)))] H := hP
    have hD : va_D A [(h0, .inr (3, [h0_size, h0_price, h0_life, .ref qlisted, .ref qlist])), (qlisted, .inl (cI, 12, .inl listed)), (qlist, .inl (cI, 48, .inl (upd lf ((gd * 4) + pl) sb)))] := hD
    refine lv_aload_n hx hb dX3_insert_57 rfl (lv_at hl 2 rfl) ?_
    refine va_get (D := (dC, dI)) (ci := 3) (v := .ref qlisted) (C := RX3) (T := TX3) (N := 5) hx hb hts i_X3 hown hK hP 0 rfl rfl 3 (by decide) k_18 (fun _ h9 => h9) rfl dX3_insert_58 ?_
    refine lv_iload_n hx hb dX3_insert_61 rfl (lv_at hl 3 rfl) ?_
    refine lv_dup2_11 hx hb dX3_insert_62 rfl rfl ?_
    refine xr_iald hx hb hK hP 1 0 rfl rfl (i := gd) (by omega) (by decide) dX3_insert_63 ?_
    refine xr_top (show listed gd = nI k9 from hlg) ?_
    refine lv_iconst (v := nI 1) hx hb dX3_insert_64 (by decide) ?_
    refine xr_iadd_n hx hb dX3_insert_65 ?_
    refine xr_iast hx hb hK hP hD hS 1 0 rfl rfl (i := gd) (by omega) (by decide) dX3_insert_66 (fun H locs hP hD hS => ?_)
    have hP : va_P (dC, dI) vwCl [(h0, .inr (3, [h0_size, h0_price, h0_life, .ref qlisted, .ref qlist])), (qlisted, .inl (cI, 12, .inl (upd listed gd (nI (k9 + 1))))), (qlist, .inl (cI, 48, .inl (upd lf ((gd * 4) + pl) sb)))] H := hP
    have hD : va_D A [(h0, .inr (3, [h0_size, h0_price, h0_life, .ref qlisted, .ref qlist])), (qlisted, .inl (cI, 12, .inl (upd listed gd (nI (k9 + 1))))), (qlist, .inl (cI, 48, .inl (upd lf ((gd * 4) + pl) sb)))] := hD
    have hkn : pl = k := by omega
    subst hkn
    subst hlf
    rw [xshr_ins (by omega)] at hP
    have hP9 : va_P (dC, dI) vwCl [(h0, .inr (3, [h0_size, h0_price, h0_life, .ref qlisted, .ref qlist])), (qlisted, .inl (cI, 12, .inl (upd listed gd (nI (k9 + 1))))), (qlist, .inl (cI, 48, .inl (xins list (gd * 4) k9 pl sb)))] H := hP
    have hS9 : va_S (va_B [(h0, .inr (3, [h0_size, h0_price, h0_life, .ref qlisted, .ref qlist])), (qlisted, .inl (cI, 12, .inl listed)), (qlist, .inl (cI, 48, .inl list))]) s.heap H locs := by rw [← hA]; exact hS
    exact W.vret hx hb hr (fun t ht hW => ⟨⟨_, rfl, rfl, by rw [ht]; exact hP9⟩, hS9.X ht⟩) hS9.2.2 dX3_insert_67
  refine lv_aload_n hx hb dX3_insert_19 rfl (lv_at hl 2 rfl) ?_
  refine va_get (D := (dC, dI)) (ci := 3) (v := .ref qlist) (C := RX3) (T := TX3) (N := 5) hx hb hts i_X3 hown hK hP 0 rfl rfl 4 (by decide) k_21 (fun _ h9 => h9) rfl dX3_insert_20 ?_
  refine lv_iload hx hb dX3_insert_23 (lv_at hl 1 rfl) ?_
  refine lv_iload hx hb dX3_insert_25 (lv_at hl 0 rfl) ?_
  refine xr_iadd_n hx hb dX3_insert_27 ?_
  refine lv_aload_n hx hb dX3_insert_28 rfl (lv_at hl 2 rfl) ?_
  refine va_get (D := (dC, dI)) (ci := 3) (v := .ref qlist) (C := RX3) (T := TX3) (N := 5) hx hb hts i_X3 hown hK hP 0 rfl rfl 4 (by decide) k_21 (fun _ h9 => h9) rfl dX3_insert_29 ?_
  refine lv_iload hx hb dX3_insert_32 (lv_at hl 1 rfl) ?_
  refine lv_iload hx hb dX3_insert_34 (lv_at hl 0 rfl) ?_
  refine xr_iadd_n hx hb dX3_insert_36 ?_
  refine lv_iconst (v := nI 1) hx hb dX3_insert_37 (by decide) ?_
  refine xr_isub_n hx hb (by omega) dX3_insert_38 ?_
  refine xr_iald hx hb hK hP 2 0 rfl rfl (i := ((gd * 4) + k) - 1) (by omega) (by decide) dX3_insert_39 ?_
  refine xr_iast hx hb hK hP hD hS 2 0 rfl rfl (i := (gd * 4) + k) (by omega) (by decide) dX3_insert_40 (fun H locs hP hD hS => ?_)
  have hP : va_P (dC, dI) vwCl [(h0, .inr (3, [h0_size, h0_price, h0_life, .ref qlisted, .ref qlist])), (qlisted, .inl (cI, 12, .inl listed)), (qlist, .inl (cI, 48, .inl (upd lf ((gd * 4) + k) (lf (((gd * 4) + k) - 1)))))] H := hP
  have hD : va_D A [(h0, .inr (3, [h0_size, h0_price, h0_life, .ref qlisted, .ref qlist])), (qlisted, .inl (cI, 12, .inl listed)), (qlist, .inl (cI, 48, .inl (upd lf ((gd * 4) + k) (lf (((gd * 4) + k) - 1)))))] := hD
  refine lv_iinc (v := nI (k - 1)) (lv' := [(5, .int (nI (k - 1))), (4, .int (nI (gd * 4))), (0, .ref h0), (1, .int (nI gd)), (2, .int sb), (3, .int (nI pl))]) hx hb dX3_insert_41 hl (k := 0) rfl (nI_dec1 (by omega)) (by decide) rfl (fun ls hl => ?_)
  refine lv_goto (tgt := 13) hx hb dX3_insert_44 (by decide) ?_
  exact ih_13 ((k - 1) + 1) _ _ _ (show (k - 1) + 1 < k + 1 from by omega) ⟨(k - 1), (upd lf ((gd * 4) + k) (lf (((gd * 4) + k) - 1))), ls, rfl, rfl, lv_sub hl [0, 1, 2, 3, 4, 5] rfl, hP, hD, hS, (⟨by omega, by omega⟩), (by rw [hlf]; exact xshr_1 (by omega) (by omega))⟩
theorem hdV_X3_removeFrom : yX3_removeFrom.cls = RX3 ∧ yX3_removeFrom.cls ≠ "java/lang/invoke/MethodHandle" ∧ yX3_removeFrom.cls ≠ "java/lang/invoke/VarHandle" ∧ (parseMethodDescriptor yX3_removeFrom.desc).map (fun d => d.parameters.length) = some 2 := by decide +kernel
set_option maxHeartbeats 4000000 in
set_option maxRecDepth 100000 in
theorem c_X3_removeFrom (l : Launch) (dC : Nat → ClassId) (dI : Nat → Nat → Nat) (cI cF cC cZ cQ cS : ClassId) (h0 : Nat) (h0_size : Value) (h0_price : Value) (h0_life : Value) (qlisted : Nat) (qlist : Nat) (listed : Nat → Int32) (list : Nat → Int32) (gd : Nat) (k9 : Nat) (pl : Nat) (hg : gd < 12) (hlg : listed gd = nI k9) (hm : k9 ≤ 4) (hpl : pl < k9) : Met l yX3_removeFrom wsX3_removeFrom ({ frames := 0, cells := 0, slots := 0, locals := 0 }) (xPre (dC, dI) vwCl [.ref h0, .int (nI gd), .int (nI pl)] (xtys cI cF cC cZ cQ cS) [(h0, .inr (3, [h0_size, h0_price, h0_life, .ref qlisted, .ref qlist])), (qlisted, .inl (cI, 12, .inl listed)), (qlist, .inl (cI, 48, .inl list))]) (xWi (dC, dI) vwCl [(h0, .inr (3, [h0_size, h0_price, h0_life, .ref qlisted, .ref qlist])), (qlisted, .inl (cI, 12, .inl listed)), (qlist, .inl (cI, 48, .inl list))] (fun r0 w0 => r0 = list (gd * 4 + pl) ∧ w0 = [(h0, .inr (3, [h0_size, h0_price, h0_life, .ref qlisted, .ref qlist])), (qlisted, .inl (cI, 12, .inl (upd listed gd (nI (k9 - 1))))), (qlist, .inl (cI, 48, .inl (xshl list (gd * 4) pl (k9 - 1))))])) 0 0 (va_B [(h0, .inr (3, [h0_size, h0_price, h0_life, .ref qlisted, .ref qlist])), (qlisted, .inl (cI, 12, .inl listed)), (qlist, .inl (cI, 48, .inl list))]) := by
  refine Met.ofW (cc := cX3_removeFrom) (maxL := 6) (ret := (some .int)) (by decide) rfl ?_
  intro p e s m args below meth c s₁ B hml hv
  obtain ⟨rfl, hP, hK, hD0, hN⟩ := hv
  have hx := B.exec
  have hb := B.bytes
  have hr := B.returns
  have hts := atoms_spec (ws := wsX3_removeFrom) B.pre
  have hown : s.vm.findClass RX3 = some m.cls := findClass_of_methodNamed B.named
  have hlocks := B.notSynchronized
  have k_18 := hts (Cond.fieldLink RX3 18 "ShelfStages$Goods" "listed" "[I") (by decide +kernel)
  have k_21 := hts (Cond.fieldLink RX3 21 "ShelfStages$Goods" "list" "[I") (by decide +kernel)
  have i_X3 : ∀ w ∈ wsX30, w ∈ wsX3_removeFrom := by decide +kernel
  obtain ⟨A, hA⟩ : ∃ A, A = va_B [(h0, .inr (3, [h0_size, h0_price, h0_life, .ref qlisted, .ref qlist])), (qlisted, .inl (cI, 12, .inl listed)), (qlist, .inl (cI, 48, .inl list))] := ⟨_, rfl⟩
  have hD : va_D A [(h0, .inr (3, [h0_size, h0_price, h0_life, .ref qlisted, .ref qlist])), (qlisted, .inl (cI, 12, .inl listed)), (qlist, .inl (cI, 48, .inl list))] := hA ▸ hD0.own
  have hS : va_S A s.heap s.heap [] := va_S.rf
  have hl := lv_entry ([.ref h0, .int (nI gd), .int (nI pl)]) (n := 6) (Nat.le_of_ble_eq_true rfl)
  rw [lg_entry_eq]
  generalize (lg_sl ([.ref h0, .int (nI gd), .int (nI pl)]) ++ List.replicate (6 - (lg_sl ([.ref h0, .int (nI gd), .int (nI pl)])).length) Slot.unset).toArray = ls at hl ⊢
  have hl : lv_has ls 6 [(0, .ref h0), (1, .int (nI gd)), (2, .int (nI pl))] := hl
  refine lv_iload_n hx hb dX3_removeFrom_0 rfl (lv_at hl 1 rfl) ?_
  refine lv_iconst (v := nI 4) hx hb dX3_removeFrom_1 (by decide) ?_
  refine xr_imul_n hx hb dX3_removeFrom_2 ?_
  refine lv_istore_n (lv' := [(3, .int (nI (gd * 4))), (0, .ref h0), (1, .int (nI gd)), (2, .int (nI pl))]) hx hb dX3_removeFrom_3 rfl hl (by decide) rfl (fun ls hl => ?_)
  refine lv_aload_n hx hb dX3_removeFrom_4 rfl (lv_at hl 1 rfl) ?_
  refine va_get (D := (dC, dI)) (ci := 3) (v := .ref qlist) (C := RX3) (T := TX3) (N := 5) hx hb hts i_X3 hown hK hP 0 rfl rfl 4 (by decide) k_21 (fun _ h9 => h9) rfl dX3_removeFrom_5 ?_
  refine lv_iload_n hx hb dX3_removeFrom_8 rfl (lv_at hl 0 rfl) ?_
  refine lv_iload_n hx hb dX3_removeFrom_9 rfl (lv_at hl 3 rfl) ?_
  refine xr_iadd_n hx hb dX3_removeFrom_10 ?_
  refine xr_iald hx hb hK hP 2 0 rfl rfl (i := (gd * 4) + pl) (by omega) (by decide) dX3_removeFrom_11 ?_
  refine lv_istore (lv' := [(4, .int (list ((gd * 4) + pl))), (3, .int (nI (gd * 4))), (0, .ref h0), (1, .int (nI gd)), (2, .int (nI pl))]) hx hb dX3_removeFrom_12 hl (by decide) rfl (fun ls hl => ?_)
  refine lv_aload_n hx hb dX3_removeFrom_14 rfl (lv_at hl 2 rfl) ?_
  refine va_get (D := (dC, dI)) (ci := 3) (v := .ref qlisted) (C := RX3) (T := TX3) (N := 5) hx hb hts i_X3 hown hK hP 0 rfl rfl 3 (by decide) k_18 (fun _ h9 => h9) rfl dX3_removeFrom_15 ?_
  refine lv_iload_n hx hb dX3_removeFrom_18 rfl (lv_at hl 3 rfl) ?_
  refine lv_dup2_11 hx hb dX3_removeFrom_19 rfl rfl ?_
  refine xr_iald hx hb hK hP 1 0 rfl rfl (i := gd) (by omega) (by decide) dX3_removeFrom_20 ?_
  refine xr_top (show listed gd = nI k9 from hlg) ?_
  refine lv_iconst (v := nI 1) hx hb dX3_removeFrom_21 (by decide) ?_
  refine xr_isub_n hx hb (by omega) dX3_removeFrom_22 ?_
  refine xr_iast hx hb hK hP hD hS 1 0 rfl rfl (i := gd) (by omega) (by decide) dX3_removeFrom_23 (fun H locs hP hD hS => ?_)
  have hP : va_P (dC, dI) vwCl [(h0, .inr (3, [h0_size, h0_price, h0_life, .ref qlisted, .ref qlist])), (qlisted, .inl (cI, 12, .inl (upd listed gd (nI (k9 - 1))))), (qlist, .inl (cI, 48, .inl list))] H := hP
  have hD : va_D A [(h0, .inr (3, [h0_size, h0_price, h0_life, .ref qlisted, .ref qlist])), (qlisted, .inl (cI, 12, .inl (upd listed gd (nI (k9 - 1))))), (qlist, .inl (cI, 48, .inl list))] := hD
  refine lv_iload_n hx hb dX3_removeFrom_24 rfl (lv_at hl 4 rfl) ?_
  refine lv_istore (lv' := [(5, .int (nI pl)), (4, .int (list ((gd * 4) + pl))), (3, .int (nI (gd * 4))), (0, .ref h0), (1, .int (nI gd)), (2, .int (nI pl))]) hx hb dX3_removeFrom_25 hl (by decide) rfl (fun ls hl => ?_)
  refine xr_loop (J := Nat) (fun n0 H locs g => ∃ (k : Nat) (lf : Nat → Int32) (ls : Array Slot), n0 = k9 - k ∧ g = F0 m 27 ls [] ∧ lv_has ls 6 [(5, .int (nI k)), (4, .int (list ((gd * 4) + pl))), (3, .int (nI (gd * 4))), (0, .ref h0), (1, .int (nI gd)), (2, .int (nI pl))] ∧ va_P (dC, dI) vwCl [(h0, .inr (3, [h0_size, h0_price, h0_life, .ref qlisted, .ref qlist])), (qlisted, .inl (cI, 12, .inl (upd listed gd (nI (k9 - 1))))), (qlist, .inl (cI, 48, .inl lf))] H ∧ va_D A [(h0, .inr (3, [h0_size, h0_price, h0_life, .ref qlisted, .ref qlist])), (qlisted, .inl (cI, 12, .inl (upd listed gd (nI (k9 - 1))))), (qlist, .inl (cI, 48, .inl lf))] ∧ va_S A s.heap H locs ∧ (pl ≤ k ∧ k ≤ k9 - 1) ∧ (lf = xshl list (gd * 4) pl k)) (fun n => n) ?_ (k9 - pl) (g := F0 m 27 ls []) ⟨pl, list, ls, rfl, rfl, lv_sub hl [0, 1, 2, 3, 4, 5] rfl, hP, hD, hS, (⟨Nat.le_refl _, by omega⟩), (xshl_0 _ _ _)⟩
  intro n0 ih_27 H locs g hp
  obtain ⟨k, lf, ls, rfl, rfl, hl, hP, hD, hS, hk, hlf⟩ := hp
  refine lv_iload hx hb dX3_removeFrom_27 (lv_at hl 0 rfl) ?_
  refine lv_aload_n hx hb dX3_removeFrom_29 rfl (lv_at hl 3 rfl) ?_
  refine va_get (D := (dC, dI)) (ci := 3) (v := .ref qlisted) (C := RX3) (T := TX3) (N := 5) hx hb hts i_X3 hown hK hP 0 rfl rfl 3 (by decide) k_18 (fun _ h9 => h9) rfl dX3_removeFrom_30 ?_
  refine lv_iload_n hx hb dX3_removeFrom_33 rfl (lv_at hl 4 rfl) ?_
  refine xr_iald hx hb hK hP 1 0 rfl rfl (i := gd) (by omega) (by decide) dX3_removeFrom_34 ?_
  refine xr_top (show (upd listed gd (nI (k9 - 1))) gd = nI (k9 - 1) from upd_at _ _ _) ?_
  refine xr_ge_n (tgt := 64) hx hb (by omega) (by omega) dX3_removeFrom_35 (by decide) (fun c_1 => ?_) (fun c_1 => ?_)
  · skip
    refine lv_iload hx hb dX3_removeFrom_64 (lv_at hl 1 rfl) ?_
    have hkn : k = k9 - 1 := by omega
    subst hkn
    subst hlf
    have hP9 : va_P (dC, dI) vwCl [(h0, .inr (3, [h0_size, h0_price, h0_life, .ref qlisted, .ref qlist])), (qlisted, .inl (cI, 12, .inl (upd listed gd (nI (k9 - 1))))), (qlist, .inl (cI, 48, .inl (xshl list (gd * 4) pl (k9 - 1))))] H := hP
    have hS9 : va_S (va_B [(h0, .inr (3, [h0_size, h0_price, h0_life, .ref qlisted, .ref qlist])), (qlisted, .inl (cI, 12, .inl listed)), (qlist, .inl (cI, 48, .inl list))]) s.heap H locs := by rw [← hA]; exact hS
    exact W.iret (v := list ((gd * 4) + pl)) hx hb hr (fun t ht hW => ⟨⟨_, _, rfl, ⟨(show list ((gd * 4) + pl) = list (gd * 4 + pl) from rfl), rfl⟩, by rw [ht]; exact hP9⟩, hS9.X ht⟩) hS9.2.2 dX3_removeFrom_66
  refine lv_aload_n hx hb dX3_removeFrom_38 rfl (lv_at hl 3 rfl) ?_
  refine va_get (D := (dC, dI)) (ci := 3) (v := .ref qlist) (C := RX3) (T := TX3) (N := 5) hx hb hts i_X3 hown hK hP 0 rfl rfl 4 (by decide) k_21 (fun _ h9 => h9) rfl dX3_removeFrom_39 ?_
  refine lv_iload_n hx hb dX3_removeFrom_42 rfl (lv_at hl 2 rfl) ?_
  refine lv_iload hx hb dX3_removeFrom_43 (lv_at hl 0 rfl) ?_
  refine xr_iadd_n hx hb dX3_removeFrom_45 ?_
  refine lv_aload_n hx hb dX3_removeFrom_46 rfl (lv_at hl 3 rfl) ?_
  refine va_get (D := (dC, dI)) (ci := 3) (v := .ref qlist) (C := RX3) (T := TX3) (N := 5) hx hb hts i_X3 hown hK hP 0 rfl rfl 4 (by decide) k_21 (fun _ h9 => h9) rfl dX3_removeFrom_47 ?_
  refine lv_iload_n hx hb dX3_removeFrom_50 rfl (lv_at hl 2 rfl) ?_
  refine lv_iload hx hb dX3_removeFrom_51 (lv_at hl 0 rfl) ?_
  refine xr_iadd_n hx hb dX3_removeFrom_53 ?_
  refine lv_iconst (v := nI 1) hx hb dX3_removeFrom_54 (by decide) ?_
  refine xr_iadd_n hx hb dX3_removeFrom_55 ?_
  refine xr_iald hx hb hK hP 2 0 rfl rfl (i := ((gd * 4) + k) + 1) (by omega) (by decide) dX3_removeFrom_56 ?_
  refine xr_iast hx hb hK hP hD hS 2 0 rfl rfl (i := (gd * 4) + k) (by omega) (by decide) dX3_removeFrom_57 (fun H locs hP hD hS => ?_)
  have hP : va_P (dC, dI) vwCl [(h0, .inr (3, [h0_size, h0_price, h0_life, .ref qlisted, .ref qlist])), (qlisted, .inl (cI, 12, .inl (upd listed gd (nI (k9 - 1))))), (qlist, .inl (cI, 48, .inl (upd lf ((gd * 4) + k) (lf (((gd * 4) + k) + 1)))))] H := hP
  have hD : va_D A [(h0, .inr (3, [h0_size, h0_price, h0_life, .ref qlisted, .ref qlist])), (qlisted, .inl (cI, 12, .inl (upd listed gd (nI (k9 - 1))))), (qlist, .inl (cI, 48, .inl (upd lf ((gd * 4) + k) (lf (((gd * 4) + k) + 1)))))] := hD
  refine lv_iinc (v := nI (k + 1)) (lv' := [(5, .int (nI (k + 1))), (4, .int (list ((gd * 4) + pl))), (3, .int (nI (gd * 4))), (0, .ref h0), (1, .int (nI gd)), (2, .int (nI pl))]) hx hb dX3_removeFrom_58 hl (k := 0) rfl (nI_inc1 k) (by decide) rfl (fun ls hl => ?_)
  refine lv_goto (tgt := 27) hx hb dX3_removeFrom_61 (by decide) ?_
  exact ih_27 (k9 - (k + 1)) _ _ _ (show k9 - (k + 1) < k9 - k from by omega) ⟨(k + 1), (upd lf ((gd * 4) + k) (lf (((gd * 4) + k) + 1))), ls, rfl, rfl, lv_sub hl [0, 1, 2, 3, 4, 5] rfl, hP, hD, hS, (⟨by omega, by omega⟩), (by rw [hlf]; exact xshl_1 (by omega))⟩
theorem hdV_X3_copyFrom : yX3_copyFrom.cls = RX3 ∧ yX3_copyFrom.cls ≠ "java/lang/invoke/MethodHandle" ∧ yX3_copyFrom.cls ≠ "java/lang/invoke/VarHandle" ∧ (parseMethodDescriptor yX3_copyFrom.desc).map (fun d => d.parameters.length) = some 1 := by decide +kernel
set_option maxHeartbeats 4000000 in
set_option maxRecDepth 100000 in
theorem c_X3_copyFrom (l : Launch) (dC : Nat → ClassId) (dI : Nat → Nat → Nat) (cI cF cC cZ cQ cS : ClassId) (n : Int32) (n9 : Int32) (h0 : Nat) (x0 : Nat) (x1 : Nat) (x2 : Nat) (x3 : Nat) (price : Nat → Int32) (life : Nat → Int32) (listed : Nat → Int32) (list : Nat → Int32) (o0 : Nat) (y0 : Nat) (y1 : Nat) (y2 : Nat) (y3 : Nat) (price9 : Nat → Int32) (life9 : Nat → Int32) (listed9 : Nat → Int32) (list9 : Nat → Int32) : Met l yX3_copyFrom wsX3_copyFrom ({ frames := 2, cells := 0, slots := 0, locals := 61 }) (xPre (dC, dI) vwCl [.ref h0, .ref o0] (xtys cI cF cC cZ cQ cS) [(h0, .inr (3, [.int n, .ref x0, .ref x1, .ref x2, .ref x3])), (x0, .inl (cI, 12, .inl price)), (x1, .inl (cI, 12, .inl life)), (x2, .inl (cI, 12, .inl listed)), (x3, .inl (cI, 48, .inl list)), (o0, .inr (3, [.int n9, .ref y0, .ref y1, .ref y2, .ref y3])), (y0, .inl (cI, 12, .inl price9)), (y1, .inl (cI, 12, .inl life9)), (y2, .inl (cI, 12, .inl listed9)), (y3, .inl (cI, 48, .inl list9))]) (xWv (dC, dI) vwCl [(h0, .inr (3, [.int n, .ref x0, .ref x1, .ref x2, .ref x3])), (x0, .inl (cI, 12, .inl price)), (x1, .inl (cI, 12, .inl life)), (x2, .inl (cI, 12, .inl listed)), (x3, .inl (cI, 48, .inl list)), (o0, .inr (3, [.int n9, .ref y0, .ref y1, .ref y2, .ref y3])), (y0, .inl (cI, 12, .inl price9)), (y1, .inl (cI, 12, .inl life9)), (y2, .inl (cI, 12, .inl listed9)), (y3, .inl (cI, 48, .inl list9))] (fun w0 => w0 = [(h0, .inr (3, [.int n9, .ref x0, .ref x1, .ref x2, .ref x3])), (x0, .inl (cI, 12, .inl price9)), (x1, .inl (cI, 12, .inl life9)), (x2, .inl (cI, 12, .inl listed9)), (x3, .inl (cI, 48, .inl list9)), (o0, .inr (3, [.int n9, .ref y0, .ref y1, .ref y2, .ref y3])), (y0, .inl (cI, 12, .inl price9)), (y1, .inl (cI, 12, .inl life9)), (y2, .inl (cI, 12, .inl listed9)), (y3, .inl (cI, 48, .inl list9))])) 0 0 (va_B [(h0, .inr (3, [.int n, .ref x0, .ref x1, .ref x2, .ref x3])), (x0, .inl (cI, 12, .inl price)), (x1, .inl (cI, 12, .inl life)), (x2, .inl (cI, 12, .inl listed)), (x3, .inl (cI, 48, .inl list)), (o0, .inr (3, [.int n9, .ref y0, .ref y1, .ref y2, .ref y3])), (y0, .inl (cI, 12, .inl price9)), (y1, .inl (cI, 12, .inl life9)), (y2, .inl (cI, 12, .inl listed9)), (y3, .inl (cI, 48, .inl list9))]) := by
  refine Met.ofW (cc := cX3_copyFrom) (maxL := 2) (ret := none) (by decide) rfl ?_
  intro p e s m args below meth c s₁ B hml hv
  obtain ⟨rfl, hP, hK, hD0, hN⟩ := hv
  have hx := B.exec
  have hb := B.bytes
  have hr := B.returns
  have hts := atoms_spec (ws := wsX3_copyFrom) B.pre
  have hown : s.vm.findClass RX3 = some m.cls := findClass_of_methodNamed B.named
  have hlocks := B.notSynchronized
  have k_15 := hts (Cond.fieldLink RX3 15 "ShelfStages$Goods" "life" "[I") (by decide +kernel)
  have k_18 := hts (Cond.fieldLink RX3 18 "ShelfStages$Goods" "listed" "[I") (by decide +kernel)
  have k_21 := hts (Cond.fieldLink RX3 21 "ShelfStages$Goods" "list" "[I") (by decide +kernel)
  have k_24 := hts (Cond.fieldLink RX3 24 "ShelfStages$Goods" "size" "I") (by decide +kernel)
  have k_9 := hts (Cond.fieldLink RX3 9 "ShelfStages$Goods" "price" "[I") (by decide +kernel)
  have ki_RX9 := hts (Cond.initialized RX9) (by decide +kernel)
  have ks_X9_copyRow := hts (Cond.static yX9_copyRow) (by decide +kernel)
  have i_X3 : ∀ w ∈ wsX30, w ∈ wsX3_copyFrom := by decide +kernel
  obtain ⟨A, hA⟩ : ∃ A, A = va_B [(h0, .inr (3, [.int n, .ref x0, .ref x1, .ref x2, .ref x3])), (x0, .inl (cI, 12, .inl price)), (x1, .inl (cI, 12, .inl life)), (x2, .inl (cI, 12, .inl listed)), (x3, .inl (cI, 48, .inl list)), (o0, .inr (3, [.int n9, .ref y0, .ref y1, .ref y2, .ref y3])), (y0, .inl (cI, 12, .inl price9)), (y1, .inl (cI, 12, .inl life9)), (y2, .inl (cI, 12, .inl listed9)), (y3, .inl (cI, 48, .inl list9))] := ⟨_, rfl⟩
  have hD : va_D A [(h0, .inr (3, [.int n, .ref x0, .ref x1, .ref x2, .ref x3])), (x0, .inl (cI, 12, .inl price)), (x1, .inl (cI, 12, .inl life)), (x2, .inl (cI, 12, .inl listed)), (x3, .inl (cI, 48, .inl list)), (o0, .inr (3, [.int n9, .ref y0, .ref y1, .ref y2, .ref y3])), (y0, .inl (cI, 12, .inl price9)), (y1, .inl (cI, 12, .inl life9)), (y2, .inl (cI, 12, .inl listed9)), (y3, .inl (cI, 48, .inl list9))] := hA ▸ hD0.own
  have hS : va_S A s.heap s.heap [] := va_S.rf
  have hl := lv_entry ([.ref h0, .ref o0]) (n := 2) (Nat.le_of_ble_eq_true rfl)
  rw [lg_entry_eq]
  generalize (lg_sl ([.ref h0, .ref o0]) ++ List.replicate (2 - (lg_sl ([.ref h0, .ref o0])).length) Slot.unset).toArray = ls at hl ⊢
  have hl : lv_has ls 2 [(0, .ref h0), (1, .ref o0)] := hl
  refine lv_aload_n hx hb dX3_copyFrom_0 rfl (lv_at hl 0 rfl) ?_
  refine lv_aload_n hx hb dX3_copyFrom_1 rfl (lv_at hl 1 rfl) ?_
  refine va_get (D := (dC, dI)) (ci := 3) (v := .int n9) (C := RX3) (T := TX3) (N := 5) hx hb hts i_X3 hown hK hP 5 rfl rfl 0 (by decide) k_24 (fun _ h9 => h9) rfl dX3_copyFrom_2 ?_
  refine va_put (D := (dC, dI)) (ci := 3) (v := .int n9) (ty := .int) (C := RX3) (T := TX3) (N := 5) hx hb hts i_X3 tyX3 tyX3_ok nmX3 hown hK hP hD hS 0 rfl rfl 0 (by decide) k_24 (fun _ h9 => h9) rfl (by decide +kernel) rfl rfl (Nat.le_of_ble_eq_true rfl) dX3_copyFrom_5 (fun H locs hP hD hS => ?_)
  have hP : va_P (dC, dI) vwCl [(h0, .inr (3, [.int n9, .ref x0, .ref x1, .ref x2, .ref x3])), (x0, .inl (cI, 12, .inl price)), (x1, .inl (cI, 12, .inl life)), (x2, .inl (cI, 12, .inl listed)), (x3, .inl (cI, 48, .inl list)), (o0, .inr (3, [.int n9, .ref y0, .ref y1, .ref y2, .ref y3])), (y0, .inl (cI, 12, .inl price9)), (y1, .inl (cI, 12, .inl life9)), (y2, .inl (cI, 12, .inl listed9)), (y3, .inl (cI, 48, .inl list9))] H := hP
  have hD : va_D A [(h0, .inr (3, [.int n9, .ref x0, .ref x1, .ref x2, .ref x3])), (x0, .inl (cI, 12, .inl price)), (x1, .inl (cI, 12, .inl life)), (x2, .inl (cI, 12, .inl listed)), (x3, .inl (cI, 48, .inl list)), (o0, .inr (3, [.int n9, .ref y0, .ref y1, .ref y2, .ref y3])), (y0, .inl (cI, 12, .inl price9)), (y1, .inl (cI, 12, .inl life9)), (y2, .inl (cI, 12, .inl listed9)), (y3, .inl (cI, 48, .inl list9))] := hD
  refine lv_aload_n hx hb dX3_copyFrom_8 rfl (lv_at hl 1 rfl) ?_
  refine va_get (D := (dC, dI)) (ci := 3) (v := .ref y0) (C := RX3) (T := TX3) (N := 5) hx hb hts i_X3 hown hK hP 5 rfl rfl 1 (by decide) k_9 (fun _ h9 => h9) rfl dX3_copyFrom_9 ?_
  refine lv_aload_n hx hb dX3_copyFrom_12 rfl (lv_at hl 0 rfl) ?_
  refine va_get (D := (dC, dI)) (ci := 3) (v := .ref x0) (C := RX3) (T := TX3) (N := 5) hx hb hts i_X3 hown hK hP 0 rfl rfl 1 (by decide) k_9 (fun _ h9 => h9) rfl dX3_copyFrom_13 ?_
  refine xkV2 (xSN (As := [.ref y0, .ref x0]) (rest := []) (wc := [(y0, .inl (cI, 12, .inl price9)), (x0, .inl (cI, 12, .inl price))]) hx hb hml hown hts (c_X9_copyRow l dC dI cI cF cC cZ cQ cS y0 price9 x0 price 12 (by omega)) 2 gX3_copyFrom_X9_copyRow_n28 rfl rfl rfl (hN (RX3, 28, yX9_copyRow) (List.mem_of_getElem? (i := 9) rfl)) ki_RX9 ks_X9_copyRow hdN_X9_copyRow ⟨Nat.le_of_ble_eq_true rfl, Nat.le_of_ble_eq_true rfl⟩ hN hK hP hD [6, 1] rfl rfl rfl hl.1 rfl (Nat.le_of_ble_eq_true rfl) dX3_copyFrom_16 ⟨Nat.zero_le _, Nat.zero_le _⟩) hP hD hS [6, 1] [0, 1, 2, 3, 4, 5, 6, 7, 8, 9] rfl rfl 10 rfl (by decide +kernel) (fun H locs hP hD hS => ?_)
  have hP : va_P (dC, dI) vwCl [(h0, .inr (3, [.int n9, .ref x0, .ref x1, .ref x2, .ref x3])), (x0, .inl (cI, 12, .inl price9)), (x1, .inl (cI, 12, .inl life)), (x2, .inl (cI, 12, .inl listed)), (x3, .inl (cI, 48, .inl list)), (o0, .inr (3, [.int n9, .ref y0, .ref y1, .ref y2, .ref y3])), (y0, .inl (cI, 12, .inl price9)), (y1, .inl (cI, 12, .inl life9)), (y2, .inl (cI, 12, .inl listed9)), (y3, .inl (cI, 48, .inl list9))] H := hP
  have hD : va_D A [(h0, .inr (3, [.int n9, .ref x0, .ref x1, .ref x2, .ref x3])), (x0, .inl (cI, 12, .inl price9)), (x1, .inl (cI, 12, .inl life)), (x2, .inl (cI, 12, .inl listed)), (x3, .inl (cI, 48, .inl list)), (o0, .inr (3, [.int n9, .ref y0, .ref y1, .ref y2, .ref y3])), (y0, .inl (cI, 12, .inl price9)), (y1, .inl (cI, 12, .inl life9)), (y2, .inl (cI, 12, .inl listed9)), (y3, .inl (cI, 48, .inl list9))] := hD
  refine lv_aload_n hx hb dX3_copyFrom_19 rfl (lv_at hl 1 rfl) ?_
  refine va_get (D := (dC, dI)) (ci := 3) (v := .ref y1) (C := RX3) (T := TX3) (N := 5) hx hb hts i_X3 hown hK hP 5 rfl rfl 2 (by decide) k_15 (fun _ h9 => h9) rfl dX3_copyFrom_20 ?_
  refine lv_aload_n hx hb dX3_copyFrom_23 rfl (lv_at hl 0 rfl) ?_
  refine va_get (D := (dC, dI)) (ci := 3) (v := .ref x1) (C := RX3) (T := TX3) (N := 5) hx hb hts i_X3 hown hK hP 0 rfl rfl 2 (by decide) k_15 (fun _ h9 => h9) rfl dX3_copyFrom_24 ?_
  refine xkV2 (xSN (As := [.ref y1, .ref x1]) (rest := []) (wc := [(y1, .inl (cI, 12, .inl life9)), (x1, .inl (cI, 12, .inl life))]) hx hb hml hown hts (c_X9_copyRow l dC dI cI cF cC cZ cQ cS y1 life9 x1 life 12 (by omega)) 2 gX3_copyFrom_X9_copyRow_n28 rfl rfl rfl (hN (RX3, 28, yX9_copyRow) (List.mem_of_getElem? (i := 9) rfl)) ki_RX9 ks_X9_copyRow hdN_X9_copyRow ⟨Nat.le_of_ble_eq_true rfl, Nat.le_of_ble_eq_true rfl⟩ hN hK hP hD [7, 2] rfl rfl rfl hl.1 rfl (Nat.le_of_ble_eq_true rfl) dX3_copyFrom_27 ⟨Nat.zero_le _, Nat.zero_le _⟩) hP hD hS [7, 2] [0, 1, 2, 3, 4, 5, 6, 7, 8, 9] rfl rfl 10 rfl (by decide +kernel) (fun H locs hP hD hS => ?_)
  have hP : va_P (dC, dI) vwCl [(h0, .inr (3, [.int n9, .ref x0, .ref x1, .ref x2, .ref x3])), (x0, .inl (cI, 12, .inl price9)), (x1, .inl (cI, 12, .inl life9)), (x2, .inl (cI, 12, .inl listed)), (x3, .inl (cI, 48, .inl list)), (o0, .inr (3, [.int n9, .ref y0, .ref y1, .ref y2, .ref y3])), (y0, .inl (cI, 12, .inl price9)), (y1, .inl (cI, 12, .inl life9)), (y2, .inl (cI, 12, .inl listed9)), (y3, .inl (cI, 48, .inl list9))] H := hP
  have hD : va_D A [(h0, .inr (3, [.int n9, .ref x0, .ref x1, .ref x2, .ref x3])), (x0, .inl (cI, 12, .inl price9)), (x1, .inl (cI, 12, .inl life9)), (x2, .inl (cI, 12, .inl listed)), (x3, .inl (cI, 48, .inl list)), (o0, .inr (3, [.int n9, .ref y0, .ref y1, .ref y2, .ref y3])), (y0, .inl (cI, 12, .inl price9)), (y1, .inl (cI, 12, .inl life9)), (y2, .inl (cI, 12, .inl listed9)), (y3, .inl (cI, 48, .inl list9))] := hD
  refine lv_aload_n hx hb dX3_copyFrom_30 rfl (lv_at hl 1 rfl) ?_
  refine va_get (D := (dC, dI)) (ci := 3) (v := .ref y2) (C := RX3) (T := TX3) (N := 5) hx hb hts i_X3 hown hK hP 5 rfl rfl 3 (by decide) k_18 (fun _ h9 => h9) rfl dX3_copyFrom_31 ?_
  refine lv_aload_n hx hb dX3_copyFrom_34 rfl (lv_at hl 0 rfl) ?_
  refine va_get (D := (dC, dI)) (ci := 3) (v := .ref x2) (C := RX3) (T := TX3) (N := 5) hx hb hts i_X3 hown hK hP 0 rfl rfl 3 (by decide) k_18 (fun _ h9 => h9) rfl dX3_copyFrom_35 ?_
  refine xkV2 (xSN (As := [.ref y2, .ref x2]) (rest := []) (wc := [(y2, .inl (cI, 12, .inl listed9)), (x2, .inl (cI, 12, .inl listed))]) hx hb hml hown hts (c_X9_copyRow l dC dI cI cF cC cZ cQ cS y2 listed9 x2 listed 12 (by omega)) 2 gX3_copyFrom_X9_copyRow_n28 rfl rfl rfl (hN (RX3, 28, yX9_copyRow) (List.mem_of_getElem? (i := 9) rfl)) ki_RX9 ks_X9_copyRow hdN_X9_copyRow ⟨Nat.le_of_ble_eq_true rfl, Nat.le_of_ble_eq_true rfl⟩ hN hK hP hD [8, 3] rfl rfl rfl hl.1 rfl (Nat.le_of_ble_eq_true rfl) dX3_copyFrom_38 ⟨Nat.zero_le _, Nat.zero_le _⟩) hP hD hS [8, 3] [0, 1, 2, 3, 4, 5, 6, 7, 8, 9] rfl rfl 10 rfl (by decide +kernel) (fun H locs hP hD hS => ?_)
  have hP : va_P (dC, dI) vwCl [(h0, .inr (3, [.int n9, .ref x0, .ref x1, .ref x2, .ref x3])), (x0, .inl (cI, 12, .inl price9)), (x1, .inl (cI, 12, .inl life9)), (x2, .inl (cI, 12, .inl listed9)), (x3, .inl (cI, 48, .inl list)), (o0, .inr (3, [.int n9, .ref y0, .ref y1, .ref y2, .ref y3])), (y0, .inl (cI, 12, .inl price9)), (y1, .inl (cI, 12, .inl life9)), (y2, .inl (cI, 12, .inl listed9)), (y3, .inl (cI, 48, .inl list9))] H := hP
  have hD : va_D A [(h0, .inr (3, [.int n9, .ref x0, .ref x1, .ref x2, .ref x3])), (x0, .inl (cI, 12, .inl price9)), (x1, .inl (cI, 12, .inl life9)), (x2, .inl (cI, 12, .inl listed9)), (x3, .inl (cI, 48, .inl list)), (o0, .inr (3, [.int n9, .ref y0, .ref y1, .ref y2, .ref y3])), (y0, .inl (cI, 12, .inl price9)), (y1, .inl (cI, 12, .inl life9)), (y2, .inl (cI, 12, .inl listed9)), (y3, .inl (cI, 48, .inl list9))] := hD
  refine lv_aload_n hx hb dX3_copyFrom_41 rfl (lv_at hl 1 rfl) ?_
  refine va_get (D := (dC, dI)) (ci := 3) (v := .ref y3) (C := RX3) (T := TX3) (N := 5) hx hb hts i_X3 hown hK hP 5 rfl rfl 4 (by decide) k_21 (fun _ h9 => h9) rfl dX3_copyFrom_42 ?_
  refine lv_aload_n hx hb dX3_copyFrom_45 rfl (lv_at hl 0 rfl) ?_
  refine va_get (D := (dC, dI)) (ci := 3) (v := .ref x3) (C := RX3) (T := TX3) (N := 5) hx hb hts i_X3 hown hK hP 0 rfl rfl 4 (by decide) k_21 (fun _ h9 => h9) rfl dX3_copyFrom_46 ?_
  refine xkV2 (xSN (As := [.ref y3, .ref x3]) (rest := []) (wc := [(y3, .inl (cI, 48, .inl list9)), (x3, .inl (cI, 48, .inl list))]) hx hb hml hown hts (c_X9_copyRow l dC dI cI cF cC cZ cQ cS y3 list9 x3 list 48 (by omega)) 2 gX3_copyFrom_X9_copyRow_n28 rfl rfl rfl (hN (RX3, 28, yX9_copyRow) (List.mem_of_getElem? (i := 9) rfl)) ki_RX9 ks_X9_copyRow hdN_X9_copyRow ⟨Nat.le_of_ble_eq_true rfl, Nat.le_of_ble_eq_true rfl⟩ hN hK hP hD [9, 4] rfl rfl rfl hl.1 rfl (Nat.le_of_ble_eq_true rfl) dX3_copyFrom_49 ⟨Nat.zero_le _, Nat.zero_le _⟩) hP hD hS [9, 4] [0, 1, 2, 3, 4, 5, 6, 7, 8, 9] rfl rfl 10 rfl (by decide +kernel) (fun H locs hP hD hS => ?_)
  have hP : va_P (dC, dI) vwCl [(h0, .inr (3, [.int n9, .ref x0, .ref x1, .ref x2, .ref x3])), (x0, .inl (cI, 12, .inl price9)), (x1, .inl (cI, 12, .inl life9)), (x2, .inl (cI, 12, .inl listed9)), (x3, .inl (cI, 48, .inl list9)), (o0, .inr (3, [.int n9, .ref y0, .ref y1, .ref y2, .ref y3])), (y0, .inl (cI, 12, .inl price9)), (y1, .inl (cI, 12, .inl life9)), (y2, .inl (cI, 12, .inl listed9)), (y3, .inl (cI, 48, .inl list9))] H := hP
  have hD : va_D A [(h0, .inr (3, [.int n9, .ref x0, .ref x1, .ref x2, .ref x3])), (x0, .inl (cI, 12, .inl price9)), (x1, .inl (cI, 12, .inl life9)), (x2, .inl (cI, 12, .inl listed9)), (x3, .inl (cI, 48, .inl list9)), (o0, .inr (3, [.int n9, .ref y0, .ref y1, .ref y2, .ref y3])), (y0, .inl (cI, 12, .inl price9)), (y1, .inl (cI, 12, .inl life9)), (y2, .inl (cI, 12, .inl listed9)), (y3, .inl (cI, 48, .inl list9))] := hD
  have hP9 : va_P (dC, dI) vwCl [(h0, .inr (3, [.int n9, .ref x0, .ref x1, .ref x2, .ref x3])), (x0, .inl (cI, 12, .inl price9)), (x1, .inl (cI, 12, .inl life9)), (x2, .inl (cI, 12, .inl listed9)), (x3, .inl (cI, 48, .inl list9)), (o0, .inr (3, [.int n9, .ref y0, .ref y1, .ref y2, .ref y3])), (y0, .inl (cI, 12, .inl price9)), (y1, .inl (cI, 12, .inl life9)), (y2, .inl (cI, 12, .inl listed9)), (y3, .inl (cI, 48, .inl list9))] H := hP
  have hS9 : va_S (va_B [(h0, .inr (3, [.int n, .ref x0, .ref x1, .ref x2, .ref x3])), (x0, .inl (cI, 12, .inl price)), (x1, .inl (cI, 12, .inl life)), (x2, .inl (cI, 12, .inl listed)), (x3, .inl (cI, 48, .inl list)), (o0, .inr (3, [.int n9, .ref y0, .ref y1, .ref y2, .ref y3])), (y0, .inl (cI, 12, .inl price9)), (y1, .inl (cI, 12, .inl life9)), (y2, .inl (cI, 12, .inl listed9)), (y3, .inl (cI, 48, .inl list9))]) s.heap H locs := by rw [← hA]; exact hS
  exact W.vret hx hb hr (fun t ht hW => ⟨⟨_, rfl, rfl, by rw [ht]; exact hP9⟩, hS9.X ht⟩) hS9.2.2 dX3_copyFrom_52
theorem hdV_X5_append : yX5_append.cls = RX5 ∧ yX5_append.cls ≠ "java/lang/invoke/MethodHandle" ∧ yX5_append.cls ≠ "java/lang/invoke/VarHandle" ∧ (parseMethodDescriptor yX5_append.desc).map (fun d => d.parameters.length) = some 4 := by decide +kernel
set_option maxHeartbeats 4000000 in
set_option maxRecDepth 100000 in
theorem c_X5_append (l : Launch) (dC : Nat → ClassId) (dI : Nat → Nat → Nat) (cI cF cC cZ cQ cS : ClassId) (lz : Nat) (nx : Nat) (h0 : Nat) (x0 : Nat) (x1 : Nat) (x2 : Nat) (x3 : Nat) (kind : Nat → Int32) (batch : Nat → Int32) (units : Nat → Int32) (day : Nat → Int32) (vk : Int32) (vb : Int32) (vu : Int32) (vd : Int32) (hnx : nx < 10) (hlz : lz ≤ 10) : Met l yX5_append wsX5_append ({ frames := 1, cells := 0, slots := 0, locals := 21 }) (xPre (dC, dI) vwCl [.ref h0, .int vk, .int vb, .int vu, .int vd] (xtys cI cF cC cZ cQ cS) [(h0, .inr (5, [.int (nI lz), .int (nI nx), .ref x0, .ref x1, .ref x2, .ref x3])), (x0, .inl (cI, 10, .inl kind)), (x1, .inl (cI, 10, .inl batch)), (x2, .inl (cI, 10, .inl units)), (x3, .inl (cI, 10, .inl day))]) (xWv (dC, dI) vwCl [(h0, .inr (5, [.int (nI lz), .int (nI nx), .ref x0, .ref x1, .ref x2, .ref x3])), (x0, .inl (cI, 10, .inl kind)), (x1, .inl (cI, 10, .inl batch)), (x2, .inl (cI, 10, .inl units)), (x3, .inl (cI, 10, .inl day))] (fun w0 => w0 = [(h0, .inr (5, [.int (nI (min (lz + 1) 10)), .int (nI ((nx + 1) % 10)), .ref x0, .ref x1, .ref x2, .ref x3])), (x0, .inl (cI, 10, .inl (upd kind nx vk))), (x1, .inl (cI, 10, .inl (upd batch nx vb))), (x2, .inl (cI, 10, .inl (upd units nx vu))), (x3, .inl (cI, 10, .inl (upd day nx vd)))])) 0 0 (va_B [(h0, .inr (5, [.int (nI lz), .int (nI nx), .ref x0, .ref x1, .ref x2, .ref x3])), (x0, .inl (cI, 10, .inl kind)), (x1, .inl (cI, 10, .inl batch)), (x2, .inl (cI, 10, .inl units)), (x3, .inl (cI, 10, .inl day))]) := by
  refine Met.ofW (cc := cX5_append) (maxL := 5) (ret := none) (by decide) rfl ?_
  intro p e s m args below meth c s₁ B hml hv
  obtain ⟨rfl, hP, hK, hD0, hN⟩ := hv
  have hx := B.exec
  have hb := B.bytes
  have hr := B.returns
  have hts := atoms_spec (ws := wsX5_append) B.pre
  have hown : s.vm.findClass RX5 = some m.cls := findClass_of_methodNamed B.named
  have hlocks := B.notSynchronized
  have k_15 := hts (Cond.fieldLink RX5 15 "ShelfStages$Log" "batch" "[I") (by decide +kernel)
  have k_18 := hts (Cond.fieldLink RX5 18 "ShelfStages$Log" "units" "[I") (by decide +kernel)
  have k_21 := hts (Cond.fieldLink RX5 21 "ShelfStages$Log" "day" "[I") (by decide +kernel)
  have k_24 := hts (Cond.fieldLink RX5 24 "ShelfStages$Log" "size" "I") (by decide +kernel)
  have k_28 := hts (Cond.fieldLink RX5 28 "ShelfStages$Log" "next" "I") (by decide +kernel)
  have k_9 := hts (Cond.fieldLink RX5 9 "ShelfStages$Log" "kind" "[I") (by decide +kernel)
  have kmC := hts (Cond.code Lib.Math.min.name Lib.Math.min.code 2 (some .int)) (by decide +kernel)
  have kmI := hts (Cond.initialized "java/lang/Math") (by decide +kernel)
  have kmS := hts (Cond.static Lib.Math.min.name) (by decide +kernel)
  have km_35 := hts (Cond.methodLink RX5 35 Lib.Math.min.name) (by decide +kernel)
  have i_X5 : ∀ w ∈ wsX50, w ∈ wsX5_append := by decide +kernel
  obtain ⟨A, hA⟩ : ∃ A, A = va_B [(h0, .inr (5, [.int (nI lz), .int (nI nx), .ref x0, .ref x1, .ref x2, .ref x3])), (x0, .inl (cI, 10, .inl kind)), (x1, .inl (cI, 10, .inl batch)), (x2, .inl (cI, 10, .inl units)), (x3, .inl (cI, 10, .inl day))] := ⟨_, rfl⟩
  have hD : va_D A [(h0, .inr (5, [.int (nI lz), .int (nI nx), .ref x0, .ref x1, .ref x2, .ref x3])), (x0, .inl (cI, 10, .inl kind)), (x1, .inl (cI, 10, .inl batch)), (x2, .inl (cI, 10, .inl units)), (x3, .inl (cI, 10, .inl day))] := hA ▸ hD0.own
  have hS : va_S A s.heap s.heap [] := va_S.rf
  have hl := lv_entry ([.ref h0, .int vk, .int vb, .int vu, .int vd]) (n := 5) (Nat.le_of_ble_eq_true rfl)
  rw [lg_entry_eq]
  generalize (lg_sl ([.ref h0, .int vk, .int vb, .int vu, .int vd]) ++ List.replicate (5 - (lg_sl ([.ref h0, .int vk, .int vb, .int vu, .int vd])).length) Slot.unset).toArray = ls at hl ⊢
  have hl : lv_has ls 5 [(0, .ref h0), (1, .int vk), (2, .int vb), (3, .int vu), (4, .int vd)] := hl
  refine lv_aload_n hx hb dX5_append_0 rfl (lv_at hl 0 rfl) ?_
  refine va_get (D := (dC, dI)) (ci := 5) (v := .ref x0) (C := RX5) (T := TX5) (N := 6) hx hb hts i_X5 hown hK hP 0 rfl rfl 2 (by decide) k_9 (fun _ h9 => h9) rfl dX5_append_1 ?_
  refine lv_aload_n hx hb dX5_append_4 rfl (lv_at hl 0 rfl) ?_
  refine va_get (D := (dC, dI)) (ci := 5) (v := .int (nI nx)) (C := RX5) (T := TX5) (N := 6) hx hb hts i_X5 hown hK hP 0 rfl rfl 1 (by decide) k_28 (fun _ h9 => h9) rfl dX5_append_5 ?_
  refine lv_iload_n hx hb dX5_append_8 rfl (lv_at hl 1 rfl) ?_
  refine xr_iast hx hb hK hP hD hS 1 0 rfl rfl (i := nx) (by omega) (by decide) dX5_append_9 (fun H locs hP hD hS => ?_)
  have hP : va_P (dC, dI) vwCl [(h0, .inr (5, [.int (nI lz), .int (nI nx), .ref x0, .ref x1, .ref x2, .ref x3])), (x0, .inl (cI, 10, .inl (upd kind nx vk))), (x1, .inl (cI, 10, .inl batch)), (x2, .inl (cI, 10, .inl units)), (x3, .inl (cI, 10, .inl day))] H := hP
  have hD : va_D A [(h0, .inr (5, [.int (nI lz), .int (nI nx), .ref x0, .ref x1, .ref x2, .ref x3])), (x0, .inl (cI, 10, .inl (upd kind nx vk))), (x1, .inl (cI, 10, .inl batch)), (x2, .inl (cI, 10, .inl units)), (x3, .inl (cI, 10, .inl day))] := hD
  refine lv_aload_n hx hb dX5_append_10 rfl (lv_at hl 0 rfl) ?_
  refine va_get (D := (dC, dI)) (ci := 5) (v := .ref x1) (C := RX5) (T := TX5) (N := 6) hx hb hts i_X5 hown hK hP 0 rfl rfl 3 (by decide) k_15 (fun _ h9 => h9) rfl dX5_append_11 ?_
  refine lv_aload_n hx hb dX5_append_14 rfl (lv_at hl 0 rfl) ?_
  refine va_get (D := (dC, dI)) (ci := 5) (v := .int (nI nx)) (C := RX5) (T := TX5) (N := 6) hx hb hts i_X5 hown hK hP 0 rfl rfl 1 (by decide) k_28 (fun _ h9 => h9) rfl dX5_append_15 ?_
  refine lv_iload_n hx hb dX5_append_18 rfl (lv_at hl 2 rfl) ?_
  refine xr_iast hx hb hK hP hD hS 2 0 rfl rfl (i := nx) (by omega) (by decide) dX5_append_19 (fun H locs hP hD hS => ?_)
  have hP : va_P (dC, dI) vwCl [(h0, .inr (5, [.int (nI lz), .int (nI nx), .ref x0, .ref x1, .ref x2, .ref x3])), (x0, .inl (cI, 10, .inl (upd kind nx vk))), (x1, .inl (cI, 10, .inl (upd batch nx vb))), (x2, .inl (cI, 10, .inl units)), (x3, .inl (cI, 10, .inl day))] H := hP
  have hD : va_D A [(h0, .inr (5, [.int (nI lz), .int (nI nx), .ref x0, .ref x1, .ref x2, .ref x3])), (x0, .inl (cI, 10, .inl (upd kind nx vk))), (x1, .inl (cI, 10, .inl (upd batch nx vb))), (x2, .inl (cI, 10, .inl units)), (x3, .inl (cI, 10, .inl day))] := hD
  refine lv_aload_n hx hb dX5_append_20 rfl (lv_at hl 0 rfl) ?_
  refine va_get (D := (dC, dI)) (ci := 5) (v := .ref x2) (C := RX5) (T := TX5) (N := 6) hx hb hts i_X5 hown hK hP 0 rfl rfl 4 (by decide) k_18 (fun _ h9 => h9) rfl dX5_append_21 ?_
  refine lv_aload_n hx hb dX5_append_24 rfl (lv_at hl 0 rfl) ?_
  refine va_get (D := (dC, dI)) (ci := 5) (v := .int (nI nx)) (C := RX5) (T := TX5) (N := 6) hx hb hts i_X5 hown hK hP 0 rfl rfl 1 (by decide) k_28 (fun _ h9 => h9) rfl dX5_append_25 ?_
  refine lv_iload_n hx hb dX5_append_28 rfl (lv_at hl 3 rfl) ?_
  refine xr_iast hx hb hK hP hD hS 3 0 rfl rfl (i := nx) (by omega) (by decide) dX5_append_29 (fun H locs hP hD hS => ?_)
  have hP : va_P (dC, dI) vwCl [(h0, .inr (5, [.int (nI lz), .int (nI nx), .ref x0, .ref x1, .ref x2, .ref x3])), (x0, .inl (cI, 10, .inl (upd kind nx vk))), (x1, .inl (cI, 10, .inl (upd batch nx vb))), (x2, .inl (cI, 10, .inl (upd units nx vu))), (x3, .inl (cI, 10, .inl day))] H := hP
  have hD : va_D A [(h0, .inr (5, [.int (nI lz), .int (nI nx), .ref x0, .ref x1, .ref x2, .ref x3])), (x0, .inl (cI, 10, .inl (upd kind nx vk))), (x1, .inl (cI, 10, .inl (upd batch nx vb))), (x2, .inl (cI, 10, .inl (upd units nx vu))), (x3, .inl (cI, 10, .inl day))] := hD
  refine lv_aload_n hx hb dX5_append_30 rfl (lv_at hl 0 rfl) ?_
  refine va_get (D := (dC, dI)) (ci := 5) (v := .ref x3) (C := RX5) (T := TX5) (N := 6) hx hb hts i_X5 hown hK hP 0 rfl rfl 5 (by decide) k_21 (fun _ h9 => h9) rfl dX5_append_31 ?_
  refine lv_aload_n hx hb dX5_append_34 rfl (lv_at hl 0 rfl) ?_
  refine va_get (D := (dC, dI)) (ci := 5) (v := .int (nI nx)) (C := RX5) (T := TX5) (N := 6) hx hb hts i_X5 hown hK hP 0 rfl rfl 1 (by decide) k_28 (fun _ h9 => h9) rfl dX5_append_35 ?_
  refine lv_iload hx hb dX5_append_38 (lv_at hl 4 rfl) ?_
  refine xr_iast hx hb hK hP hD hS 4 0 rfl rfl (i := nx) (by omega) (by decide) dX5_append_40 (fun H locs hP hD hS => ?_)
  have hP : va_P (dC, dI) vwCl [(h0, .inr (5, [.int (nI lz), .int (nI nx), .ref x0, .ref x1, .ref x2, .ref x3])), (x0, .inl (cI, 10, .inl (upd kind nx vk))), (x1, .inl (cI, 10, .inl (upd batch nx vb))), (x2, .inl (cI, 10, .inl (upd units nx vu))), (x3, .inl (cI, 10, .inl (upd day nx vd)))] H := hP
  have hD : va_D A [(h0, .inr (5, [.int (nI lz), .int (nI nx), .ref x0, .ref x1, .ref x2, .ref x3])), (x0, .inl (cI, 10, .inl (upd kind nx vk))), (x1, .inl (cI, 10, .inl (upd batch nx vb))), (x2, .inl (cI, 10, .inl (upd units nx vu))), (x3, .inl (cI, 10, .inl (upd day nx vd)))] := hD
  refine lv_aload_n hx hb dX5_append_41 rfl (lv_at hl 0 rfl) ?_
  refine lv_aload_n hx hb dX5_append_42 rfl (lv_at hl 0 rfl) ?_
  refine va_get (D := (dC, dI)) (ci := 5) (v := .int (nI nx)) (C := RX5) (T := TX5) (N := 6) hx hb hts i_X5 hown hK hP 0 rfl rfl 1 (by decide) k_28 (fun _ h9 => h9) rfl dX5_append_43 ?_
  refine lv_iconst (v := nI 1) hx hb dX5_append_46 (by decide) ?_
  refine xr_iadd_n hx hb dX5_append_47 ?_
  refine lv_bipush (v := nI 10) hx hb dX5_append_48 (by decide) ?_
  refine lv_irem hx hb dX5_append_50 (by decide) ?_
  refine xr_top (nI_rem (by omega) (by omega) (by omega)) ?_
  refine va_put (D := (dC, dI)) (ci := 5) (v := .int (nI ((nx + 1) % 10))) (ty := .int) (C := RX5) (T := TX5) (N := 6) hx hb hts i_X5 tyX5 tyX5_ok nmX5 hown hK hP hD hS 0 rfl rfl 1 (by decide) k_28 (fun _ h9 => h9) rfl (by decide +kernel) rfl rfl (Nat.le_of_ble_eq_true rfl) dX5_append_51 (fun H locs hP hD hS => ?_)
  have hP : va_P (dC, dI) vwCl [(h0, .inr (5, [.int (nI lz), .int (nI ((nx + 1) % 10)), .ref x0, .ref x1, .ref x2, .ref x3])), (x0, .inl (cI, 10, .inl (upd kind nx vk))), (x1, .inl (cI, 10, .inl (upd batch nx vb))), (x2, .inl (cI, 10, .inl (upd units nx vu))), (x3, .inl (cI, 10, .inl (upd day nx vd)))] H := hP
  have hD : va_D A [(h0, .inr (5, [.int (nI lz), .int (nI ((nx + 1) % 10)), .ref x0, .ref x1, .ref x2, .ref x3])), (x0, .inl (cI, 10, .inl (upd kind nx vk))), (x1, .inl (cI, 10, .inl (upd batch nx vb))), (x2, .inl (cI, 10, .inl (upd units nx vu))), (x3, .inl (cI, 10, .inl (upd day nx vd)))] := hD
  refine lv_aload_n hx hb dX5_append_54 rfl (lv_at hl 0 rfl) ?_
  refine lv_aload_n hx hb dX5_append_55 rfl (lv_at hl 0 rfl) ?_
  refine va_get (D := (dC, dI)) (ci := 5) (v := .int (nI lz)) (C := RX5) (T := TX5) (N := 6) hx hb hts i_X5 hown hK hP 0 rfl rfl 0 (by decide) k_24 (fun _ h9 => h9) rfl dX5_append_56 ?_
  refine lv_iconst (v := nI 1) hx hb dX5_append_59 (by decide) ?_
  refine xr_iadd_n hx hb dX5_append_60 ?_
  refine lv_bipush (v := nI 10) hx hb dX5_append_61 (by decide) ?_
  refine va_mmin hx hb (by rw [hml]; exact hl.1.symm) hown km_35 kmS kmI kmC (Nat.le_of_ble_eq_true rfl) (Nat.le_of_ble_eq_true rfl) (Nat.zero_le _) (Nat.zero_le _) dX5_append_63 ?_
  refine xr_top (nI_min (by omega) (by omega)) ?_
  refine va_put (D := (dC, dI)) (ci := 5) (v := .int (nI (min (lz + 1) 10))) (ty := .int) (C := RX5) (T := TX5) (N := 6) hx hb hts i_X5 tyX5 tyX5_ok nmX5 hown hK hP hD hS 0 rfl rfl 0 (by decide) k_24 (fun _ h9 => h9) rfl (by decide +kernel) rfl rfl (Nat.le_of_ble_eq_true rfl) dX5_append_66 (fun H locs hP hD hS => ?_)
  have hP : va_P (dC, dI) vwCl [(h0, .inr (5, [.int (nI (min (lz + 1) 10)), .int (nI ((nx + 1) % 10)), .ref x0, .ref x1, .ref x2, .ref x3])), (x0, .inl (cI, 10, .inl (upd kind nx vk))), (x1, .inl (cI, 10, .inl (upd batch nx vb))), (x2, .inl (cI, 10, .inl (upd units nx vu))), (x3, .inl (cI, 10, .inl (upd day nx vd)))] H := hP
  have hD : va_D A [(h0, .inr (5, [.int (nI (min (lz + 1) 10)), .int (nI ((nx + 1) % 10)), .ref x0, .ref x1, .ref x2, .ref x3])), (x0, .inl (cI, 10, .inl (upd kind nx vk))), (x1, .inl (cI, 10, .inl (upd batch nx vb))), (x2, .inl (cI, 10, .inl (upd units nx vu))), (x3, .inl (cI, 10, .inl (upd day nx vd)))] := hD
  have hP9 : va_P (dC, dI) vwCl [(h0, .inr (5, [.int (nI (min (lz + 1) 10)), .int (nI ((nx + 1) % 10)), .ref x0, .ref x1, .ref x2, .ref x3])), (x0, .inl (cI, 10, .inl (upd kind nx vk))), (x1, .inl (cI, 10, .inl (upd batch nx vb))), (x2, .inl (cI, 10, .inl (upd units nx vu))), (x3, .inl (cI, 10, .inl (upd day nx vd)))] H := hP
  have hS9 : va_S (va_B [(h0, .inr (5, [.int (nI lz), .int (nI nx), .ref x0, .ref x1, .ref x2, .ref x3])), (x0, .inl (cI, 10, .inl kind)), (x1, .inl (cI, 10, .inl batch)), (x2, .inl (cI, 10, .inl units)), (x3, .inl (cI, 10, .inl day))]) s.heap H locs := by rw [← hA]; exact hS
  exact W.vret hx hb hr (fun t ht hW => ⟨⟨_, rfl, rfl, by rw [ht]; exact hP9⟩, hS9.X ht⟩) hS9.2.2 dX5_append_69
theorem hdV_X5_placeOf : yX5_placeOf.cls = RX5 ∧ yX5_placeOf.cls ≠ "java/lang/invoke/MethodHandle" ∧ yX5_placeOf.cls ≠ "java/lang/invoke/VarHandle" ∧ (parseMethodDescriptor yX5_placeOf.desc).map (fun d => d.parameters.length) = some 1 := by decide +kernel
set_option maxHeartbeats 4000000 in
set_option maxRecDepth 100000 in
theorem c_X5_placeOf (l : Launch) (dC : Nat → ClassId) (dI : Nat → Nat → Nat) (cI cF cC cZ cQ cS : ClassId) (h0 : Nat) (h0_size : Value) (h0_kind : Value) (h0_batch : Value) (h0_units : Value) (h0_day : Value) (nx : Nat) (bk : Nat) (hnx : nx < 10) (hbk : bk < 10) : Met l yX5_placeOf wsX5_placeOf ({ frames := 1, cells := 0, slots := 0, locals := 22 }) (xPre (dC, dI) vwCl [.ref h0, .int (nI bk)] (xtys cI cF cC cZ cQ cS) [(h0, .inr (5, [h0_size, .int (nI nx), h0_kind, h0_batch, h0_units, h0_day]))]) (vp_Si (fun r0 => r0 = nI ((nx + 9 - bk) % 10))) 0 0 (fun _ => False) := by
  refine Met.ofW (cc := cX5_placeOf) (maxL := 2) (ret := (some .int)) (by decide) rfl ?_
  intro p e s m args below meth c s₁ B hml hv
  obtain ⟨rfl, hP, hK, hD0, hN⟩ := hv
  have hx := B.exec
  have hb := B.bytes
  have hr := B.returns
  have hts := atoms_spec (ws := wsX5_placeOf) B.pre
  have hown : s.vm.findClass RX5 = some m.cls := findClass_of_methodNamed B.named
  have hlocks := B.notSynchronized
  have k_28 := hts (Cond.fieldLink RX5 28 "ShelfStages$Log" "next" "I") (by decide +kernel)
  have i_X5 : ∀ w ∈ wsX50, w ∈ wsX5_placeOf := by decide +kernel
  have hD := hD0
  have hl := lv_entry ([.ref h0, .int (nI bk)]) (n := 2) (Nat.le_of_ble_eq_true rfl)
  rw [lg_entry_eq]
  generalize (lg_sl ([.ref h0, .int (nI bk)]) ++ List.replicate (2 - (lg_sl ([.ref h0, .int (nI bk)])).length) Slot.unset).toArray = ls at hl ⊢
  have hl : lv_has ls 2 [(0, .ref h0), (1, .int (nI bk))] := hl
  refine lv_aload_n hx hb dX5_placeOf_0 rfl (lv_at hl 0 rfl) ?_
  refine va_get (D := (dC, dI)) (ci := 5) (v := .int (nI nx)) (C := RX5) (T := TX5) (N := 6) hx hb hts i_X5 hown hK hP 0 rfl rfl 1 (by decide) k_28 (fun _ h9 => h9) rfl dX5_placeOf_1 ?_
  refine lv_iconst (v := nI 1) hx hb dX5_placeOf_4 (by decide) ?_
  refine lv_isub hx hb dX5_placeOf_5 ?_
  refine lv_iload_n hx hb dX5_placeOf_6 rfl (lv_at hl 1 rfl) ?_
  refine lv_isub hx hb dX5_placeOf_7 ?_
  refine lv_bipush (v := nI 10) hx hb dX5_placeOf_8 (by decide) ?_
  refine xkRi (xSs (Ws' := ([] : List Cond)) (As := [.int (((nI nx) - (nI 1)) - (nI bk)), .int (nI 10)]) (rest := []) (wc := []) hx hb hml hown hts (c_J9_floorMod_7cf53 l dC dI cI cF cC cZ cQ cS (((nI nx) - (nI 1)) - (nI bk)) (nI 10) (by decide)) 2 (fun hR => va_cwS 2 hts gX5_placeOf_J9_floorMod_7cf53 rfl rfl rfl hdN_J9_floorMod_7cf53 hR) ⟨Nat.le_of_ble_eq_true rfl, Nat.le_of_ble_eq_true rfl⟩ hN hK hP hD [] rfl rfl rfl hl.1 rfl (Nat.le_of_ble_eq_true rfl) dX5_placeOf_10 ⟨Nat.zero_le _, Nat.zero_le _⟩) (fun r_1 hr_1 => ?_)
  obtain rfl : r_1 = xfmod (((nI nx) - (nI 1)) - (nI bk)) (nI 10) := hr_1
  exact W.iret (v := xfmod (((nI nx) - (nI 1)) - (nI bk)) (nI 10)) hx hb hr (fun t ht hW => ⟨_, rfl, (show xfmod (((nI nx) - (nI 1)) - (nI bk)) (nI 10) = nI ((nx + 9 - bk) % 10) from (xfmod_place hnx hbk)), ht⟩) (fun q h => by cases h) dX5_placeOf_13
theorem hdV_X5_copyFrom : yX5_copyFrom.cls = RX5 ∧ yX5_copyFrom.cls ≠ "java/lang/invoke/MethodHandle" ∧ yX5_copyFrom.cls ≠ "java/lang/invoke/VarHandle" ∧ (parseMethodDescriptor yX5_copyFrom.desc).map (fun d => d.parameters.length) = some 1 := by decide +kernel
set_option maxHeartbeats 4000000 in
set_option maxRecDepth 100000 in
theorem c_X5_copyFrom (l : Launch) (dC : Nat → ClassId) (dI : Nat → Nat → Nat) (cI cF cC cZ cQ cS : ClassId) (lz : Int32) (nx : Int32) (lz9 : Int32) (nx9 : Int32) (h0 : Nat) (x0 : Nat) (x1 : Nat) (x2 : Nat) (x3 : Nat) (kind : Nat → Int32) (batch : Nat → Int32) (units : Nat → Int32) (day : Nat → Int32) (o0 : Nat) (y0 : Nat) (y1 : Nat) (y2 : Nat) (y3 : Nat) (kind9 : Nat → Int32) (batch9 : Nat → Int32) (units9 : Nat → Int32) (day9 : Nat → Int32) : Met l yX5_copyFrom wsX5_copyFrom ({ frames := 2, cells := 0, slots := 0, locals := 61 }) (xPre (dC, dI) vwCl [.ref h0, .ref o0] (xtys cI cF cC cZ cQ cS) [(h0, .inr (5, [.int lz, .int nx, .ref x0, .ref x1, .ref x2, .ref x3])), (x0, .inl (cI, 10, .inl kind)), (x1, .inl (cI, 10, .inl batch)), (x2, .inl (cI, 10, .inl units)), (x3, .inl (cI, 10, .inl day)), (o0, .inr (5, [.int lz9, .int nx9, .ref y0, .ref y1, .ref y2, .ref y3])), (y0, .inl (cI, 10, .inl kind9)), (y1, .inl (cI, 10, .inl batch9)), (y2, .inl (cI, 10, .inl units9)), (y3, .inl (cI, 10, .inl day9))]) (xWv (dC, dI) vwCl [(h0, .inr (5, [.int lz, .int nx, .ref x0, .ref x1, .ref x2, .ref x3])), (x0, .inl (cI, 10, .inl kind)), (x1, .inl (cI, 10, .inl batch)), (x2, .inl (cI, 10, .inl units)), (x3, .inl (cI, 10, .inl day)), (o0, .inr (5, [.int lz9, .int nx9, .ref y0, .ref y1, .ref y2, .ref y3])), (y0, .inl (cI, 10, .inl kind9)), (y1, .inl (cI, 10, .inl batch9)), (y2, .inl (cI, 10, .inl units9)), (y3, .inl (cI, 10, .inl day9))] (fun w0 => w0 = [(h0, .inr (5, [.int lz9, .int nx9, .ref x0, .ref x1, .ref x2, .ref x3])), (x0, .inl (cI, 10, .inl kind9)), (x1, .inl (cI, 10, .inl batch9)), (x2, .inl (cI, 10, .inl units9)), (x3, .inl (cI, 10, .inl day9)), (o0, .inr (5, [.int lz9, .int nx9, .ref y0, .ref y1, .ref y2, .ref y3])), (y0, .inl (cI, 10, .inl kind9)), (y1, .inl (cI, 10, .inl batch9)), (y2, .inl (cI, 10, .inl units9)), (y3, .inl (cI, 10, .inl day9))])) 0 0 (va_B [(h0, .inr (5, [.int lz, .int nx, .ref x0, .ref x1, .ref x2, .ref x3])), (x0, .inl (cI, 10, .inl kind)), (x1, .inl (cI, 10, .inl batch)), (x2, .inl (cI, 10, .inl units)), (x3, .inl (cI, 10, .inl day)), (o0, .inr (5, [.int lz9, .int nx9, .ref y0, .ref y1, .ref y2, .ref y3])), (y0, .inl (cI, 10, .inl kind9)), (y1, .inl (cI, 10, .inl batch9)), (y2, .inl (cI, 10, .inl units9)), (y3, .inl (cI, 10, .inl day9))]) := by
  refine Met.ofW (cc := cX5_copyFrom) (maxL := 2) (ret := none) (by decide) rfl ?_
  intro p e s m args below meth c s₁ B hml hv
  obtain ⟨rfl, hP, hK, hD0, hN⟩ := hv
  have hx := B.exec
  have hb := B.bytes
  have hr := B.returns
  have hts := atoms_spec (ws := wsX5_copyFrom) B.pre
  have hown : s.vm.findClass RX5 = some m.cls := findClass_of_methodNamed B.named
  have hlocks := B.notSynchronized
  have k_15 := hts (Cond.fieldLink RX5 15 "ShelfStages$Log" "batch" "[I") (by decide +kernel)
  have k_18 := hts (Cond.fieldLink RX5 18 "ShelfStages$Log" "units" "[I") (by decide +kernel)
  have k_21 := hts (Cond.fieldLink RX5 21 "ShelfStages$Log" "day" "[I") (by decide +kernel)
  have k_24 := hts (Cond.fieldLink RX5 24 "ShelfStages$Log" "size" "I") (by decide +kernel)
  have k_28 := hts (Cond.fieldLink RX5 28 "ShelfStages$Log" "next" "I") (by decide +kernel)
  have k_9 := hts (Cond.fieldLink RX5 9 "ShelfStages$Log" "kind" "[I") (by decide +kernel)
  have ki_RX9 := hts (Cond.initialized RX9) (by decide +kernel)
  have ks_X9_copyRow := hts (Cond.static yX9_copyRow) (by decide +kernel)
  have i_X5 : ∀ w ∈ wsX50, w ∈ wsX5_copyFrom := by decide +kernel
  obtain ⟨A, hA⟩ : ∃ A, A = va_B [(h0, .inr (5, [.int lz, .int nx, .ref x0, .ref x1, .ref x2, .ref x3])), (x0, .inl (cI, 10, .inl kind)), (x1, .inl (cI, 10, .inl batch)), (x2, .inl (cI, 10, .inl units)), (x3, .inl (cI, 10, .inl day)), (o0, .inr (5, [.int lz9, .int nx9, .ref y0, .ref y1, .ref y2, .ref y3])), (y0, .inl (cI, 10, .inl kind9)), (y1, .inl (cI, 10, .inl batch9)), (y2, .inl (cI, 10, .inl units9)), (y3, .inl (cI, 10, .inl day9))] := ⟨_, rfl⟩
  have hD : va_D A [(h0, .inr (5, [.int lz, .int nx, .ref x0, .ref x1, .ref x2, .ref x3])), (x0, .inl (cI, 10, .inl kind)), (x1, .inl (cI, 10, .inl batch)), (x2, .inl (cI, 10, .inl units)), (x3, .inl (cI, 10, .inl day)), (o0, .inr (5, [.int lz9, .int nx9, .ref y0, .ref y1, .ref y2, .ref y3])), (y0, .inl (cI, 10, .inl kind9)), (y1, .inl (cI, 10, .inl batch9)), (y2, .inl (cI, 10, .inl units9)), (y3, .inl (cI, 10, .inl day9))] := hA ▸ hD0.own
  have hS : va_S A s.heap s.heap [] := va_S.rf
  have hl := lv_entry ([.ref h0, .ref o0]) (n := 2) (Nat.le_of_ble_eq_true rfl)
  rw [lg_entry_eq]
  generalize (lg_sl ([.ref h0, .ref o0]) ++ List.replicate (2 - (lg_sl ([.ref h0, .ref o0])).length) Slot.unset).toArray = ls at hl ⊢
  have hl : lv_has ls 2 [(0, .ref h0), (1, .ref o0)] := hl
  refine lv_aload_n hx hb dX5_copyFrom_0 rfl (lv_at hl 0 rfl) ?_
  refine lv_aload_n hx hb dX5_copyFrom_1 rfl (lv_at hl 1 rfl) ?_
  refine va_get (D := (dC, dI)) (ci := 5) (v := .int lz9) (C := RX5) (T := TX5) (N := 6) hx hb hts i_X5 hown hK hP 5 rfl rfl 0 (by decide) k_24 (fun _ h9 => h9) rfl dX5_copyFrom_2 ?_
  refine va_put (D := (dC, dI)) (ci := 5) (v := .int lz9) (ty := .int) (C := RX5) (T := TX5) (N := 6) hx hb hts i_X5 tyX5 tyX5_ok nmX5 hown hK hP hD hS 0 rfl rfl 0 (by decide) k_24 (fun _ h9 => h9) rfl (by decide +kernel) rfl rfl (Nat.le_of_ble_eq_true rfl) dX5_copyFrom_5 (fun H locs hP hD hS => ?_)
  have hP : va_P (dC, dI) vwCl [(h0, .inr (5, [.int lz9, .int nx, .ref x0, .ref x1, .ref x2, .ref x3])), (x0, .inl (cI, 10, .inl kind)), (x1, .inl (cI, 10, .inl batch)), (x2, .inl (cI, 10, .inl units)), (x3, .inl (cI, 10, .inl day)), (o0, .inr (5, [.int lz9, .int nx9, .ref y0, .ref y1, .ref y2, .ref y3])), (y0, .inl (cI, 10, .inl kind9)), (y1, .inl (cI, 10, .inl batch9)), (y2, .inl (cI, 10, .inl units9)), (y3, .inl (cI, 10, .inl day9))] H := hP
  have hD : va_D A [(h0, .inr (5, [.int lz9, .int nx, .ref x0, .ref x1, .ref x2, .ref x3])), (x0, .inl (cI, 10, .inl kind)), (x1, .inl (cI, 10, .inl batch)), (x2, .inl (cI, 10, .inl units)), (x3, .inl (cI, 10, .inl day)), (o0, .inr (5, [.int lz9, .int nx9, .ref y0, .ref y1, .ref y2, .ref y3])), (y0, .inl (cI, 10, .inl kind9)), (y1, .inl (cI, 10, .inl batch9)), (y2, .inl (cI, 10, .inl units9)), (y3, .inl (cI, 10, .inl day9))] := hD
  refine lv_aload_n hx hb dX5_copyFrom_8 rfl (lv_at hl 0 rfl) ?_
  refine lv_aload_n hx hb dX5_copyFrom_9 rfl (lv_at hl 1 rfl) ?_
  refine va_get (D := (dC, dI)) (ci := 5) (v := .int nx9) (C := RX5) (T := TX5) (N := 6) hx hb hts i_X5 hown hK hP 5 rfl rfl 1 (by decide) k_28 (fun _ h9 => h9) rfl dX5_copyFrom_10 ?_
  refine va_put (D := (dC, dI)) (ci := 5) (v := .int nx9) (ty := .int) (C := RX5) (T := TX5) (N := 6) hx hb hts i_X5 tyX5 tyX5_ok nmX5 hown hK hP hD hS 0 rfl rfl 1 (by decide) k_28 (fun _ h9 => h9) rfl (by decide +kernel) rfl rfl (Nat.le_of_ble_eq_true rfl) dX5_copyFrom_13 (fun H locs hP hD hS => ?_)
  have hP : va_P (dC, dI) vwCl [(h0, .inr (5, [.int lz9, .int nx9, .ref x0, .ref x1, .ref x2, .ref x3])), (x0, .inl (cI, 10, .inl kind)), (x1, .inl (cI, 10, .inl batch)), (x2, .inl (cI, 10, .inl units)), (x3, .inl (cI, 10, .inl day)), (o0, .inr (5, [.int lz9, .int nx9, .ref y0, .ref y1, .ref y2, .ref y3])), (y0, .inl (cI, 10, .inl kind9)), (y1, .inl (cI, 10, .inl batch9)), (y2, .inl (cI, 10, .inl units9)), (y3, .inl (cI, 10, .inl day9))] H := hP
  have hD : va_D A [(h0, .inr (5, [.int lz9, .int nx9, .ref x0, .ref x1, .ref x2, .ref x3])), (x0, .inl (cI, 10, .inl kind)), (x1, .inl (cI, 10, .inl batch)), (x2, .inl (cI, 10, .inl units)), (x3, .inl (cI, 10, .inl day)), (o0, .inr (5, [.int lz9, .int nx9, .ref y0, .ref y1, .ref y2, .ref y3])), (y0, .inl (cI, 10, .inl kind9)), (y1, .inl (cI, 10, .inl batch9)), (y2, .inl (cI, 10, .inl units9)), (y3, .inl (cI, 10, .inl day9))] := hD
  refine lv_aload_n hx hb dX5_copyFrom_16 rfl (lv_at hl 1 rfl) ?_
  refine va_get (D := (dC, dI)) (ci := 5) (v := .ref y0) (C := RX5) (T := TX5) (N := 6) hx hb hts i_X5 hown hK hP 5 rfl rfl 2 (by decide) k_9 (fun _ h9 => h9) rfl dX5_copyFrom_17 ?_
  refine lv_aload_n hx hb dX5_copyFrom_20 rfl (lv_at hl 0 rfl) ?_
  refine va_get (D := (dC, dI)) (ci := 5) (v := .ref x0) (C := RX5) (T := TX5) (N := 6) hx hb hts i_X5 hown hK hP 0 rfl rfl 2 (by decide) k_9 (fun _ h9 => h9) rfl dX5_copyFrom_21 ?_
  refine xkV2 (xSN (As := [.ref y0, .ref x0]) (rest := []) (wc := [(y0, .inl (cI, 10, .inl kind9)), (x0, .inl (cI, 10, .inl kind))]) hx hb hml hown hts (c_X9_copyRow l dC dI cI cF cC cZ cQ cS y0 kind9 x0 kind 10 (by omega)) 2 gX5_copyFrom_X9_copyRow_n31 rfl rfl rfl (hN (RX5, 31, yX9_copyRow) (List.mem_of_getElem? (i := 12) rfl)) ki_RX9 ks_X9_copyRow hdN_X9_copyRow ⟨Nat.le_of_ble_eq_true rfl, Nat.le_of_ble_eq_true rfl⟩ hN hK hP hD [6, 1] rfl rfl rfl hl.1 rfl (Nat.le_of_ble_eq_true rfl) dX5_copyFrom_24 ⟨Nat.zero_le _, Nat.zero_le _⟩) hP hD hS [6, 1] [0, 1, 2, 3, 4, 5, 6, 7, 8, 9] rfl rfl 10 rfl (by decide +kernel) (fun H locs hP hD hS => ?_)
  have hP : va_P (dC, dI) vwCl [(h0, .inr (5, [.int lz9, .int nx9, .ref x0, .ref x1, .ref x2, .ref x3])), (x0, .inl (cI, 10, .inl kind9)), (x1, .inl (cI, 10, .inl batch)), (x2, .inl (cI, 10, .inl units)), (x3, .inl (cI, 10, .inl day)), (o0, .inr (5, [.int lz9, .int nx9, .ref y0, .ref y1, .ref y2, .ref y3])), (y0, .inl (cI, 10, .inl kind9)), (y1, .inl (cI, 10, .inl batch9)), (y2, .inl (cI, 10, .inl units9)), (y3, .inl (cI, 10, .inl day9))] H := hP
  have hD : va_D A [(h0, .inr (5, [.int lz9, .int nx9, .ref x0, .ref x1, .ref x2, .ref x3])), (x0, .inl (cI, 10, .inl kind9)), (x1, .inl (cI, 10, .inl batch)), (x2, .inl (cI, 10, .inl units)), (x3, .inl (cI, 10, .inl day)), (o0, .inr (5, [.int lz9, .int nx9, .ref y0, .ref y1, .ref y2, .ref y3])), (y0, .inl (cI, 10, .inl kind9)), (y1, .inl (cI, 10, .inl batch9)), (y2, .inl (cI, 10, .inl units9)), (y3, .inl (cI, 10, .inl day9))] := hD
  refine lv_aload_n hx hb dX5_copyFrom_27 rfl (lv_at hl 1 rfl) ?_
  refine va_get (D := (dC, dI)) (ci := 5) (v := .ref y1) (C := RX5) (T := TX5) (N := 6) hx hb hts i_X5 hown hK hP 5 rfl rfl 3 (by decide) k_15 (fun _ h9 => h9) rfl dX5_copyFrom_28 ?_
  refine lv_aload_n hx hb dX5_copyFrom_31 rfl (lv_at hl 0 rfl) ?_
  refine va_get (D := (dC, dI)) (ci := 5) (v := .ref x1) (C := RX5) (T := TX5) (N := 6) hx hb hts i_X5 hown hK hP 0 rfl rfl 3 (by decide) k_15 (fun _ h9 => h9) rfl dX5_copyFrom_32 ?_
  refine xkV2 (xSN (As := [.ref y1, .ref x1]) (rest := []) (wc := [(y1, .inl (cI, 10, .inl batch9)), (x1, .inl (cI, 10, .inl batch))]) hx hb hml hown hts (c_X9_copyRow l dC dI cI cF cC cZ cQ cS y1 batch9 x1 batch 10 (by omega)) 2 gX5_copyFrom_X9_copyRow_n31 rfl rfl rfl (hN (RX5, 31, yX9_copyRow) (List.mem_of_getElem? (i := 12) rfl)) ki_RX9 ks_X9_copyRow hdN_X9_copyRow ⟨Nat.le_of_ble_eq_true rfl, Nat.le_of_ble_eq_true rfl⟩ hN hK hP hD [7, 2] rfl rfl rfl hl.1 rfl (Nat.le_of_ble_eq_true rfl) dX5_copyFrom_35 ⟨Nat.zero_le _, Nat.zero_le _⟩) hP hD hS [7, 2] [0, 1, 2, 3, 4, 5, 6, 7, 8, 9] rfl rfl 10 rfl (by decide +kernel) (fun H locs hP hD hS => ?_)
  have hP : va_P (dC, dI) vwCl [(h0, .inr (5, [.int lz9, .int nx9, .ref x0, .ref x1, .ref x2, .ref x3])), (x0, .inl (cI, 10, .inl kind9)), (x1, .inl (cI, 10, .inl batch9)), (x2, .inl (cI, 10, .inl units)), (x3, .inl (cI, 10, .inl day)), (o0, .inr (5, [.int lz9, .int nx9, .ref y0, .ref y1, .ref y2, .ref y3])), (y0, .inl (cI, 10, .inl kind9)), (y1, .inl (cI, 10, .inl batch9)), (y2, .inl (cI, 10, .inl units9)), (y3, .inl (cI, 10, .inl day9))] H := hP
  have hD : va_D A [(h0, .inr (5, [.int lz9, .int nx9, .ref x0, .ref x1, .ref x2, .ref x3])), (x0, .inl (cI, 10, .inl kind9)), (x1, .inl (cI, 10, .inl batch9)), (x2, .inl (cI, 10, .inl units)), (x3, .inl (cI, 10, .inl day)), (o0, .inr (5, [.int lz9, .int nx9, .ref y0, .ref y1, .ref y2, .ref y3])), (y0, .inl (cI, 10, .inl kind9)), (y1, .inl (cI, 10, .inl batch9)), (y2, .inl (cI, 10, .inl units9)), (y3, .inl (cI, 10, .inl day9))] := hD
  refine lv_aload_n hx hb dX5_copyFrom_38 rfl (lv_at hl 1 rfl) ?_
  refine va_get (D := (dC, dI)) (ci := 5) (v := .ref y2) (C := RX5) (T := TX5) (N := 6) hx hb hts i_X5 hown hK hP 5 rfl rfl 4 (by decide) k_18 (fun _ h9 => h9) rfl dX5_copyFrom_39 ?_
  refine lv_aload_n hx hb dX5_copyFrom_42 rfl (lv_at hl 0 rfl) ?_
  refine va_get (D := (dC, dI)) (ci := 5) (v := .ref x2) (C := RX5) (T := TX5) (N := 6) hx hb hts i_X5 hown hK hP 0 rfl rfl 4 (by decide) k_18 (fun _ h9 => h9) rfl dX5_copyFrom_43 ?_
  refine xkV2 (xSN (As := [.ref y2, .ref x2]) (rest := []) (wc := [(y2, .inl (cI, 10, .inl units9)), (x2, .inl (cI, 10, .inl units))]) hx hb hml hown hts (c_X9_copyRow l dC dI cI cF cC cZ cQ cS y2 units9 x2 units 10 (by omega)) 2 gX5_copyFrom_X9_copyRow_n31 rfl rfl rfl (hN (RX5, 31, yX9_copyRow) (List.mem_of_getElem? (i := 12) rfl)) ki_RX9 ks_X9_copyRow hdN_X9_copyRow ⟨Nat.le_of_ble_eq_true rfl, Nat.le_of_ble_eq_true rfl⟩ hN hK hP hD [8, 3] rfl rfl rfl hl.1 rfl (Nat.le_of_ble_eq_true rfl) dX5_copyFrom_46 ⟨Nat.zero_le _, Nat.zero_le _⟩) hP hD hS [8, 3] [0, 1, 2, 3, 4, 5, 6, 7, 8, 9] rfl rfl 10 rfl (by decide +kernel) (fun H locs hP hD hS => ?_)
  have hP : va_P (dC, dI) vwCl [(h0, .inr (5, [.int lz9, .int nx9, .ref x0, .ref x1, .ref x2, .ref x3])), (x0, .inl (cI, 10, .inl kind9)), (x1, .inl (cI, 10, .inl batch9)), (x2, .inl (cI, 10, .inl units9)), (x3, .inl (cI, 10, .inl day)), (o0, .inr (5, [.int lz9, .int nx9, .ref y0, .ref y1, .ref y2, .ref y3])), (y0, .inl (cI, 10, .inl kind9)), (y1, .inl (cI, 10, .inl batch9)), (y2, .inl (cI, 10, .inl units9)), (y3, .inl (cI, 10, .inl day9))] H := hP
  have hD : va_D A [(h0, .inr (5, [.int lz9, .int nx9, .ref x0, .ref x1, .ref x2, .ref x3])), (x0, .inl (cI, 10, .inl kind9)), (x1, .inl (cI, 10, .inl batch9)), (x2, .inl (cI, 10, .inl units9)), (x3, .inl (cI, 10, .inl day)), (o0, .inr (5, [.int lz9, .int nx9, .ref y0, .ref y1, .ref y2, .ref y3])), (y0, .inl (cI, 10, .inl kind9)), (y1, .inl (cI, 10, .inl batch9)), (y2, .inl (cI, 10, .inl units9)), (y3, .inl (cI, 10, .inl day9))] := hD
  refine lv_aload_n hx hb dX5_copyFrom_49 rfl (lv_at hl 1 rfl) ?_
  refine va_get (D := (dC, dI)) (ci := 5) (v := .ref y3) (C := RX5) (T := TX5) (N := 6) hx hb hts i_X5 hown hK hP 5 rfl rfl 5 (by decide) k_21 (fun _ h9 => h9) rfl dX5_copyFrom_50 ?_
  refine lv_aload_n hx hb dX5_copyFrom_53 rfl (lv_at hl 0 rfl) ?_
  refine va_get (D := (dC, dI)) (ci := 5) (v := .ref x3) (C := RX5) (T := TX5) (N := 6) hx hb hts i_X5 hown hK hP 0 rfl rfl 5 (by decide) k_21 (fun _ h9 => h9) rfl dX5_copyFrom_54 ?_
  refine xkV2 (xSN (As := [.ref y3, .ref x3]) (rest := []) (wc := [(y3, .inl (cI, 10, .inl day9)), (x3, .inl (cI, 10, .inl day))]) hx hb hml hown hts (c_X9_copyRow l dC dI cI cF cC cZ cQ cS y3 day9 x3 day 10 (by omega)) 2 gX5_copyFrom_X9_copyRow_n31 rfl rfl rfl (hN (RX5, 31, yX9_copyRow) (List.mem_of_getElem? (i := 12) rfl)) ki_RX9 ks_X9_copyRow hdN_X9_copyRow ⟨Nat.le_of_ble_eq_true rfl, Nat.le_of_ble_eq_true rfl⟩ hN hK hP hD [9, 4] rfl rfl rfl hl.1 rfl (Nat.le_of_ble_eq_true rfl) dX5_copyFrom_57 ⟨Nat.zero_le _, Nat.zero_le _⟩) hP hD hS [9, 4] [0, 1, 2, 3, 4, 5, 6, 7, 8, 9] rfl rfl 10 rfl (by decide +kernel) (fun H locs hP hD hS => ?_)
  have hP : va_P (dC, dI) vwCl [(h0, .inr (5, [.int lz9, .int nx9, .ref x0, .ref x1, .ref x2, .ref x3])), (x0, .inl (cI, 10, .inl kind9)), (x1, .inl (cI, 10, .inl batch9)), (x2, .inl (cI, 10, .inl units9)), (x3, .inl (cI, 10, .inl day9)), (o0, .inr (5, [.int lz9, .int nx9, .ref y0, .ref y1, .ref y2, .ref y3])), (y0, .inl (cI, 10, .inl kind9)), (y1, .inl (cI, 10, .inl batch9)), (y2, .inl (cI, 10, .inl units9)), (y3, .inl (cI, 10, .inl day9))] H := hP
  have hD : va_D A [(h0, .inr (5, [.int lz9, .int nx9, .ref x0, .ref x1, .ref x2, .ref x3])), (x0, .inl (cI, 10, .inl kind9)), (x1, .inl (cI, 10, .inl batch9)), (x2, .inl (cI, 10, .inl units9)), (x3, .inl (cI, 10, .inl day9)), (o0, .inr (5, [.int lz9, .int nx9, .ref y0, .ref y1, .ref y2, .ref y3])), (y0, .inl (cI, 10, .inl kind9)), (y1, .inl (cI, 10, .inl batch9)), (y2, .inl (cI, 10, .inl units9)), (y3, .inl (cI, 10, .inl day9))] := hD
  have hP9 : va_P (dC, dI) vwCl [(h0, .inr (5, [.int lz9, .int nx9, .ref x0, .ref x1, .ref x2, .ref x3])), (x0, .inl (cI, 10, .inl kind9)), (x1, .inl (cI, 10, .inl batch9)), (x2, .inl (cI, 10, .inl units9)), (x3, .inl (cI, 10, .inl day9)), (o0, .inr (5, [.int lz9, .int nx9, .ref y0, .ref y1, .ref y2, .ref y3])), (y0, .inl (cI, 10, .inl kind9)), (y1, .inl (cI, 10, .inl batch9)), (y2, .inl (cI, 10, .inl units9)), (y3, .inl (cI, 10, .inl day9))] H := hP
  have hS9 : va_S (va_B [(h0, .inr (5, [.int lz, .int nx, .ref x0, .ref x1, .ref x2, .ref x3])), (x0, .inl (cI, 10, .inl kind)), (x1, .inl (cI, 10, .inl batch)), (x2, .inl (cI, 10, .inl units)), (x3, .inl (cI, 10, .inl day)), (o0, .inr (5, [.int lz9, .int nx9, .ref y0, .ref y1, .ref y2, .ref y3])), (y0, .inl (cI, 10, .inl kind9)), (y1, .inl (cI, 10, .inl batch9)), (y2, .inl (cI, 10, .inl units9)), (y3, .inl (cI, 10, .inl day9))]) s.heap H locs := by rw [← hA]; exact hS
  exact W.vret hx hb hr (fun t ht hW => ⟨⟨_, rfl, rfl, by rw [ht]; exact hP9⟩, hS9.X ht⟩) hS9.2.2 dX5_copyFrom_60
