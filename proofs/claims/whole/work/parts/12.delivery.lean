theorem hdV_X1_openPart : yX1_openPart.cls = RX1 ∧ yX1_openPart.cls ≠ "java/lang/invoke/MethodHandle" ∧ yX1_openPart.cls ≠ "java/lang/invoke/VarHandle" ∧ (parseMethodDescriptor yX1_openPart.desc).map (fun d => d.parameters.length) = some 1 := by decide +kernel
set_option maxHeartbeats 4000000 in
set_option maxRecDepth 100000 in
theorem c_X1_openPart (l : Launch) (dC : Nat → ClassId) (dI : Nat → Nat → Nat) (cI cF cC cZ cQ cS : ClassId) (h0 : Nat) (h0_size : Value) (h0_numbers : Value) (pt9 : Int32) (dg9 : Int32) (np : Nat) : Met l yX1_openPart wsX1_openPart ({ frames := 0, cells := 0, slots := 0, locals := 0 }) (xPre (dC, dI) vwCl [.ref h0, .int (nI np)] (xtys cI cF cC cZ cQ cS) [(h0, .inr (1, [h0_size, .int pt9, .int dg9, h0_numbers]))]) (xWi (dC, dI) vwCl [(h0, .inr (1, [h0_size, .int pt9, .int dg9, h0_numbers]))] (fun r0 w0 => r0 = nI 1 ∧ w0 = [(h0, .inr (1, [h0_size, .int (nI np), .int (nI 0), h0_numbers]))])) 0 0 (va_B [(h0, .inr (1, [h0_size, .int pt9, .int dg9, h0_numbers]))]) := by
  refine Met.ofW (cc := cX1_openPart) (maxL := 2) (ret := (some .boolean)) (by decide) rfl ?_
  intro p e s m args below meth c s₁ B hml hv
  obtain ⟨rfl, hP, hK, hD0, hN⟩ := hv
  have hx := B.exec
  have hb := B.bytes
  have hr := B.returns
  have hts := atoms_spec (ws := wsX1_openPart) B.pre
  have hown : s.vm.findClass RX1 = some m.cls := findClass_of_methodNamed B.named
  have hlocks := B.notSynchronized
  have k_28 := hts (Cond.fieldLink RX1 28 "ShelfStages$Delivery" "part" "I") (by decide +kernel)
  have k_31 := hts (Cond.fieldLink RX1 31 "ShelfStages$Delivery" "digits" "I") (by decide +kernel)
  have i_X1 : ∀ w ∈ wsX10, w ∈ wsX1_openPart := by decide +kernel
  obtain ⟨A, hA⟩ : ∃ A, A = va_B [(h0, .inr (1, [h0_size, .int pt9, .int dg9, h0_numbers]))] := ⟨_, rfl⟩
  have hD : va_D A [(h0, .inr (1, [h0_size, .int pt9, .int dg9, h0_numbers]))] := hA ▸ hD0.own
  have hS : va_S A s.heap s.heap [] := va_S.rf
  have hl := lv_entry ([.ref h0, .int (nI np)]) (n := 2) (Nat.le_of_ble_eq_true rfl)
  rw [lg_entry_eq]
  generalize (lg_sl ([.ref h0, .int (nI np)]) ++ List.replicate (2 - (lg_sl ([.ref h0, .int (nI np)])).length) Slot.unset).toArray = ls at hl ⊢
  have hl : lv_has ls 2 [(0, .ref h0), (1, .int (nI np))] := hl
  refine lv_aload_n hx hb dX1_openPart_0 rfl (lv_at hl 0 rfl) ?_
  refine lv_iload_n hx hb dX1_openPart_1 rfl (lv_at hl 1 rfl) ?_
  refine va_put (D := (dC, dI)) (ci := 1) (v := .int (nI np)) (ty := .int) (C := RX1) (T := TX1) (N := 4) hx hb hts i_X1 tyX1 tyX1_ok nmX1 hown hK hP hD hS 0 rfl rfl 1 (by decide) k_28 (fun _ h9 => h9) rfl (by decide +kernel) rfl rfl (Nat.le_of_ble_eq_true rfl) dX1_openPart_2 (fun H locs hP hD hS => ?_)
  have hP : va_P (dC, dI) vwCl [(h0, .inr (1, [h0_size, .int (nI np), .int dg9, h0_numbers]))] H := hP
  have hD : va_D A [(h0, .inr (1, [h0_size, .int (nI np), .int dg9, h0_numbers]))] := hD
  refine lv_aload_n hx hb dX1_openPart_5 rfl (lv_at hl 0 rfl) ?_
  refine lv_iconst (v := nI 0) hx hb dX1_openPart_6 (by decide) ?_
  refine va_put (D := (dC, dI)) (ci := 1) (v := .int (nI 0)) (ty := .int) (C := RX1) (T := TX1) (N := 4) hx hb hts i_X1 tyX1 tyX1_ok nmX1 hown hK hP hD hS 0 rfl rfl 2 (by decide) k_31 (fun _ h9 => h9) rfl (by decide +kernel) rfl rfl (Nat.le_of_ble_eq_true rfl) dX1_openPart_7 (fun H locs hP hD hS => ?_)
  have hP : va_P (dC, dI) vwCl [(h0, .inr (1, [h0_size, .int (nI np), .int (nI 0), h0_numbers]))] H := hP
  have hD : va_D A [(h0, .inr (1, [h0_size, .int (nI np), .int (nI 0), h0_numbers]))] := hD
  refine lv_iconst (v := nI 1) hx hb dX1_openPart_10 (by decide) ?_
  have hP9 : va_P (dC, dI) vwCl [(h0, .inr (1, [h0_size, .int (nI np), .int (nI 0), h0_numbers]))] H := hP
  have hS9 : va_S (va_B [(h0, .inr (1, [h0_size, .int pt9, .int dg9, h0_numbers]))]) s.heap H locs := by rw [← hA]; exact hS
  exact W.zret (v := nI 1) hx hb hr rfl (fun t ht hW => ⟨⟨_, _, rfl, ⟨(show nI 1 = nI 1 from rfl), rfl⟩, by rw [ht]; exact hP9⟩, hS9.X ht⟩) hS9.2.2 dX1_openPart_11
theorem hdV_X1_openEntry : yX1_openEntry.cls = RX1 ∧ yX1_openEntry.cls ≠ "java/lang/invoke/MethodHandle" ∧ yX1_openEntry.cls ≠ "java/lang/invoke/VarHandle" ∧ (parseMethodDescriptor yX1_openEntry.desc).map (fun d => d.parameters.length) = some 0 := by decide +kernel
set_option maxHeartbeats 4000000 in
set_option maxRecDepth 100000 in
theorem c_X1_openEntry (l : Launch) (dC : Nat → ClassId) (dI : Nat → Nat → Nat) (cI cF cC cZ cQ cS : ClassId) (h0 : Nat) (nq : Nat) (R : Nat → Nat → Int32) (nr0 : Nat) (nr1 : Nat) (nr2 : Nat) (sz : Nat) (pt : Nat) (dg : Nat) (hsz : sz ≤ 16) : Met l yX1_openEntry wsX1_openEntry ({ frames := 1, cells := 0, slots := 0, locals := 21 }) (xPre (dC, dI) vwCl [.ref h0] (xtys cI cF cC cZ cQ cS) [(h0, .inr (1, [.int (nI sz), .int (nI pt), .int (nI dg), .ref nq])), (nq, .inl (cQ, 3, .inr (.inr (.inr (.inr (xrow [nr0, nr1, nr2])))))), (nr0, .inl (cI, 16, .inl (R 0))), (nr1, .inl (cI, 16, .inl (R 1))), (nr2, .inl (cI, 16, .inl (R 2)))]) (xWi (dC, dI) vwCl [(h0, .inr (1, [.int (nI sz), .int (nI pt), .int (nI dg), .ref nq])), (nq, .inl (cQ, 3, .inr (.inr (.inr (.inr (xrow [nr0, nr1, nr2])))))), (nr0, .inl (cI, 16, .inl (R 0))), (nr1, .inl (cI, 16, .inl (R 1))), (nr2, .inl (cI, 16, .inl (R 2)))] (fun r0 w0 => r0 = (if (xdEntry (sz, pt, dg, R)).1 = true then nI 1 else nI 0) ∧ w0 = [(h0, .inr (1, [.int (nI ((xdEntry (sz, pt, dg, R)).2.1)), .int (nI ((xdEntry (sz, pt, dg, R)).2.2.1)), .int (nI ((xdEntry (sz, pt, dg, R)).2.2.2.1)), .ref nq])), (nq, .inl (cQ, 3, .inr (.inr (.inr (.inr (xrow [nr0, nr1, nr2])))))), (nr0, .inl (cI, 16, .inl ((xdEntry (sz, pt, dg, R)).2.2.2.2 0))), (nr1, .inl (cI, 16, .inl ((xdEntry (sz, pt, dg, R)).2.2.2.2 1))), (nr2, .inl (cI, 16, .inl ((xdEntry (sz, pt, dg, R)).2.2.2.2 2)))])) 0 0 (va_B [(h0, .inr (1, [.int (nI sz), .int (nI pt), .int (nI dg), .ref nq])), (nq, .inl (cQ, 3, .inr (.inr (.inr (.inr (xrow [nr0, nr1, nr2])))))), (nr0, .inl (cI, 16, .inl (R 0))), (nr1, .inl (cI, 16, .inl (R 1))), (nr2, .inl (cI, 16, .inl (R 2)))]) := by
  refine Met.ofW (cc := cX1_openEntry) (maxL := 1) (ret := (some .boolean)) (by decide) rfl ?_
  intro p e s m args below meth c s₁ B hml hv
  obtain ⟨rfl, hP, hK, hD0, hN⟩ := hv
  have hx := B.exec
  have hb := B.bytes
  have hr := B.returns
  have hts := atoms_spec (ws := wsX1_openEntry) B.pre
  have hown : s.vm.findClass RX1 = some m.cls := findClass_of_methodNamed B.named
  have hlocks := B.notSynchronized
  have k_13 := hts (Cond.fieldLink RX1 13 "ShelfStages$Delivery" "numbers" "[[I") (by decide +kernel)
  have k_16 := hts (Cond.fieldLink RX1 16 "ShelfStages$Delivery" "size" "I") (by decide +kernel)
  have i_X1 : ∀ w ∈ wsX10, w ∈ wsX1_openEntry := by decide +kernel
  obtain ⟨A, hA⟩ : ∃ A, A = va_B [(h0, .inr (1, [.int (nI sz), .int (nI pt), .int (nI dg), .ref nq])), (nq, .inl (cQ, 3, .inr (.inr (.inr (.inr (xrow [nr0, nr1, nr2])))))), (nr0, .inl (cI, 16, .inl (R 0))), (nr1, .inl (cI, 16, .inl (R 1))), (nr2, .inl (cI, 16, .inl (R 2)))] := ⟨_, rfl⟩
  have hD : va_D A [(h0, .inr (1, [.int (nI sz), .int (nI pt), .int (nI dg), .ref nq])), (nq, .inl (cQ, 3, .inr (.inr (.inr (.inr (xrow [nr0, nr1, nr2])))))), (nr0, .inl (cI, 16, .inl (R 0))), (nr1, .inl (cI, 16, .inl (R 1))), (nr2, .inl (cI, 16, .inl (R 2)))] := hA ▸ hD0.own
  have hS : va_S A s.heap s.heap [] := va_S.rf
  have hl := lv_entry ([.ref h0]) (n := 1) (Nat.le_of_ble_eq_true rfl)
  rw [lg_entry_eq]
  generalize (lg_sl ([.ref h0]) ++ List.replicate (1 - (lg_sl ([.ref h0])).length) Slot.unset).toArray = ls at hl ⊢
  have hl : lv_has ls 1 [(0, .ref h0)] := hl
  refine lv_aload_n hx hb dX1_openEntry_0 rfl (lv_at hl 0 rfl) ?_
  refine va_get (D := (dC, dI)) (ci := 1) (v := .int (nI sz)) (C := RX1) (T := TX1) (N := 4) hx hb hts i_X1 hown hK hP 0 rfl rfl 0 (by decide) k_16 (fun _ h9 => h9) rfl dX1_openEntry_1 ?_
  refine lv_bipush (v := nI 16) hx hb dX1_openEntry_4 (by decide) ?_
  refine xr_lt_n (tgt := 11) hx hb (by omega) (by omega) dX1_openEntry_6 (by decide) (fun c_1 => ?_) (fun c_1 => ?_)
  · skip
    refine lv_aload_n hx hb dX1_openEntry_11 rfl (lv_at hl 0 rfl) ?_
    refine va_get (D := (dC, dI)) (ci := 1) (v := .ref nq) (C := RX1) (T := TX1) (N := 4) hx hb hts i_X1 hown hK hP 0 rfl rfl 3 (by decide) k_13 (fun _ h9 => h9) rfl dX1_openEntry_12 ?_
    refine lv_iconst (v := nI 2) hx hb dX1_openEntry_15 (by decide) ?_
    refine xr_aald hx hb hK hP 1 4 rfl rfl rfl (i := 2) (v := nr2) (by omega) (by decide) rfl dX1_openEntry_16 ?_
    refine lv_aload_n hx hb dX1_openEntry_17 rfl (lv_at hl 0 rfl) ?_
    refine va_get (D := (dC, dI)) (ci := 1) (v := .int (nI sz)) (C := RX1) (T := TX1) (N := 4) hx hb hts i_X1 hown hK hP 0 rfl rfl 0 (by decide) k_16 (fun _ h9 => h9) rfl dX1_openEntry_18 ?_
    refine lv_iconst (v := (-1)) hx hb dX1_openEntry_21 (by decide) ?_
    refine xr_iast hx hb hK hP hD hS 4 0 rfl rfl (i := sz) (by omega) (by decide) dX1_openEntry_22 (fun H locs hP hD hS => ?_)
    have hP : va_P (dC, dI) vwCl [(h0, .inr (1, [.int (nI sz), .int (nI pt), .int (nI dg), .ref nq])), (nq, .inl (cQ, 3, .inr (.inr (.inr (.inr (xrow [nr0, nr1, nr2])))))), (nr0, .inl (cI, 16, .inl (R 0))), (nr1, .inl (cI, 16, .inl (R 1))), (nr2, .inl (cI, 16, .inl (upd (R 2) sz (-1))))] H := hP
    have hD : va_D A [(h0, .inr (1, [.int (nI sz), .int (nI pt), .int (nI dg), .ref nq])), (nq, .inl (cQ, 3, .inr (.inr (.inr (.inr (xrow [nr0, nr1, nr2])))))), (nr0, .inl (cI, 16, .inl (R 0))), (nr1, .inl (cI, 16, .inl (R 1))), (nr2, .inl (cI, 16, .inl (upd (R 2) sz (-1))))] := hD
    refine lv_aload_n hx hb dX1_openEntry_23 rfl (lv_at hl 0 rfl) ?_
    refine lv_dup hx hb dX1_openEntry_24 rfl ?_
    refine va_get (D := (dC, dI)) (ci := 1) (v := .int (nI sz)) (C := RX1) (T := TX1) (N := 4) hx hb hts i_X1 hown hK hP 0 rfl rfl 0 (by decide) k_16 (fun _ h9 => h9) rfl dX1_openEntry_25 ?_
    refine lv_iconst (v := nI 1) hx hb dX1_openEntry_28 (by decide) ?_
    refine xr_iadd_n hx hb dX1_openEntry_29 ?_
    refine va_put (D := (dC, dI)) (ci := 1) (v := .int (nI (sz + 1))) (ty := .int) (C := RX1) (T := TX1) (N := 4) hx hb hts i_X1 tyX1 tyX1_ok nmX1 hown hK hP hD hS 0 rfl rfl 0 (by decide) k_16 (fun _ h9 => h9) rfl (by decide +kernel) rfl rfl (Nat.le_of_ble_eq_true rfl) dX1_openEntry_30 (fun H locs hP hD hS => ?_)
    have hP : va_P (dC, dI) vwCl [(h0, .inr (1, [.int (nI (sz + 1)), .int (nI pt), .int (nI dg), .ref nq])), (nq, .inl (cQ, 3, .inr (.inr (.inr (.inr (xrow [nr0, nr1, nr2])))))), (nr0, .inl (cI, 16, .inl (R 0))), (nr1, .inl (cI, 16, .inl (R 1))), (nr2, .inl (cI, 16, .inl (upd (R 2) sz (-1))))] H := hP
    have hD : va_D A [(h0, .inr (1, [.int (nI (sz + 1)), .int (nI pt), .int (nI dg), .ref nq])), (nq, .inl (cQ, 3, .inr (.inr (.inr (.inr (xrow [nr0, nr1, nr2])))))), (nr0, .inl (cI, 16, .inl (R 0))), (nr1, .inl (cI, 16, .inl (R 1))), (nr2, .inl (cI, 16, .inl (upd (R 2) sz (-1))))] := hD
    refine lv_aload_n hx hb dX1_openEntry_33 rfl (lv_at hl 0 rfl) ?_
    refine lv_iconst (v := nI 0) hx hb dX1_openEntry_34 (by decide) ?_
    refine xkI2 (xV (As := [.int (nI 0)]) (rest := []) (wc := [(h0, .inr (1, [.int (nI (sz + 1)), .int (nI pt), .int (nI dg), .ref nq]))]) hx hb hml hown hts (c_X1_openPart l dC dI cI cF cC cZ cQ cS h0 (.int (nI (sz + 1))) (.ref nq) (nI pt) (nI dg) 0) 1 gX1_openEntry_X1_openPart rfl rfl rfl hdV_X1_openPart ⟨Nat.le_of_ble_eq_true rfl, Nat.le_of_ble_eq_true rfl⟩ hN hK hP hD [0] rfl rfl 1 0 rfl rfl rfl hl.1 rfl (Nat.le_of_ble_eq_true rfl) dX1_openEntry_35 ⟨Nat.zero_le _, Nat.zero_le _⟩) hP hD hS [0] [0, 1, 2, 3, 4] rfl rfl 5 rfl (by decide +kernel) (fun H locs hP hD hS => ?_)
    have hP : va_P (dC, dI) vwCl [(h0, .inr (1, [.int (nI (sz + 1)), .int (nI 0), .int (nI 0), .ref nq])), (nq, .inl (cQ, 3, .inr (.inr (.inr (.inr (xrow [nr0, nr1, nr2])))))), (nr0, .inl (cI, 16, .inl (R 0))), (nr1, .inl (cI, 16, .inl (R 1))), (nr2, .inl (cI, 16, .inl (upd (R 2) sz (-1))))] H := hP
    have hD : va_D A [(h0, .inr (1, [.int (nI (sz + 1)), .int (nI 0), .int (nI 0), .ref nq])), (nq, .inl (cQ, 3, .inr (.inr (.inr (.inr (xrow [nr0, nr1, nr2])))))), (nr0, .inl (cI, 16, .inl (R 0))), (nr1, .inl (cI, 16, .inl (R 1))), (nr2, .inl (cI, 16, .inl (upd (R 2) sz (-1))))] := hD
    have hE : xdEntry (sz, pt, dg, R) = (true, xdPart (sz + 1, pt, dg, xupR R 2 (upd (R 2) sz (-1))) 0) := if_neg (by omega)
    have hP9 : va_P (dC, dI) vwCl [(h0, .inr (1, [.int (nI ((xdEntry (sz, pt, dg, R)).2.1)), .int (nI ((xdEntry (sz, pt, dg, R)).2.2.1)), .int (nI ((xdEntry (sz, pt, dg, R)).2.2.2.1)), .ref nq])), (nq, .inl (cQ, 3, .inr (.inr (.inr (.inr (xrow [nr0, nr1, nr2])))))), (nr0, .inl (cI, 16, .inl ((xdEntry (sz, pt, dg, R)).2.2.2.2 0))), (nr1, .inl (cI, 16, .inl ((xdEntry (sz, pt, dg, R)).2.2.2.2 1))), (nr2, .inl (cI, 16, .inl ((xdEntry (sz, pt, dg, R)).2.2.2.2 2)))] H := by rw [hE]; exact hP
    have hS9 : va_S (va_B [(h0, .inr (1, [.int (nI sz), .int (nI pt), .int (nI dg), .ref nq])), (nq, .inl (cQ, 3, .inr (.inr (.inr (.inr (xrow [nr0, nr1, nr2])))))), (nr0, .inl (cI, 16, .inl (R 0))), (nr1, .inl (cI, 16, .inl (R 1))), (nr2, .inl (cI, 16, .inl (R 2)))]) s.heap H locs := by rw [← hA]; exact hS
    exact W.zret (v := nI 1) hx hb hr rfl (fun t ht hW => ⟨⟨_, _, rfl, ⟨(show nI 1 = (if (xdEntry (sz, pt, dg, R)).1 = true then nI 1 else nI 0) from (if_pos (by rw [hE])).symm), rfl⟩, by rw [ht]; exact hP9⟩, hS9.X ht⟩) hS9.2.2 dX1_openEntry_38
  refine lv_iconst (v := nI 0) hx hb dX1_openEntry_9 (by decide) ?_
  have hE : xdEntry (sz, pt, dg, R) = (false, sz, pt, dg, R) := if_pos c_1
  have hP9 : va_P (dC, dI) vwCl [(h0, .inr (1, [.int (nI ((xdEntry (sz, pt, dg, R)).2.1)), .int (nI ((xdEntry (sz, pt, dg, R)).2.2.1)), .int (nI ((xdEntry (sz, pt, dg, R)).2.2.2.1)), .ref nq])), (nq, .inl (cQ, 3, .inr (.inr (.inr (.inr (xrow [nr0, nr1, nr2])))))), (nr0, .inl (cI, 16, .inl ((xdEntry (sz, pt, dg, R)).2.2.2.2 0))), (nr1, .inl (cI, 16, .inl ((xdEntry (sz, pt, dg, R)).2.2.2.2 1))), (nr2, .inl (cI, 16, .inl ((xdEntry (sz, pt, dg, R)).2.2.2.2 2)))] s.heap := by rw [hE]; exact hP
  have hS9 : va_S (va_B [(h0, .inr (1, [.int (nI sz), .int (nI pt), .int (nI dg), .ref nq])), (nq, .inl (cQ, 3, .inr (.inr (.inr (.inr (xrow [nr0, nr1, nr2])))))), (nr0, .inl (cI, 16, .inl (R 0))), (nr1, .inl (cI, 16, .inl (R 1))), (nr2, .inl (cI, 16, .inl (R 2)))]) s.heap s.heap [] := by rw [← hA]; exact hS
  exact W.zret (v := nI 0) hx hb hr rfl (fun t ht hW => ⟨⟨_, _, rfl, ⟨(show nI 0 = (if (xdEntry (sz, pt, dg, R)).1 = true then nI 1 else nI 0) from (if_neg (by rw [hE]; exact Bool.false_ne_true)).symm), rfl⟩, by rw [ht]; exact hP9⟩, hS9.X ht⟩) hS9.2.2 dX1_openEntry_10
theorem hdV_X1_acceptsDigit : yX1_acceptsDigit.cls = RX1 ∧ yX1_acceptsDigit.cls ≠ "java/lang/invoke/MethodHandle" ∧ yX1_acceptsDigit.cls ≠ "java/lang/invoke/VarHandle" ∧ (parseMethodDescriptor yX1_acceptsDigit.desc).map (fun d => d.parameters.length) = some 1 := by decide +kernel
set_option maxHeartbeats 4000000 in
set_option maxRecDepth 100000 in
theorem c_X1_acceptsDigit (l : Launch) (dC : Nat → ClassId) (dI : Nat → Nat → Nat) (cI cF cC cZ cQ cS : ClassId) (h0 : Nat) (nq : Nat) (R : Nat → Nat → Int32) (nr0 : Nat) (nr1 : Nat) (nr2 : Nat) (sz : Nat) (pt : Nat) (dg : Nat) (ch : Int32) (hsz : 1 ≤ sz ∧ sz ≤ 16) (hpt : pt < 3) (hdg : dg ≤ 3) : Met l yX1_acceptsDigit wsX1_acceptsDigit ({ frames := 0, cells := 0, slots := 0, locals := 0 }) (xPre (dC, dI) vwCl [.ref h0, .int ch] (xtys cI cF cC cZ cQ cS) [(h0, .inr (1, [.int (nI sz), .int (nI pt), .int (nI dg), .ref nq])), (nq, .inl (cQ, 3, .inr (.inr (.inr (.inr (xrow [nr0, nr1, nr2])))))), (nr0, .inl (cI, 16, .inl (R 0))), (nr1, .inl (cI, 16, .inl (R 1))), (nr2, .inl (cI, 16, .inl (R 2)))]) (xWi (dC, dI) vwCl [(h0, .inr (1, [.int (nI sz), .int (nI pt), .int (nI dg), .ref nq])), (nq, .inl (cQ, 3, .inr (.inr (.inr (.inr (xrow [nr0, nr1, nr2])))))), (nr0, .inl (cI, 16, .inl (R 0))), (nr1, .inl (cI, 16, .inl (R 1))), (nr2, .inl (cI, 16, .inl (R 2)))] (fun r0 w0 => r0 = (if (xdDig (sz, pt, dg, R) ch).1 = true then nI 1 else nI 0) ∧ w0 = [(h0, .inr (1, [.int (nI ((xdDig (sz, pt, dg, R) ch).2.1)), .int (nI ((xdDig (sz, pt, dg, R) ch).2.2.1)), .int (nI ((xdDig (sz, pt, dg, R) ch).2.2.2.1)), .ref nq])), (nq, .inl (cQ, 3, .inr (.inr (.inr (.inr (xrow [nr0, nr1, nr2])))))), (nr0, .inl (cI, 16, .inl ((xdDig (sz, pt, dg, R) ch).2.2.2.2 0))), (nr1, .inl (cI, 16, .inl ((xdDig (sz, pt, dg, R) ch).2.2.2.2 1))), (nr2, .inl (cI, 16, .inl ((xdDig (sz, pt, dg, R) ch).2.2.2.2 2)))])) 0 0 (va_B [(h0, .inr (1, [.int (nI sz), .int (nI pt), .int (nI dg), .ref nq])), (nq, .inl (cQ, 3, .inr (.inr (.inr (.inr (xrow [nr0, nr1, nr2])))))), (nr0, .inl (cI, 16, .inl (R 0))), (nr1, .inl (cI, 16, .inl (R 1))), (nr2, .inl (cI, 16, .inl (R 2)))]) := by
  refine Met.ofW (cc := cX1_acceptsDigit) (maxL := 5) (ret := (some .boolean)) (by decide) rfl ?_
  intro p e s m args below meth c s₁ B hml hv
  obtain ⟨rfl, hP, hK, hD0, hN⟩ := hv
  have hx := B.exec
  have hb := B.bytes
  have hr := B.returns
  have hts := atoms_spec (ws := wsX1_acceptsDigit) B.pre
  have hown : s.vm.findClass RX1 = some m.cls := findClass_of_methodNamed B.named
  have hlocks := B.notSynchronized
  have k_13 := hts (Cond.fieldLink RX1 13 "ShelfStages$Delivery" "numbers" "[[I") (by decide +kernel)
  have k_16 := hts (Cond.fieldLink RX1 16 "ShelfStages$Delivery" "size" "I") (by decide +kernel)
  have k_28 := hts (Cond.fieldLink RX1 28 "ShelfStages$Delivery" "part" "I") (by decide +kernel)
  have k_31 := hts (Cond.fieldLink RX1 31 "ShelfStages$Delivery" "digits" "I") (by decide +kernel)
  have i_X1 : ∀ w ∈ wsX10, w ∈ wsX1_acceptsDigit := by decide +kernel
  obtain ⟨A, hA⟩ : ∃ A, A = va_B [(h0, .inr (1, [.int (nI sz), .int (nI pt), .int (nI dg), .ref nq])), (nq, .inl (cQ, 3, .inr (.inr (.inr (.inr (xrow [nr0, nr1, nr2])))))), (nr0, .inl (cI, 16, .inl (R 0))), (nr1, .inl (cI, 16, .inl (R 1))), (nr2, .inl (cI, 16, .inl (R 2)))] := ⟨_, rfl⟩
  have hD : va_D A [(h0, .inr (1, [.int (nI sz), .int (nI pt), .int (nI dg), .ref nq])), (nq, .inl (cQ, 3, .inr (.inr (.inr (.inr (xrow [nr0, nr1, nr2])))))), (nr0, .inl (cI, 16, .inl (R 0))), (nr1, .inl (cI, 16, .inl (R 1))), (nr2, .inl (cI, 16, .inl (R 2)))] := hA ▸ hD0.own
  have hS : va_S A s.heap s.heap [] := va_S.rf
  have hl := lv_entry ([.ref h0, .int ch]) (n := 5) (Nat.le_of_ble_eq_true rfl)
  rw [lg_entry_eq]
  generalize (lg_sl ([.ref h0, .int ch]) ++ List.replicate (5 - (lg_sl ([.ref h0, .int ch])).length) Slot.unset).toArray = ls at hl ⊢
  have hl : lv_has ls 5 [(0, .ref h0), (1, .int ch)] := hl
  refine lv_aload_n hx hb dX1_acceptsDigit_0 rfl (lv_at hl 0 rfl) ?_
  refine va_get (D := (dC, dI)) (ci := 1) (v := .ref nq) (C := RX1) (T := TX1) (N := 4) hx hb hts i_X1 hown hK hP 0 rfl rfl 3 (by decide) k_13 (fun _ h9 => h9) rfl dX1_acceptsDigit_1 ?_
  refine lv_aload_n hx hb dX1_acceptsDigit_4 rfl (lv_at hl 0 rfl) ?_
  refine va_get (D := (dC, dI)) (ci := 1) (v := .int (nI pt)) (C := RX1) (T := TX1) (N := 4) hx hb hts i_X1 hown hK hP 0 rfl rfl 1 (by decide) k_28 (fun _ h9 => h9) rfl dX1_acceptsDigit_5 ?_
  rcases (show pt = 0 ∨ pt = 1 ∨ pt = 2 by omega) with hc | hc | hc
  · skip
    refine xr_top (show nI pt = nI 0 from by rw [hc]) ?_
    refine xr_aald hx hb hK hP 1 4 rfl rfl rfl (i := 0) (v := nr0) (by omega) (by decide) rfl dX1_acceptsDigit_8 ?_
    refine lv_astore_n (lv' := [(2, .ref nr0), (0, .ref h0), (1, .int ch)]) hx hb dX1_acceptsDigit_9 rfl hl (by decide) rfl (fun ls hl => ?_)
    refine lv_aload_n hx hb dX1_acceptsDigit_10 rfl (lv_at hl 1 rfl) ?_
    refine va_get (D := (dC, dI)) (ci := 1) (v := .int (nI sz)) (C := RX1) (T := TX1) (N := 4) hx hb hts i_X1 hown hK hP 0 rfl rfl 0 (by decide) k_16 (fun _ h9 => h9) rfl dX1_acceptsDigit_11 ?_
    refine lv_iconst (v := nI 1) hx hb dX1_acceptsDigit_14 (by decide) ?_
    refine xr_isub_n hx hb (by omega) dX1_acceptsDigit_15 ?_
    refine lv_istore_n (lv' := [(3, .int (nI (sz - 1))), (2, .ref nr0), (0, .ref h0), (1, .int ch)]) hx hb dX1_acceptsDigit_16 rfl hl (by decide) rfl (fun ls hl => ?_)
    refine lv_aload_n hx hb dX1_acceptsDigit_17 rfl (lv_at hl 2 rfl) ?_
    refine va_get (D := (dC, dI)) (ci := 1) (v := .int (nI dg)) (C := RX1) (T := TX1) (N := 4) hx hb hts i_X1 hown hK hP 0 rfl rfl 2 (by decide) k_31 (fun _ h9 => h9) rfl dX1_acceptsDigit_18 ?_
    refine lv_iconst (v := nI 1) hx hb dX1_acceptsDigit_21 (by decide) ?_
    refine xr_ne_n (tgt := 35) hx hb (by omega) (by omega) dX1_acceptsDigit_22 (by decide) (fun c_1 => ?_) (fun c_1 => ?_)
    · skip
      refine lv_iconst (v := nI 0) hx hb dX1_acceptsDigit_35 (by decide) ?_
      refine lv_istore (lv' := [(4, .int (nI 0)), (3, .int (nI (sz - 1))), (2, .ref nr0), (0, .ref h0), (1, .int ch)]) hx hb dX1_acceptsDigit_36 hl (by decide) rfl (fun ls hl => ?_)
      refine lv_iload hx hb dX1_acceptsDigit_38 (lv_at hl 0 rfl) ?_
      refine xr_ifn0 (tgt := 51) hx hb (by decide) dX1_acceptsDigit_40 (by decide) ?_
      refine lv_aload_n hx hb dX1_acceptsDigit_43 rfl (lv_at hl 3 rfl) ?_
      refine va_get (D := (dC, dI)) (ci := 1) (v := .int (nI dg)) (C := RX1) (T := TX1) (N := 4) hx hb hts i_X1 hown hK hP 0 rfl rfl 2 (by decide) k_31 (fun _ h9 => h9) rfl dX1_acceptsDigit_44 ?_
      refine lv_iconst (v := nI 3) hx hb dX1_acceptsDigit_47 (by decide) ?_
      refine xr_ne_n (tgt := 53) hx hb (by omega) (by omega) dX1_acceptsDigit_48 (by decide) (fun c_2 => ?_) (fun c_2 => ?_)
      · skip
        refine lv_aload_n hx hb dX1_acceptsDigit_53 rfl (lv_at hl 2 rfl) ?_
        refine lv_iload_n hx hb dX1_acceptsDigit_54 rfl (lv_at hl 1 rfl) ?_
        refine lv_aload_n hx hb dX1_acceptsDigit_55 rfl (lv_at hl 3 rfl) ?_
        refine va_get (D := (dC, dI)) (ci := 1) (v := .int (nI dg)) (C := RX1) (T := TX1) (N := 4) hx hb hts i_X1 hown hK hP 0 rfl rfl 2 (by decide) k_31 (fun _ h9 => h9) rfl dX1_acceptsDigit_56 ?_
        refine xr_zne_n (tgt := 66) hx hb (by omega) dX1_acceptsDigit_59 (by decide) (fun c_3 => ?_) (fun c_3 => ?_)
        · skip
          refine lv_aload_n hx hb dX1_acceptsDigit_66 rfl (lv_at hl 2 rfl) ?_
          refine lv_iload_n hx hb dX1_acceptsDigit_67 rfl (lv_at hl 1 rfl) ?_
          refine xr_iald hx hb hK hP 2 0 rfl rfl (i := sz - 1) (by omega) (by decide) dX1_acceptsDigit_68 ?_
          refine lv_bipush (v := nI 10) hx hb dX1_acceptsDigit_69 (by decide) ?_
          refine lv_imul hx hb dX1_acceptsDigit_71 ?_
          refine lv_iload_n hx hb dX1_acceptsDigit_72 rfl (lv_at hl 4 rfl) ?_
          refine lv_iadd hx hb dX1_acceptsDigit_73 ?_
          refine xr_iast hx hb hK hP hD hS 2 0 rfl rfl (i := sz - 1) (by omega) (by decide) dX1_acceptsDigit_74 (fun H locs hP hD hS => ?_)
          have hP : va_P (dC, dI) vwCl [(h0, .inr (1, [.int (nI sz), .int (nI pt), .int (nI dg), .ref nq])), (nq, .inl (cQ, 3, .inr (.inr (.inr (.inr (xrow [nr0, nr1, nr2])))))), (nr0, .inl (cI, 16, .inl (upd (R 0) (sz - 1) ((((R 0) (sz - 1)) * (nI 10)) + ch)))), (nr1, .inl (cI, 16, .inl (R 1))), (nr2, .inl (cI, 16, .inl (R 2)))] H := hP
          have hD : va_D A [(h0, .inr (1, [.int (nI sz), .int (nI pt), .int (nI dg), .ref nq])), (nq, .inl (cQ, 3, .inr (.inr (.inr (.inr (xrow [nr0, nr1, nr2])))))), (nr0, .inl (cI, 16, .inl (upd (R 0) (sz - 1) ((((R 0) (sz - 1)) * (nI 10)) + ch)))), (nr1, .inl (cI, 16, .inl (R 1))), (nr2, .inl (cI, 16, .inl (R 2)))] := hD
          refine lv_aload_n hx hb dX1_acceptsDigit_75 rfl (lv_at hl 3 rfl) ?_
          refine lv_dup hx hb dX1_acceptsDigit_76 rfl ?_
          refine va_get (D := (dC, dI)) (ci := 1) (v := .int (nI dg)) (C := RX1) (T := TX1) (N := 4) hx hb hts i_X1 hown hK hP 0 rfl rfl 2 (by decide) k_31 (fun _ h9 => h9) rfl dX1_acceptsDigit_77 ?_
          refine lv_iconst (v := nI 1) hx hb dX1_acceptsDigit_80 (by decide) ?_
          refine xr_iadd_n hx hb dX1_acceptsDigit_81 ?_
          refine va_put (D := (dC, dI)) (ci := 1) (v := .int (nI (dg + 1))) (ty := .int) (C := RX1) (T := TX1) (N := 4) hx hb hts i_X1 tyX1 tyX1_ok nmX1 hown hK hP hD hS 0 rfl rfl 2 (by decide) k_31 (fun _ h9 => h9) rfl (by decide +kernel) rfl rfl (Nat.le_of_ble_eq_true rfl) dX1_acceptsDigit_82 (fun H locs hP hD hS => ?_)
          have hP : va_P (dC, dI) vwCl [(h0, .inr (1, [.int (nI sz), .int (nI pt), .int (nI (dg + 1)), .ref nq])), (nq, .inl (cQ, 3, .inr (.inr (.inr (.inr (xrow [nr0, nr1, nr2])))))), (nr0, .inl (cI, 16, .inl (upd (R 0) (sz - 1) ((((R 0) (sz - 1)) * (nI 10)) + ch)))), (nr1, .inl (cI, 16, .inl (R 1))), (nr2, .inl (cI, 16, .inl (R 2)))] H := hP
          have hD : va_D A [(h0, .inr (1, [.int (nI sz), .int (nI pt), .int (nI (dg + 1)), .ref nq])), (nq, .inl (cQ, 3, .inr (.inr (.inr (.inr (xrow [nr0, nr1, nr2])))))), (nr0, .inl (cI, 16, .inl (upd (R 0) (sz - 1) ((((R 0) (sz - 1)) * (nI 10)) + ch)))), (nr1, .inl (cI, 16, .inl (R 1))), (nr2, .inl (cI, 16, .inl (R 2)))] := hD
          refine lv_iconst (v := nI 1) hx hb dX1_acceptsDigit_85 (by decide) ?_
          have hE : xdDig (sz, pt, dg, R) ch = (true, sz, pt, dg + 1, xupR R 0 (upd (R 0) (sz - 1) (R 0 (sz - 1) * nI 10 + ch))) := by
            refine (if_neg (fun q => q.elim (fun q => absurd q.1 c_1) c_2)).trans ?_
            show (true, sz, pt, dg + 1, xupR R pt (upd (R pt) (sz - 1) (if dg = 0 then ch else R pt (sz - 1) * nI 10 + ch))) = _
            rw [if_neg (Nat.ne_of_gt c_3), hc]
          have hP9 : va_P (dC, dI) vwCl [(h0, .inr (1, [.int (nI ((xdDig (sz, pt, dg, R) ch).2.1)), .int (nI ((xdDig (sz, pt, dg, R) ch).2.2.1)), .int (nI ((xdDig (sz, pt, dg, R) ch).2.2.2.1)), .ref nq])), (nq, .inl (cQ, 3, .inr (.inr (.inr (.inr (xrow [nr0, nr1, nr2])))))), (nr0, .inl (cI, 16, .inl ((xdDig (sz, pt, dg, R) ch).2.2.2.2 0))), (nr1, .inl (cI, 16, .inl ((xdDig (sz, pt, dg, R) ch).2.2.2.2 1))), (nr2, .inl (cI, 16, .inl ((xdDig (sz, pt, dg, R) ch).2.2.2.2 2)))] H := by rw [hE]; exact hP
          have hS9 : va_S (va_B [(h0, .inr (1, [.int (nI sz), .int (nI pt), .int (nI dg), .ref nq])), (nq, .inl (cQ, 3, .inr (.inr (.inr (.inr (xrow [nr0, nr1, nr2])))))), (nr0, .inl (cI, 16, .inl (R 0))), (nr1, .inl (cI, 16, .inl (R 1))), (nr2, .inl (cI, 16, .inl (R 2)))]) s.heap H locs := by rw [← hA]; exact hS
          exact W.zret (v := nI 1) hx hb hr rfl (fun t ht hW => ⟨⟨_, _, rfl, ⟨(show nI 1 = (if (xdDig (sz, pt, dg, R) ch).1 = true then nI 1 else nI 0) from (if_pos (by rw [hE])).symm), rfl⟩, by rw [ht]; exact hP9⟩, hS9.X ht⟩) hS9.2.2 dX1_acceptsDigit_86
        refine lv_iload_n hx hb dX1_acceptsDigit_62 rfl (lv_at hl 4 rfl) ?_
        refine lv_goto (tgt := 74) hx hb dX1_acceptsDigit_63 (by decide) ?_
        refine xr_iast hx hb hK hP hD hS 2 0 rfl rfl (i := sz - 1) (by omega) (by decide) dX1_acceptsDigit_74 (fun H locs hP hD hS => ?_)
        have hP : va_P (dC, dI) vwCl [(h0, .inr (1, [.int (nI sz), .int (nI pt), .int (nI dg), .ref nq])), (nq, .inl (cQ, 3, .inr (.inr (.inr (.inr (xrow [nr0, nr1, nr2])))))), (nr0, .inl (cI, 16, .inl (upd (R 0) (sz - 1) ch))), (nr1, .inl (cI, 16, .inl (R 1))), (nr2, .inl (cI, 16, .inl (R 2)))] H := hP
        have hD : va_D A [(h0, .inr (1, [.int (nI sz), .int (nI pt), .int (nI dg), .ref nq])), (nq, .inl (cQ, 3, .inr (.inr (.inr (.inr (xrow [nr0, nr1, nr2])))))), (nr0, .inl (cI, 16, .inl (upd (R 0) (sz - 1) ch))), (nr1, .inl (cI, 16, .inl (R 1))), (nr2, .inl (cI, 16, .inl (R 2)))] := hD
        refine lv_aload_n hx hb dX1_acceptsDigit_75 rfl (lv_at hl 3 rfl) ?_
        refine lv_dup hx hb dX1_acceptsDigit_76 rfl ?_
        refine va_get (D := (dC, dI)) (ci := 1) (v := .int (nI dg)) (C := RX1) (T := TX1) (N := 4) hx hb hts i_X1 hown hK hP 0 rfl rfl 2 (by decide) k_31 (fun _ h9 => h9) rfl dX1_acceptsDigit_77 ?_
        refine lv_iconst (v := nI 1) hx hb dX1_acceptsDigit_80 (by decide) ?_
        refine xr_iadd_n hx hb dX1_acceptsDigit_81 ?_
        refine va_put (D := (dC, dI)) (ci := 1) (v := .int (nI (dg + 1))) (ty := .int) (C := RX1) (T := TX1) (N := 4) hx hb hts i_X1 tyX1 tyX1_ok nmX1 hown hK hP hD hS 0 rfl rfl 2 (by decide) k_31 (fun _ h9 => h9) rfl (by decide +kernel) rfl rfl (Nat.le_of_ble_eq_true rfl) dX1_acceptsDigit_82 (fun H locs hP hD hS => ?_)
        have hP : va_P (dC, dI) vwCl [(h0, .inr (1, [.int (nI sz), .int (nI pt), .int (nI (dg + 1)), .ref nq])), (nq, .inl (cQ, 3, .inr (.inr (.inr (.inr (xrow [nr0, nr1, nr2])))))), (nr0, .inl (cI, 16, .inl (upd (R 0) (sz - 1) ch))), (nr1, .inl (cI, 16, .inl (R 1))), (nr2, .inl (cI, 16, .inl (R 2)))] H := hP
        have hD : va_D A [(h0, .inr (1, [.int (nI sz), .int (nI pt), .int (nI (dg + 1)), .ref nq])), (nq, .inl (cQ, 3, .inr (.inr (.inr (.inr (xrow [nr0, nr1, nr2])))))), (nr0, .inl (cI, 16, .inl (upd (R 0) (sz - 1) ch))), (nr1, .inl (cI, 16, .inl (R 1))), (nr2, .inl (cI, 16, .inl (R 2)))] := hD
        refine lv_iconst (v := nI 1) hx hb dX1_acceptsDigit_85 (by decide) ?_
        have hE : xdDig (sz, pt, dg, R) ch = (true, sz, pt, dg + 1, xupR R 0 (upd (R 0) (sz - 1) (ch))) := by
          refine (if_neg (fun q => q.elim (fun q => absurd q.1 c_1) c_2)).trans ?_
          show (true, sz, pt, dg + 1, xupR R pt (upd (R pt) (sz - 1) (if dg = 0 then ch else R pt (sz - 1) * nI 10 + ch))) = _
          rw [if_pos c_3, hc]
        have hP9 : va_P (dC, dI) vwCl [(h0, .inr (1, [.int (nI ((xdDig (sz, pt, dg, R) ch).2.1)), .int (nI ((xdDig (sz, pt, dg, R) ch).2.2.1)), .int (nI ((xdDig (sz, pt, dg, R) ch).2.2.2.1)), .ref nq])), (nq, .inl (cQ, 3, .inr (.inr (.inr (.inr (xrow [nr0, nr1, nr2])))))), (nr0, .inl (cI, 16, .inl ((xdDig (sz, pt, dg, R) ch).2.2.2.2 0))), (nr1, .inl (cI, 16, .inl ((xdDig (sz, pt, dg, R) ch).2.2.2.2 1))), (nr2, .inl (cI, 16, .inl ((xdDig (sz, pt, dg, R) ch).2.2.2.2 2)))] H := by rw [hE]; exact hP
        have hS9 : va_S (va_B [(h0, .inr (1, [.int (nI sz), .int (nI pt), .int (nI dg), .ref nq])), (nq, .inl (cQ, 3, .inr (.inr (.inr (.inr (xrow [nr0, nr1, nr2])))))), (nr0, .inl (cI, 16, .inl (R 0))), (nr1, .inl (cI, 16, .inl (R 1))), (nr2, .inl (cI, 16, .inl (R 2)))]) s.heap H locs := by rw [← hA]; exact hS
        exact W.zret (v := nI 1) hx hb hr rfl (fun t ht hW => ⟨⟨_, _, rfl, ⟨(show nI 1 = (if (xdDig (sz, pt, dg, R) ch).1 = true then nI 1 else nI 0) from (if_pos (by rw [hE])).symm), rfl⟩, by rw [ht]; exact hP9⟩, hS9.X ht⟩) hS9.2.2 dX1_acceptsDigit_86
      refine lv_iconst (v := nI 0) hx hb dX1_acceptsDigit_51 (by decide) ?_
      have hE : xdDig (sz, pt, dg, R) ch = (false, sz, pt, dg, R) := if_pos (Or.inr c_2)
      have hP9 : va_P (dC, dI) vwCl [(h0, .inr (1, [.int (nI ((xdDig (sz, pt, dg, R) ch).2.1)), .int (nI ((xdDig (sz, pt, dg, R) ch).2.2.1)), .int (nI ((xdDig (sz, pt, dg, R) ch).2.2.2.1)), .ref nq])), (nq, .inl (cQ, 3, .inr (.inr (.inr (.inr (xrow [nr0, nr1, nr2])))))), (nr0, .inl (cI, 16, .inl ((xdDig (sz, pt, dg, R) ch).2.2.2.2 0))), (nr1, .inl (cI, 16, .inl ((xdDig (sz, pt, dg, R) ch).2.2.2.2 1))), (nr2, .inl (cI, 16, .inl ((xdDig (sz, pt, dg, R) ch).2.2.2.2 2)))] s.heap := by rw [hE]; exact hP
      have hS9 : va_S (va_B [(h0, .inr (1, [.int (nI sz), .int (nI pt), .int (nI dg), .ref nq])), (nq, .inl (cQ, 3, .inr (.inr (.inr (.inr (xrow [nr0, nr1, nr2])))))), (nr0, .inl (cI, 16, .inl (R 0))), (nr1, .inl (cI, 16, .inl (R 1))), (nr2, .inl (cI, 16, .inl (R 2)))]) s.heap s.heap [] := by rw [← hA]; exact hS
      exact W.zret (v := nI 0) hx hb hr rfl (fun t ht hW => ⟨⟨_, _, rfl, ⟨(show nI 0 = (if (xdDig (sz, pt, dg, R) ch).1 = true then nI 1 else nI 0) from (if_neg (by rw [hE]; exact Bool.false_ne_true)).symm), rfl⟩, by rw [ht]; exact hP9⟩, hS9.X ht⟩) hS9.2.2 dX1_acceptsDigit_52
    refine lv_aload_n hx hb dX1_acceptsDigit_25 rfl (lv_at hl 1 rfl) ?_
    refine lv_iload_n hx hb dX1_acceptsDigit_26 rfl (lv_at hl 0 rfl) ?_
    refine xr_iald hx hb hK hP 2 0 rfl rfl (i := sz - 1) (by omega) (by decide) dX1_acceptsDigit_27 ?_
    refine lv_if_ne (tgt := 35) hx hb dX1_acceptsDigit_28 (by decide) (fun c_4 => ?_) (fun c_4 => ?_)
    · skip
      refine lv_iconst (v := nI 0) hx hb dX1_acceptsDigit_35 (by decide) ?_
      refine lv_istore (lv' := [(4, .int (nI 0)), (3, .int (nI (sz - 1))), (2, .ref nr0), (0, .ref h0), (1, .int ch)]) hx hb dX1_acceptsDigit_36 hl (by decide) rfl (fun ls hl => ?_)
      refine lv_iload hx hb dX1_acceptsDigit_38 (lv_at hl 0 rfl) ?_
      refine xr_ifn0 (tgt := 51) hx hb (by decide) dX1_acceptsDigit_40 (by decide) ?_
      refine lv_aload_n hx hb dX1_acceptsDigit_43 rfl (lv_at hl 3 rfl) ?_
      refine va_get (D := (dC, dI)) (ci := 1) (v := .int (nI dg)) (C := RX1) (T := TX1) (N := 4) hx hb hts i_X1 hown hK hP 0 rfl rfl 2 (by decide) k_31 (fun _ h9 => h9) rfl dX1_acceptsDigit_44 ?_
      refine lv_iconst (v := nI 3) hx hb dX1_acceptsDigit_47 (by decide) ?_
      refine xr_ne_n (tgt := 53) hx hb (by omega) (by omega) dX1_acceptsDigit_48 (by decide) (fun c_5 => ?_) (fun c_5 => ?_)
      · skip
        refine lv_aload_n hx hb dX1_acceptsDigit_53 rfl (lv_at hl 2 rfl) ?_
        refine lv_iload_n hx hb dX1_acceptsDigit_54 rfl (lv_at hl 1 rfl) ?_
        refine lv_aload_n hx hb dX1_acceptsDigit_55 rfl (lv_at hl 3 rfl) ?_
        refine va_get (D := (dC, dI)) (ci := 1) (v := .int (nI dg)) (C := RX1) (T := TX1) (N := 4) hx hb hts i_X1 hown hK hP 0 rfl rfl 2 (by decide) k_31 (fun _ h9 => h9) rfl dX1_acceptsDigit_56 ?_
        refine xr_zne_n (tgt := 66) hx hb (by omega) dX1_acceptsDigit_59 (by decide) (fun c_6 => ?_) (fun c_6 => ?_)
        · skip
          refine lv_aload_n hx hb dX1_acceptsDigit_66 rfl (lv_at hl 2 rfl) ?_
          refine lv_iload_n hx hb dX1_acceptsDigit_67 rfl (lv_at hl 1 rfl) ?_
          refine xr_iald hx hb hK hP 2 0 rfl rfl (i := sz - 1) (by omega) (by decide) dX1_acceptsDigit_68 ?_
          refine lv_bipush (v := nI 10) hx hb dX1_acceptsDigit_69 (by decide) ?_
          refine lv_imul hx hb dX1_acceptsDigit_71 ?_
          refine lv_iload_n hx hb dX1_acceptsDigit_72 rfl (lv_at hl 4 rfl) ?_
          refine lv_iadd hx hb dX1_acceptsDigit_73 ?_
          refine xr_iast hx hb hK hP hD hS 2 0 rfl rfl (i := sz - 1) (by omega) (by decide) dX1_acceptsDigit_74 (fun H locs hP hD hS => ?_)
          have hP : va_P (dC, dI) vwCl [(h0, .inr (1, [.int (nI sz), .int (nI pt), .int (nI dg), .ref nq])), (nq, .inl (cQ, 3, .inr (.inr (.inr (.inr (xrow [nr0, nr1, nr2])))))), (nr0, .inl (cI, 16, .inl (upd (R 0) (sz - 1) ((((R 0) (sz - 1)) * (nI 10)) + ch)))), (nr1, .inl (cI, 16, .inl (R 1))), (nr2, .inl (cI, 16, .inl (R 2)))] H := hP
          have hD : va_D A [(h0, .inr (1, [.int (nI sz), .int (nI pt), .int (nI dg), .ref nq])), (nq, .inl (cQ, 3, .inr (.inr (.inr (.inr (xrow [nr0, nr1, nr2])))))), (nr0, .inl (cI, 16, .inl (upd (R 0) (sz - 1) ((((R 0) (sz - 1)) * (nI 10)) + ch)))), (nr1, .inl (cI, 16, .inl (R 1))), (nr2, .inl (cI, 16, .inl (R 2)))] := hD
          refine lv_aload_n hx hb dX1_acceptsDigit_75 rfl (lv_at hl 3 rfl) ?_
          refine lv_dup hx hb dX1_acceptsDigit_76 rfl ?_
          refine va_get (D := (dC, dI)) (ci := 1) (v := .int (nI dg)) (C := RX1) (T := TX1) (N := 4) hx hb hts i_X1 hown hK hP 0 rfl rfl 2 (by decide) k_31 (fun _ h9 => h9) rfl dX1_acceptsDigit_77 ?_
          refine lv_iconst (v := nI 1) hx hb dX1_acceptsDigit_80 (by decide) ?_
          refine xr_iadd_n hx hb dX1_acceptsDigit_81 ?_
          refine va_put (D := (dC, dI)) (ci := 1) (v := .int (nI (dg + 1))) (ty := .int) (C := RX1) (T := TX1) (N := 4) hx hb hts i_X1 tyX1 tyX1_ok nmX1 hown hK hP hD hS 0 rfl rfl 2 (by decide) k_31 (fun _ h9 => h9) rfl (by decide +kernel) rfl rfl (Nat.le_of_ble_eq_true rfl) dX1_acceptsDigit_82 (fun H locs hP hD hS => ?_)
          have hP : va_P (dC, dI) vwCl [(h0, .inr (1, [.int (nI sz), .int (nI pt), .int (nI (dg + 1)), .ref nq])), (nq, .inl (cQ, 3, .inr (.inr (.inr (.inr (xrow [nr0, nr1, nr2])))))), (nr0, .inl (cI, 16, .inl (upd (R 0) (sz - 1) ((((R 0) (sz - 1)) * (nI 10)) + ch)))), (nr1, .inl (cI, 16, .inl (R 1))), (nr2, .inl (cI, 16, .inl (R 2)))] H := hP
          have hD : va_D A [(h0, .inr (1, [.int (nI sz), .int (nI pt), .int (nI (dg + 1)), .ref nq])), (nq, .inl (cQ, 3, .inr (.inr (.inr (.inr (xrow [nr0, nr1, nr2])))))), (nr0, .inl (cI, 16, .inl (upd (R 0) (sz - 1) ((((R 0) (sz - 1)) * (nI 10)) + ch)))), (nr1, .inl (cI, 16, .inl (R 1))), (nr2, .inl (cI, 16, .inl (R 2)))] := hD
          refine lv_iconst (v := nI 1) hx hb dX1_acceptsDigit_85 (by decide) ?_
          have hE : xdDig (sz, pt, dg, R) ch = (true, sz, pt, dg + 1, xupR R 0 (upd (R 0) (sz - 1) (R 0 (sz - 1) * nI 10 + ch))) := by
            refine (if_neg (fun q => q.elim (fun q => absurd (show R 0 (sz - 1) = 0 from by have := q.2; rw [hc] at this; exact this) c_4) c_5)).trans ?_
            show (true, sz, pt, dg + 1, xupR R pt (upd (R pt) (sz - 1) (if dg = 0 then ch else R pt (sz - 1) * nI 10 + ch))) = _
            rw [if_neg (Nat.ne_of_gt c_6), hc]
          have hP9 : va_P (dC, dI) vwCl [(h0, .inr (1, [.int (nI ((xdDig (sz, pt, dg, R) ch).2.1)), .int (nI ((xdDig (sz, pt, dg, R) ch).2.2.1)), .int (nI ((xdDig (sz, pt, dg, R) ch).2.2.2.1)), .ref nq])), (nq, .inl (cQ, 3, .inr (.inr (.inr (.inr (xrow [nr0, nr1, nr2])))))), (nr0, .inl (cI, 16, .inl ((xdDig (sz, pt, dg, R) ch).2.2.2.2 0))), (nr1, .inl (cI, 16, .inl ((xdDig (sz, pt, dg, R) ch).2.2.2.2 1))), (nr2, .inl (cI, 16, .inl ((xdDig (sz, pt, dg, R) ch).2.2.2.2 2)))] H := by rw [hE]; exact hP
          have hS9 : va_S (va_B [(h0, .inr (1, [.int (nI sz), .int (nI pt), .int (nI dg), .ref nq])), (nq, .inl (cQ, 3, .inr (.inr (.inr (.inr (xrow [nr0, nr1, nr2])))))), (nr0, .inl (cI, 16, .inl (R 0))), (nr1, .inl (cI, 16, .inl (R 1))), (nr2, .inl (cI, 16, .inl (R 2)))]) s.heap H locs := by rw [← hA]; exact hS
          exact W.zret (v := nI 1) hx hb hr rfl (fun t ht hW => ⟨⟨_, _, rfl, ⟨(show nI 1 = (if (xdDig (sz, pt, dg, R) ch).1 = true then nI 1 else nI 0) from (if_pos (by rw [hE])).symm), rfl⟩, by rw [ht]; exact hP9⟩, hS9.X ht⟩) hS9.2.2 dX1_acceptsDigit_86
        refine lv_iload_n hx hb dX1_acceptsDigit_62 rfl (lv_at hl 4 rfl) ?_
        refine lv_goto (tgt := 74) hx hb dX1_acceptsDigit_63 (by decide) ?_
        refine xr_iast hx hb hK hP hD hS 2 0 rfl rfl (i := sz - 1) (by omega) (by decide) dX1_acceptsDigit_74 (fun H locs hP hD hS => ?_)
        have hP : va_P (dC, dI) vwCl [(h0, .inr (1, [.int (nI sz), .int (nI pt), .int (nI dg), .ref nq])), (nq, .inl (cQ, 3, .inr (.inr (.inr (.inr (xrow [nr0, nr1, nr2])))))), (nr0, .inl (cI, 16, .inl (upd (R 0) (sz - 1) ch))), (nr1, .inl (cI, 16, .inl (R 1))), (nr2, .inl (cI, 16, .inl (R 2)))] H := hP
        have hD : va_D A [(h0, .inr (1, [.int (nI sz), .int (nI pt), .int (nI dg), .ref nq])), (nq, .inl (cQ, 3, .inr (.inr (.inr (.inr (xrow [nr0, nr1, nr2])))))), (nr0, .inl (cI, 16, .inl (upd (R 0) (sz - 1) ch))), (nr1, .inl (cI, 16, .inl (R 1))), (nr2, .inl (cI, 16, .inl (R 2)))] := hD
        refine lv_aload_n hx hb dX1_acceptsDigit_75 rfl (lv_at hl 3 rfl) ?_
        refine lv_dup hx hb dX1_acceptsDigit_76 rfl ?_
        refine va_get (D := (dC, dI)) (ci := 1) (v := .int (nI dg)) (C := RX1) (T := TX1) (N := 4) hx hb hts i_X1 hown hK hP 0 rfl rfl 2 (by decide) k_31 (fun _ h9 => h9) rfl dX1_acceptsDigit_77 ?_
        refine lv_iconst (v := nI 1) hx hb dX1_acceptsDigit_80 (by decide) ?_
        refine xr_iadd_n hx hb dX1_acceptsDigit_81 ?_
        refine va_put (D := (dC, dI)) (ci := 1) (v := .int (nI (dg + 1))) (ty := .int) (C := RX1) (T := TX1) (N := 4) hx hb hts i_X1 tyX1 tyX1_ok nmX1 hown hK hP hD hS 0 rfl rfl 2 (by decide) k_31 (fun _ h9 => h9) rfl (by decide +kernel) rfl rfl (Nat.le_of_ble_eq_true rfl) dX1_acceptsDigit_82 (fun H locs hP hD hS => ?_)
        have hP : va_P (dC, dI) vwCl [(h0, .inr (1, [.int (nI sz), .int (nI pt), .int (nI (dg + 1)), .ref nq])), (nq, .inl (cQ, 3, .inr (.inr (.inr (.inr (xrow [nr0, nr1, nr2])))))), (nr0, .inl (cI, 16, .inl (upd (R 0) (sz - 1) ch))), (nr1, .inl (cI, 16, .inl (R 1))), (nr2, .inl (cI, 16, .inl (R 2)))] H := hP
        have hD : va_D A [(h0, .inr (1, [.int (nI sz), .int (nI pt), .int (nI (dg + 1)), .ref nq])), (nq, .inl (cQ, 3, .inr (.inr (.inr (.inr (xrow [nr0, nr1, nr2])))))), (nr0, .inl (cI, 16, .inl (upd (R 0) (sz - 1) ch))), (nr1, .inl (cI, 16, .inl (R 1))), (nr2, .inl (cI, 16, .inl (R 2)))] := hD
        refine lv_iconst (v := nI 1) hx hb dX1_acceptsDigit_85 (by decide) ?_
        have hE : xdDig (sz, pt, dg, R) ch = (true, sz, pt, dg + 1, xupR R 0 (upd (R 0) (sz - 1) (ch))) := by
          refine (if_neg (fun q => q.elim (fun q => absurd (show R 0 (sz - 1) = 0 from by have := q.2; rw [hc] at this; exact this) c_4) c_5)).trans ?_
          show (true, sz, pt, dg + 1, xupR R pt (upd (R pt) (sz - 1) (if dg = 0 then ch else R pt (sz - 1) * nI 10 + ch))) = _
          rw [if_pos c_6, hc]
        have hP9 : va_P (dC, dI) vwCl [(h0, .inr (1, [.int (nI ((xdDig (sz, pt, dg, R) ch).2.1)), .int (nI ((xdDig (sz, pt, dg, R) ch).2.2.1)), .int (nI ((xdDig (sz, pt, dg, R) ch).2.2.2.1)), .ref nq])), (nq, .inl (cQ, 3, .inr (.inr (.inr (.inr (xrow [nr0, nr1, nr2])))))), (nr0, .inl (cI, 16, .inl ((xdDig (sz, pt, dg, R) ch).2.2.2.2 0))), (nr1, .inl (cI, 16, .inl ((xdDig (sz, pt, dg, R) ch).2.2.2.2 1))), (nr2, .inl (cI, 16, .inl ((xdDig (sz, pt, dg, R) ch).2.2.2.2 2)))] H := by rw [hE]; exact hP
        have hS9 : va_S (va_B [(h0, .inr (1, [.int (nI sz), .int (nI pt), .int (nI dg), .ref nq])), (nq, .inl (cQ, 3, .inr (.inr (.inr (.inr (xrow [nr0, nr1, nr2])))))), (nr0, .inl (cI, 16, .inl (R 0))), (nr1, .inl (cI, 16, .inl (R 1))), (nr2, .inl (cI, 16, .inl (R 2)))]) s.heap H locs := by rw [← hA]; exact hS
        exact W.zret (v := nI 1) hx hb hr rfl (fun t ht hW => ⟨⟨_, _, rfl, ⟨(show nI 1 = (if (xdDig (sz, pt, dg, R) ch).1 = true then nI 1 else nI 0) from (if_pos (by rw [hE])).symm), rfl⟩, by rw [ht]; exact hP9⟩, hS9.X ht⟩) hS9.2.2 dX1_acceptsDigit_86
      refine lv_iconst (v := nI 0) hx hb dX1_acceptsDigit_51 (by decide) ?_
      have hE : xdDig (sz, pt, dg, R) ch = (false, sz, pt, dg, R) := if_pos (Or.inr c_5)
      have hP9 : va_P (dC, dI) vwCl [(h0, .inr (1, [.int (nI ((xdDig (sz, pt, dg, R) ch).2.1)), .int (nI ((xdDig (sz, pt, dg, R) ch).2.2.1)), .int (nI ((xdDig (sz, pt, dg, R) ch).2.2.2.1)), .ref nq])), (nq, .inl (cQ, 3, .inr (.inr (.inr (.inr (xrow [nr0, nr1, nr2])))))), (nr0, .inl (cI, 16, .inl ((xdDig (sz, pt, dg, R) ch).2.2.2.2 0))), (nr1, .inl (cI, 16, .inl ((xdDig (sz, pt, dg, R) ch).2.2.2.2 1))), (nr2, .inl (cI, 16, .inl ((xdDig (sz, pt, dg, R) ch).2.2.2.2 2)))] s.heap := by rw [hE]; exact hP
      have hS9 : va_S (va_B [(h0, .inr (1, [.int (nI sz), .int (nI pt), .int (nI dg), .ref nq])), (nq, .inl (cQ, 3, .inr (.inr (.inr (.inr (xrow [nr0, nr1, nr2])))))), (nr0, .inl (cI, 16, .inl (R 0))), (nr1, .inl (cI, 16, .inl (R 1))), (nr2, .inl (cI, 16, .inl (R 2)))]) s.heap s.heap [] := by rw [← hA]; exact hS
      exact W.zret (v := nI 0) hx hb hr rfl (fun t ht hW => ⟨⟨_, _, rfl, ⟨(show nI 0 = (if (xdDig (sz, pt, dg, R) ch).1 = true then nI 1 else nI 0) from (if_neg (by rw [hE]; exact Bool.false_ne_true)).symm), rfl⟩, by rw [ht]; exact hP9⟩, hS9.X ht⟩) hS9.2.2 dX1_acceptsDigit_52
    refine lv_iconst (v := nI 1) hx hb dX1_acceptsDigit_31 (by decide) ?_
    refine lv_goto (tgt := 36) hx hb dX1_acceptsDigit_32 (by decide) ?_
    refine lv_istore (lv' := [(4, .int (nI 1)), (3, .int (nI (sz - 1))), (2, .ref nr0), (0, .ref h0), (1, .int ch)]) hx hb dX1_acceptsDigit_36 hl (by decide) rfl (fun ls hl => ?_)
    refine lv_iload hx hb dX1_acceptsDigit_38 (lv_at hl 0 rfl) ?_
    refine xr_ifn1 (tgt := 51) hx hb (by decide) dX1_acceptsDigit_40 (by decide) ?_
    refine lv_iconst (v := nI 0) hx hb dX1_acceptsDigit_51 (by decide) ?_
    have hE : xdDig (sz, pt, dg, R) ch = (false, sz, pt, dg, R) := if_pos (Or.inl ⟨c_1, by rw [hc]; exact c_4⟩)
    have hP9 : va_P (dC, dI) vwCl [(h0, .inr (1, [.int (nI ((xdDig (sz, pt, dg, R) ch).2.1)), .int (nI ((xdDig (sz, pt, dg, R) ch).2.2.1)), .int (nI ((xdDig (sz, pt, dg, R) ch).2.2.2.1)), .ref nq])), (nq, .inl (cQ, 3, .inr (.inr (.inr (.inr (xrow [nr0, nr1, nr2])))))), (nr0, .inl (cI, 16, .inl ((xdDig (sz, pt, dg, R) ch).2.2.2.2 0))), (nr1, .inl (cI, 16, .inl ((xdDig (sz, pt, dg, R) ch).2.2.2.2 1))), (nr2, .inl (cI, 16, .inl ((xdDig (sz, pt, dg, R) ch).2.2.2.2 2)))] s.heap := by rw [hE]; exact hP
    have hS9 : va_S (va_B [(h0, .inr (1, [.int (nI sz), .int (nI pt), .int (nI dg), .ref nq])), (nq, .inl (cQ, 3, .inr (.inr (.inr (.inr (xrow [nr0, nr1, nr2])))))), (nr0, .inl (cI, 16, .inl (R 0))), (nr1, .inl (cI, 16, .inl (R 1))), (nr2, .inl (cI, 16, .inl (R 2)))]) s.heap s.heap [] := by rw [← hA]; exact hS
    exact W.zret (v := nI 0) hx hb hr rfl (fun t ht hW => ⟨⟨_, _, rfl, ⟨(show nI 0 = (if (xdDig (sz, pt, dg, R) ch).1 = true then nI 1 else nI 0) from (if_neg (by rw [hE]; exact Bool.false_ne_true)).symm), rfl⟩, by rw [ht]; exact hP9⟩, hS9.X ht⟩) hS9.2.2 dX1_acceptsDigit_52
  · skip
    refine xr_top (show nI pt = nI 1 from by rw [hc]) ?_
    refine xr_aald hx hb hK hP 1 4 rfl rfl rfl (i := 1) (v := nr1) (by omega) (by decide) rfl dX1_acceptsDigit_8 ?_
    refine lv_astore_n (lv' := [(2, .ref nr1), (0, .ref h0), (1, .int ch)]) hx hb dX1_acceptsDigit_9 rfl hl (by decide) rfl (fun ls hl => ?_)
    refine lv_aload_n hx hb dX1_acceptsDigit_10 rfl (lv_at hl 1 rfl) ?_
    refine va_get (D := (dC, dI)) (ci := 1) (v := .int (nI sz)) (C := RX1) (T := TX1) (N := 4) hx hb hts i_X1 hown hK hP 0 rfl rfl 0 (by decide) k_16 (fun _ h9 => h9) rfl dX1_acceptsDigit_11 ?_
    refine lv_iconst (v := nI 1) hx hb dX1_acceptsDigit_14 (by decide) ?_
    refine xr_isub_n hx hb (by omega) dX1_acceptsDigit_15 ?_
    refine lv_istore_n (lv' := [(3, .int (nI (sz - 1))), (2, .ref nr1), (0, .ref h0), (1, .int ch)]) hx hb dX1_acceptsDigit_16 rfl hl (by decide) rfl (fun ls hl => ?_)
    refine lv_aload_n hx hb dX1_acceptsDigit_17 rfl (lv_at hl 2 rfl) ?_
    refine va_get (D := (dC, dI)) (ci := 1) (v := .int (nI dg)) (C := RX1) (T := TX1) (N := 4) hx hb hts i_X1 hown hK hP 0 rfl rfl 2 (by decide) k_31 (fun _ h9 => h9) rfl dX1_acceptsDigit_18 ?_
    refine lv_iconst (v := nI 1) hx hb dX1_acceptsDigit_21 (by decide) ?_
    refine xr_ne_n (tgt := 35) hx hb (by omega) (by omega) dX1_acceptsDigit_22 (by decide) (fun c_7 => ?_) (fun c_7 => ?_)
    · skip
      refine lv_iconst (v := nI 0) hx hb dX1_acceptsDigit_35 (by decide) ?_
      refine lv_istore (lv' := [(4, .int (nI 0)), (3, .int (nI (sz - 1))), (2, .ref nr1), (0, .ref h0), (1, .int ch)]) hx hb dX1_acceptsDigit_36 hl (by decide) rfl (fun ls hl => ?_)
      refine lv_iload hx hb dX1_acceptsDigit_38 (lv_at hl 0 rfl) ?_
      refine xr_ifn0 (tgt := 51) hx hb (by decide) dX1_acceptsDigit_40 (by decide) ?_
      refine lv_aload_n hx hb dX1_acceptsDigit_43 rfl (lv_at hl 3 rfl) ?_
      refine va_get (D := (dC, dI)) (ci := 1) (v := .int (nI dg)) (C := RX1) (T := TX1) (N := 4) hx hb hts i_X1 hown hK hP 0 rfl rfl 2 (by decide) k_31 (fun _ h9 => h9) rfl dX1_acceptsDigit_44 ?_
      refine lv_iconst (v := nI 3) hx hb dX1_acceptsDigit_47 (by decide) ?_
      refine xr_ne_n (tgt := 53) hx hb (by omega) (by omega) dX1_acceptsDigit_48 (by decide) (fun c_8 => ?_) (fun c_8 => ?_)
      · skip
        refine lv_aload_n hx hb dX1_acceptsDigit_53 rfl (lv_at hl 2 rfl) ?_
        refine lv_iload_n hx hb dX1_acceptsDigit_54 rfl (lv_at hl 1 rfl) ?_
        refine lv_aload_n hx hb dX1_acceptsDigit_55 rfl (lv_at hl 3 rfl) ?_
        refine va_get (D := (dC, dI)) (ci := 1) (v := .int (nI dg)) (C := RX1) (T := TX1) (N := 4) hx hb hts i_X1 hown hK hP 0 rfl rfl 2 (by decide) k_31 (fun _ h9 => h9) rfl dX1_acceptsDigit_56 ?_
        refine xr_zne_n (tgt := 66) hx hb (by omega) dX1_acceptsDigit_59 (by decide) (fun c_9 => ?_) (fun c_9 => ?_)
        · skip
          refine lv_aload_n hx hb dX1_acceptsDigit_66 rfl (lv_at hl 2 rfl) ?_
          refine lv_iload_n hx hb dX1_acceptsDigit_67 rfl (lv_at hl 1 rfl) ?_
          refine xr_iald hx hb hK hP 3 0 rfl rfl (i := sz - 1) (by omega) (by decide) dX1_acceptsDigit_68 ?_
          refine lv_bipush (v := nI 10) hx hb dX1_acceptsDigit_69 (by decide) ?_
          refine lv_imul hx hb dX1_acceptsDigit_71 ?_
          refine lv_iload_n hx hb dX1_acceptsDigit_72 rfl (lv_at hl 4 rfl) ?_
          refine lv_iadd hx hb dX1_acceptsDigit_73 ?_
          refine xr_iast hx hb hK hP hD hS 3 0 rfl rfl (i := sz - 1) (by omega) (by decide) dX1_acceptsDigit_74 (fun H locs hP hD hS => ?_)
          have hP : va_P (dC, dI) vwCl [(h0, .inr (1, [.int (nI sz), .int (nI pt), .int (nI dg), .ref nq])), (nq, .inl (cQ, 3, .inr (.inr (.inr (.inr (xrow [nr0, nr1, nr2])))))), (nr0, .inl (cI, 16, .inl (R 0))), (nr1, .inl (cI, 16, .inl (upd (R 1) (sz - 1) ((((R 1) (sz - 1)) * (nI 10)) + ch)))), (nr2, .inl (cI, 16, .inl (R 2)))] H := hP
          have hD : va_D A [(h0, .inr (1, [.int (nI sz), .int (nI pt), .int (nI dg), .ref nq])), (nq, .inl (cQ, 3, .inr (.inr (.inr (.inr (xrow [nr0, nr1, nr2])))))), (nr0, .inl (cI, 16, .inl (R 0))), (nr1, .inl (cI, 16, .inl (upd (R 1) (sz - 1) ((((R 1) (sz - 1)) * (nI 10)) + ch)))), (nr2, .inl (cI, 16, .inl (R 2)))] := hD
          refine lv_aload_n hx hb dX1_acceptsDigit_75 rfl (lv_at hl 3 rfl) ?_
          refine lv_dup hx hb dX1_acceptsDigit_76 rfl ?_
          refine va_get (D := (dC, dI)) (ci := 1) (v := .int (nI dg)) (C := RX1) (T := TX1) (N := 4) hx hb hts i_X1 hown hK hP 0 rfl rfl 2 (by decide) k_31 (fun _ h9 => h9) rfl dX1_acceptsDigit_77 ?_
          refine lv_iconst (v := nI 1) hx hb dX1_acceptsDigit_80 (by decide) ?_
          refine xr_iadd_n hx hb dX1_acceptsDigit_81 ?_
          refine va_put (D := (dC, dI)) (ci := 1) (v := .int (nI (dg + 1))) (ty := .int) (C := RX1) (T := TX1) (N := 4) hx hb hts i_X1 tyX1 tyX1_ok nmX1 hown hK hP hD hS 0 rfl rfl 2 (by decide) k_31 (fun _ h9 => h9) rfl (by decide +kernel) rfl rfl (Nat.le_of_ble_eq_true rfl) dX1_acceptsDigit_82 (fun H locs hP hD hS => ?_)
          have hP : va_P (dC, dI) vwCl [(h0, .inr (1, [.int (nI sz), .int (nI pt), .int (nI (dg + 1)), .ref nq])), (nq, .inl (cQ, 3, .inr (.inr (.inr (.inr (xrow [nr0, nr1, nr2])))))), (nr0, .inl (cI, 16, .inl (R 0))), (nr1, .inl (cI, 16, .inl (upd (R 1) (sz - 1) ((((R 1) (sz - 1)) * (nI 10)) + ch)))), (nr2, .inl (cI, 16, .inl (R 2)))] H := hP
          have hD : va_D A [(h0, .inr (1, [.int (nI sz), .int (nI pt), .int (nI (dg + 1)), .ref nq])), (nq, .inl (cQ, 3, .inr (.inr (.inr (.inr (xrow [nr0, nr1, nr2])))))), (nr0, .inl (cI, 16, .inl (R 0))), (nr1, .inl (cI, 16, .inl (upd (R 1) (sz - 1) ((((R 1) (sz - 1)) * (nI 10)) + ch)))), (nr2, .inl (cI, 16, .inl (R 2)))] := hD
          refine lv_iconst (v := nI 1) hx hb dX1_acceptsDigit_85 (by decide) ?_
          have hE : xdDig (sz, pt, dg, R) ch = (true, sz, pt, dg + 1, xupR R 1 (upd (R 1) (sz - 1) (R 1 (sz - 1) * nI 10 + ch))) := by
            refine (if_neg (fun q => q.elim (fun q => absurd q.1 c_7) c_8)).trans ?_
            show (true, sz, pt, dg + 1, xupR R pt (upd (R pt) (sz - 1) (if dg = 0 then ch else R pt (sz - 1) * nI 10 + ch))) = _
            rw [if_neg (Nat.ne_of_gt c_9), hc]
          have hP9 : va_P (dC, dI) vwCl [(h0, .inr (1, [.int (nI ((xdDig (sz, pt, dg, R) ch).2.1)), .int (nI ((xdDig (sz, pt, dg, R) ch).2.2.1)), .int (nI ((xdDig (sz, pt, dg, R) ch).2.2.2.1)), .ref nq])), (nq, .inl (cQ, 3, .inr (.inr (.inr (.inr (xrow [nr0, nr1, nr2])))))), (nr0, .inl (cI, 16, .inl ((xdDig (sz, pt, dg, R) ch).2.2.2.2 0))), (nr1, .inl (cI, 16, .inl ((xdDig (sz, pt, dg, R) ch).2.2.2.2 1))), (nr2, .inl (cI, 16, .inl ((xdDig (sz, pt, dg, R) ch).2.2.2.2 2)))] H := by rw [hE]; exact hP
          have hS9 : va_S (va_B [(h0, .inr (1, [.int (nI sz), .int (nI pt), .int (nI dg), .ref nq])), (nq, .inl (cQ, 3, .inr (.inr (.inr (.inr (xrow [nr0, nr1, nr2])))))), (nr0, .inl (cI, 16, .inl (R 0))), (nr1, .inl (cI, 16, .inl (R 1))), (nr2, .inl (cI, 16, .inl (R 2)))]) s.heap H locs := by rw [← hA]; exact hS
          exact W.zret (v := nI 1) hx hb hr rfl (fun t ht hW => ⟨⟨_, _, rfl, ⟨(show nI 1 = (if (xdDig (sz, pt, dg, R) ch).1 = true then nI 1 else nI 0) from (if_pos (by rw [hE])).symm), rfl⟩, by rw [ht]; exact hP9⟩, hS9.X ht⟩) hS9.2.2 dX1_acceptsDigit_86
        refine lv_iload_n hx hb dX1_acceptsDigit_62 rfl (lv_at hl 4 rfl) ?_
        refine lv_goto (tgt := 74) hx hb dX1_acceptsDigit_63 (by decide) ?_
        refine xr_iast hx hb hK hP hD hS 3 0 rfl rfl (i := sz - 1) (by omega) (by decide) dX1_acceptsDigit_74 (fun H locs hP hD hS => ?_)
        have hP : va_P (dC, dI) vwCl [(h0, .inr (1, [.int (nI sz), .int (nI pt), .int (nI dg), .ref nq])), (nq, .inl (cQ, 3, .inr (.inr (.inr (.inr (xrow [nr0, nr1, nr2])))))), (nr0, .inl (cI, 16, .inl (R 0))), (nr1, .inl (cI, 16, .inl (upd (R 1) (sz - 1) ch))), (nr2, .inl (cI, 16, .inl (R 2)))] H := hP
        have hD : va_D A [(h0, .inr (1, [.int (nI sz), .int (nI pt), .int (nI dg), .ref nq])), (nq, .inl (cQ, 3, .inr (.inr (.inr (.inr (xrow [nr0, nr1, nr2])))))), (nr0, .inl (cI, 16, .inl (R 0))), (nr1, .inl (cI, 16, .inl (upd (R 1) (sz - 1) ch))), (nr2, .inl (cI, 16, .inl (R 2)))] := hD
        refine lv_aload_n hx hb dX1_acceptsDigit_75 rfl (lv_at hl 3 rfl) ?_
        refine lv_dup hx hb dX1_acceptsDigit_76 rfl ?_
        refine va_get (D := (dC, dI)) (ci := 1) (v := .int (nI dg)) (C := RX1) (T := TX1) (N := 4) hx hb hts i_X1 hown hK hP 0 rfl rfl 2 (by decide) k_31 (fun _ h9 => h9) rfl dX1_acceptsDigit_77 ?_
        refine lv_iconst (v := nI 1) hx hb dX1_acceptsDigit_80 (by decide) ?_
        refine xr_iadd_n hx hb dX1_acceptsDigit_81 ?_
        refine va_put (D := (dC, dI)) (ci := 1) (v := .int (nI (dg + 1))) (ty := .int) (C := RX1) (T := TX1) (N := 4) hx hb hts i_X1 tyX1 tyX1_ok nmX1 hown hK hP hD hS 0 rfl rfl 2 (by decide) k_31 (fun _ h9 => h9) rfl (by decide +kernel) rfl rfl (Nat.le_of_ble_eq_true rfl) dX1_acceptsDigit_82 (fun H locs hP hD hS => ?_)
        have hP : va_P (dC, dI) vwCl [(h0, .inr (1, [.int (nI sz), .int (nI pt), .int (nI (dg + 1)), .ref nq])), (nq, .inl (cQ, 3, .inr (.inr (.inr (.inr (xrow [nr0, nr1, nr2])))))), (nr0, .inl (cI, 16, .inl (R 0))), (nr1, .inl (cI, 16, .inl (upd (R 1) (sz - 1) ch))), (nr2, .inl (cI, 16, .inl (R 2)))] H := hP
        have hD : va_D A [(h0, .inr (1, [.int (nI sz), .int (nI pt), .int (nI (dg + 1)), .ref nq])), (nq, .inl (cQ, 3, .inr (.inr (.inr (.inr (xrow [nr0, nr1, nr2])))))), (nr0, .inl (cI, 16, .inl (R 0))), (nr1, .inl (cI, 16, .inl (upd (R 1) (sz - 1) ch))), (nr2, .inl (cI, 16, .inl (R 2)))] := hD
        refine lv_iconst (v := nI 1) hx hb dX1_acceptsDigit_85 (by decide) ?_
        have hE : xdDig (sz, pt, dg, R) ch = (true, sz, pt, dg + 1, xupR R 1 (upd (R 1) (sz - 1) (ch))) := by
          refine (if_neg (fun q => q.elim (fun q => absurd q.1 c_7) c_8)).trans ?_
          show (true, sz, pt, dg + 1, xupR R pt (upd (R pt) (sz - 1) (if dg = 0 then ch else R pt (sz - 1) * nI 10 + ch))) = _
          rw [if_pos c_9, hc]
        have hP9 : va_P (dC, dI) vwCl [(h0, .inr (1, [.int (nI ((xdDig (sz, pt, dg, R) ch).2.1)), .int (nI ((xdDig (sz, pt, dg, R) ch).2.2.1)), .int (nI ((xdDig (sz, pt, dg, R) ch).2.2.2.1)), .ref nq])), (nq, .inl (cQ, 3, .inr (.inr (.inr (.inr (xrow [nr0, nr1, nr2])))))), (nr0, .inl (cI, 16, .inl ((xdDig (sz, pt, dg, R) ch).2.2.2.2 0))), (nr1, .inl (cI, 16, .inl ((xdDig (sz, pt, dg, R) ch).2.2.2.2 1))), (nr2, .inl (cI, 16, .inl ((xdDig (sz, pt, dg, R) ch).2.2.2.2 2)))] H := by rw [hE]; exact hP
        have hS9 : va_S (va_B [(h0, .inr (1, [.int (nI sz), .int (nI pt), .int (nI dg), .ref nq])), (nq, .inl (cQ, 3, .inr (.inr (.inr (.inr (xrow [nr0, nr1, nr2])))))), (nr0, .inl (cI, 16, .inl (R 0))), (nr1, .inl (cI, 16, .inl (R 1))), (nr2, .inl (cI, 16, .inl (R 2)))]) s.heap H locs := by rw [← hA]; exact hS
        exact W.zret (v := nI 1) hx hb hr rfl (fun t ht hW => ⟨⟨_, _, rfl, ⟨(show nI 1 = (if (xdDig (sz, pt, dg, R) ch).1 = true then nI 1 else nI 0) from (if_pos (by rw [hE])).symm), rfl⟩, by rw [ht]; exact hP9⟩, hS9.X ht⟩) hS9.2.2 dX1_acceptsDigit_86
      refine lv_iconst (v := nI 0) hx hb dX1_acceptsDigit_51 (by decide) ?_
      have hE : xdDig (sz, pt, dg, R) ch = (false, sz, pt, dg, R) := if_pos (Or.inr c_8)
      have hP9 : va_P (dC, dI) vwCl [(h0, .inr (1, [.int (nI ((xdDig (sz, pt, dg, R) ch).2.1)), .int (nI ((xdDig (sz, pt, dg, R) ch).2.2.1)), .int (nI ((xdDig (sz, pt, dg, R) ch).2.2.2.1)), .ref nq])), (nq, .inl (cQ, 3, .inr (.inr (.inr (.inr (xrow [nr0, nr1, nr2])))))), (nr0, .inl (cI, 16, .inl ((xdDig (sz, pt, dg, R) ch).2.2.2.2 0))), (nr1, .inl (cI, 16, .inl ((xdDig (sz, pt, dg, R) ch).2.2.2.2 1))), (nr2, .inl (cI, 16, .inl ((xdDig (sz, pt, dg, R) ch).2.2.2.2 2)))] s.heap := by rw [hE]; exact hP
      have hS9 : va_S (va_B [(h0, .inr (1, [.int (nI sz), .int (nI pt), .int (nI dg), .ref nq])), (nq, .inl (cQ, 3, .inr (.inr (.inr (.inr (xrow [nr0, nr1, nr2])))))), (nr0, .inl (cI, 16, .inl (R 0))), (nr1, .inl (cI, 16, .inl (R 1))), (nr2, .inl (cI, 16, .inl (R 2)))]) s.heap s.heap [] := by rw [← hA]; exact hS
      exact W.zret (v := nI 0) hx hb hr rfl (fun t ht hW => ⟨⟨_, _, rfl, ⟨(show nI 0 = (if (xdDig (sz, pt, dg, R) ch).1 = true then nI 1 else nI 0) from (if_neg (by rw [hE]; exact Bool.false_ne_true)).symm), rfl⟩, by rw [ht]; exact hP9⟩, hS9.X ht⟩) hS9.2.2 dX1_acceptsDigit_52
    refine lv_aload_n hx hb dX1_acceptsDigit_25 rfl (lv_at hl 1 rfl) ?_
    refine lv_iload_n hx hb dX1_acceptsDigit_26 rfl (lv_at hl 0 rfl) ?_
    refine xr_iald hx hb hK hP 3 0 rfl rfl (i := sz - 1) (by omega) (by decide) dX1_acceptsDigit_27 ?_
    refine lv_if_ne (tgt := 35) hx hb dX1_acceptsDigit_28 (by decide) (fun c_10 => ?_) (fun c_10 => ?_)
    · skip
      refine lv_iconst (v := nI 0) hx hb dX1_acceptsDigit_35 (by decide) ?_
      refine lv_istore (lv' := [(4, .int (nI 0)), (3, .int (nI (sz - 1))), (2, .ref nr1), (0, .ref h0), (1, .int ch)]) hx hb dX1_acceptsDigit_36 hl (by decide) rfl (fun ls hl => ?_)
      refine lv_iload hx hb dX1_acceptsDigit_38 (lv_at hl 0 rfl) ?_
      refine xr_ifn0 (tgt := 51) hx hb (by decide) dX1_acceptsDigit_40 (by decide) ?_
      refine lv_aload_n hx hb dX1_acceptsDigit_43 rfl (lv_at hl 3 rfl) ?_
      refine va_get (D := (dC, dI)) (ci := 1) (v := .int (nI dg)) (C := RX1) (T := TX1) (N := 4) hx hb hts i_X1 hown hK hP 0 rfl rfl 2 (by decide) k_31 (fun _ h9 => h9) rfl dX1_acceptsDigit_44 ?_
      refine lv_iconst (v := nI 3) hx hb dX1_acceptsDigit_47 (by decide) ?_
      refine xr_ne_n (tgt := 53) hx hb (by omega) (by omega) dX1_acceptsDigit_48 (by decide) (fun c_11 => ?_) (fun c_11 => ?_)
      · skip
        refine lv_aload_n hx hb dX1_acceptsDigit_53 rfl (lv_at hl 2 rfl) ?_
        refine lv_iload_n hx hb dX1_acceptsDigit_54 rfl (lv_at hl 1 rfl) ?_
        refine lv_aload_n hx hb dX1_acceptsDigit_55 rfl (lv_at hl 3 rfl) ?_
        refine va_get (D := (dC, dI)) (ci := 1) (v := .int (nI dg)) (C := RX1) (T := TX1) (N := 4) hx hb hts i_X1 hown hK hP 0 rfl rfl 2 (by decide) k_31 (fun _ h9 => h9) rfl dX1_acceptsDigit_56 ?_
        refine xr_zne_n (tgt := 66) hx hb (by omega) dX1_acceptsDigit_59 (by decide) (fun c_12 => ?_) (fun c_12 => ?_)
        · skip
          refine lv_aload_n hx hb dX1_acceptsDigit_66 rfl (lv_at hl 2 rfl) ?_
          refine lv_iload_n hx hb dX1_acceptsDigit_67 rfl (lv_at hl 1 rfl) ?_
          refine xr_iald hx hb hK hP 3 0 rfl rfl (i := sz - 1) (by omega) (by decide) dX1_acceptsDigit_68 ?_
          refine lv_bipush (v := nI 10) hx hb dX1_acceptsDigit_69 (by decide) ?_
          refine lv_imul hx hb dX1_acceptsDigit_71 ?_
          refine lv_iload_n hx hb dX1_acceptsDigit_72 rfl (lv_at hl 4 rfl) ?_
          refine lv_iadd hx hb dX1_acceptsDigit_73 ?_
          refine xr_iast hx hb hK hP hD hS 3 0 rfl rfl (i := sz - 1) (by omega) (by decide) dX1_acceptsDigit_74 (fun H locs hP hD hS => ?_)
          have hP : va_P (dC, dI) vwCl [(h0, .inr (1, [.int (nI sz), .int (nI pt), .int (nI dg), .ref nq])), (nq, .inl (cQ, 3, .inr (.inr (.inr (.inr (xrow [nr0, nr1, nr2])))))), (nr0, .inl (cI, 16, .inl (R 0))), (nr1, .inl (cI, 16, .inl (upd (R 1) (sz - 1) ((((R 1) (sz - 1)) * (nI 10)) + ch)))), (nr2, .inl (cI, 16, .inl (R 2)))] H := hP
          have hD : va_D A [(h0, .inr (1, [.int (nI sz), .int (nI pt), .int (nI dg), .ref nq])), (nq, .inl (cQ, 3, .inr (.inr (.inr (.inr (xrow [nr0, nr1, nr2])))))), (nr0, .inl (cI, 16, .inl (R 0))), (nr1, .inl (cI, 16, .inl (upd (R 1) (sz - 1) ((((R 1) (sz - 1)) * (nI 10)) + ch)))), (nr2, .inl (cI, 16, .inl (R 2)))] := hD
          refine lv_aload_n hx hb dX1_acceptsDigit_75 rfl (lv_at hl 3 rfl) ?_
          refine lv_dup hx hb dX1_acceptsDigit_76 rfl ?_
          refine va_get (D := (dC, dI)) (ci := 1) (v := .int (nI dg)) (C := RX1) (T := TX1) (N := 4) hx hb hts i_X1 hown hK hP 0 rfl rfl 2 (by decide) k_31 (fun _ h9 => h9) rfl dX1_acceptsDigit_77 ?_
          refine lv_iconst (v := nI 1) hx hb dX1_acceptsDigit_80 (by decide) ?_
          refine xr_iadd_n hx hb dX1_acceptsDigit_81 ?_
          refine va_put (D := (dC, dI)) (ci := 1) (v := .int (nI (dg + 1))) (ty := .int) (C := RX1) (T := TX1) (N := 4) hx hb hts i_X1 tyX1 tyX1_ok nmX1 hown hK hP hD hS 0 rfl rfl 2 (by decide) k_31 (fun _ h9 => h9) rfl (by decide +kernel) rfl rfl (Nat.le_of_ble_eq_true rfl) dX1_acceptsDigit_82 (fun H locs hP hD hS => ?_)
          have hP : va_P (dC, dI) vwCl [(h0, .inr (1, [.int (nI sz), .int (nI pt), .int (nI (dg + 1)), .ref nq])), (nq, .inl (cQ, 3, .inr (.inr (.inr (.inr (xrow [nr0, nr1, nr2])))))), (nr0, .inl (cI, 16, .inl (R 0))), (nr1, .inl (cI, 16, .inl (upd (R 1) (sz - 1) ((((R 1) (sz - 1)) * (nI 10)) + ch)))), (nr2, .inl (cI, 16, .inl (R 2)))] H := hP
          have hD : va_D A [(h0, .inr (1, [.int (nI sz), .int (nI pt), .int (nI (dg + 1)), .ref nq])), (nq, .inl (cQ, 3, .inr (.inr (.inr (.inr (xrow [nr0, nr1, nr2])))))), (nr0, .inl (cI, 16, .inl (R 0))), (nr1, .inl (cI, 16, .inl (upd (R 1) (sz - 1) ((((R 1) (sz - 1)) * (nI 10)) + ch)))), (nr2, .inl (cI, 16, .inl (R 2)))] := hD
          refine lv_iconst (v := nI 1) hx hb dX1_acceptsDigit_85 (by decide) ?_
          have hE : xdDig (sz, pt, dg, R) ch = (true, sz, pt, dg + 1, xupR R 1 (upd (R 1) (sz - 1) (R 1 (sz - 1) * nI 10 + ch))) := by
            refine (if_neg (fun q => q.elim (fun q => absurd (show R 1 (sz - 1) = 0 from by have := q.2; rw [hc] at this; exact this) c_10) c_11)).trans ?_
            show (true, sz, pt, dg + 1, xupR R pt (upd (R pt) (sz - 1) (if dg = 0 then ch else R pt (sz - 1) * nI 10 + ch))) = _
            rw [if_neg (Nat.ne_of_gt c_12), hc]
          have hP9 : va_P (dC, dI) vwCl [(h0, .inr (1, [.int (nI ((xdDig (sz, pt, dg, R) ch).2.1)), .int (nI ((xdDig (sz, pt, dg, R) ch).2.2.1)), .int (nI ((xdDig (sz, pt, dg, R) ch).2.2.2.1)), .ref nq])), (nq, .inl (cQ, 3, .inr (.inr (.inr (.inr (xrow [nr0, nr1, nr2])))))), (nr0, .inl (cI, 16, .inl ((xdDig (sz, pt, dg, R) ch).2.2.2.2 0))), (nr1, .inl (cI, 16, .inl ((xdDig (sz, pt, dg, R) ch).2.2.2.2 1))), (nr2, .inl (cI, 16, .inl ((xdDig (sz, pt, dg, R) ch).2.2.2.2 2)))] H := by rw [hE]; exact hP
          have hS9 : va_S (va_B [(h0, .inr (1, [.int (nI sz), .int (nI pt), .int (nI dg), .ref nq])), (nq, .inl (cQ, 3, .inr (.inr (.inr (.inr (xrow [nr0, nr1, nr2])))))), (nr0, .inl (cI, 16, .inl (R 0))), (nr1, .inl (cI, 16, .inl (R 1))), (nr2, .inl (cI, 16, .inl (R 2)))]) s.heap H locs := by rw [← hA]; exact hS
          exact W.zret (v := nI 1) hx hb hr rfl (fun t ht hW => ⟨⟨_, _, rfl, ⟨(show nI 1 = (if (xdDig (sz, pt, dg, R) ch).1 = true then nI 1 else nI 0) from (if_pos (by rw [hE])).symm), rfl⟩, by rw [ht]; exact hP9⟩, hS9.X ht⟩) hS9.2.2 dX1_acceptsDigit_86
        refine lv_iload_n hx hb dX1_acceptsDigit_62 rfl (lv_at hl 4 rfl) ?_
        refine lv_goto (tgt := 74) hx hb dX1_acceptsDigit_63 (by decide) ?_
        refine xr_iast hx hb hK hP hD hS 3 0 rfl rfl (i := sz - 1) (by omega) (by decide) dX1_acceptsDigit_74 (fun H locs hP hD hS => ?_)
        have hP : va_P (dC, dI) vwCl [(h0, .inr (1, [.int (nI sz), .int (nI pt), .int (nI dg), .ref nq])), (nq, .inl (cQ, 3, .inr (.inr (.inr (.inr (xrow [nr0, nr1, nr2])))))), (nr0, .inl (cI, 16, .inl (R 0))), (nr1, .inl (cI, 16, .inl (upd (R 1) (sz - 1) ch))), (nr2, .inl (cI, 16, .inl (R 2)))] H := hP
        have hD : va_D A [(h0, .inr (1, [.int (nI sz), .int (nI pt), .int (nI dg), .ref nq])), (nq, .inl (cQ, 3, .inr (.inr (.inr (.inr (xrow [nr0, nr1, nr2])))))), (nr0, .inl (cI, 16, .inl (R 0))), (nr1, .inl (cI, 16, .inl (upd (R 1) (sz - 1) ch))), (nr2, .inl (cI, 16, .inl (R 2)))] := hD
        refine lv_aload_n hx hb dX1_acceptsDigit_75 rfl (lv_at hl 3 rfl) ?_
        refine lv_dup hx hb dX1_acceptsDigit_76 rfl ?_
        refine va_get (D := (dC, dI)) (ci := 1) (v := .int (nI dg)) (C := RX1) (T := TX1) (N := 4) hx hb hts i_X1 hown hK hP 0 rfl rfl 2 (by decide) k_31 (fun _ h9 => h9) rfl dX1_acceptsDigit_77 ?_
        refine lv_iconst (v := nI 1) hx hb dX1_acceptsDigit_80 (by decide) ?_
        refine xr_iadd_n hx hb dX1_acceptsDigit_81 ?_
        refine va_put (D := (dC, dI)) (ci := 1) (v := .int (nI (dg + 1))) (ty := .int) (C := RX1) (T := TX1) (N := 4) hx hb hts i_X1 tyX1 tyX1_ok nmX1 hown hK hP hD hS 0 rfl rfl 2 (by decide) k_31 (fun _ h9 => h9) rfl (by decide +kernel) rfl rfl (Nat.le_of_ble_eq_true rfl) dX1_acceptsDigit_82 (fun H locs hP hD hS => ?_)
        have hP : va_P (dC, dI) vwCl [(h0, .inr (1, [.int (nI sz), .int (nI pt), .int (nI (dg + 1)), .ref nq])), (nq, .inl (cQ, 3, .inr (.inr (.inr (.inr (xrow [nr0, nr1, nr2])))))), (nr0, .inl (cI, 16, .inl (R 0))), (nr1, .inl (cI, 16, .inl (upd (R 1) (sz - 1) ch))), (nr2, .inl (cI, 16, .inl (R 2)))] H := hP
        have hD : va_D A [(h0, .inr (1, [.int (nI sz), .int (nI pt), .int (nI (dg + 1)), .ref nq])), (nq, .inl (cQ, 3, .inr (.inr (.inr (.inr (xrow [nr0, nr1, nr2])))))), (nr0, .inl (cI, 16, .inl (R 0))), (nr1, .inl (cI, 16, .inl (upd (R 1) (sz - 1) ch))), (nr2, .inl (cI, 16, .inl (R 2)))] := hD
        refine lv_iconst (v := nI 1) hx hb dX1_acceptsDigit_85 (by decide) ?_
        have hE : xdDig (sz, pt, dg, R) ch = (true, sz, pt, dg + 1, xupR R 1 (upd (R 1) (sz - 1) (ch))) := by
          refine (if_neg (fun q => q.elim (fun q => absurd (show R 1 (sz - 1) = 0 from by have := q.2; rw [hc] at this; exact this) c_10) c_11)).trans ?_
          show (true, sz, pt, dg + 1, xupR R pt (upd (R pt) (sz - 1) (if dg = 0 then ch else R pt (sz - 1) * nI 10 + ch))) = _
          rw [if_pos c_12, hc]
        have hP9 : va_P (dC, dI) vwCl [(h0, .inr (1, [.int (nI ((xdDig (sz, pt, dg, R) ch).2.1)), .int (nI ((xdDig (sz, pt, dg, R) ch).2.2.1)), .int (nI ((xdDig (sz, pt, dg, R) ch).2.2.2.1)), .ref nq])), (nq, .inl (cQ, 3, .inr (.inr (.inr (.inr (xrow [nr0, nr1, nr2])))))), (nr0, .inl (cI, 16, .inl ((xdDig (sz, pt, dg, R) ch).2.2.2.2 0))), (nr1, .inl (cI, 16, .inl ((xdDig (sz, pt, dg, R) ch).2.2.2.2 1))), (nr2, .inl (cI, 16, .inl ((xdDig (sz, pt, dg, R) ch).2.2.2.2 2)))] H := by rw [hE]; exact hP
        have hS9 : va_S (va_B [(h0, .inr (1, [.int (nI sz), .int (nI pt), .int (nI dg), .ref nq])), (nq, .inl (cQ, 3, .inr (.inr (.inr (.inr (xrow [nr0, nr1, nr2])))))), (nr0, .inl (cI, 16, .inl (R 0))), (nr1, .inl (cI, 16, .inl (R 1))), (nr2, .inl (cI, 16, .inl (R 2)))]) s.heap H locs := by rw [← hA]; exact hS
        exact W.zret (v := nI 1) hx hb hr rfl (fun t ht hW => ⟨⟨_, _, rfl, ⟨(show nI 1 = (if (xdDig (sz, pt, dg, R) ch).1 = true then nI 1 else nI 0) from (if_pos (by rw [hE])).symm), rfl⟩, by rw [ht]; exact hP9⟩, hS9.X ht⟩) hS9.2.2 dX1_acceptsDigit_86
      refine lv_iconst (v := nI 0) hx hb dX1_acceptsDigit_51 (by decide) ?_
      have hE : xdDig (sz, pt, dg, R) ch = (false, sz, pt, dg, R) := if_pos (Or.inr c_11)
      have hP9 : va_P (dC, dI) vwCl [(h0, .inr (1, [.int (nI ((xdDig (sz, pt, dg, R) ch).2.1)), .int (nI ((xdDig (sz, pt, dg, R) ch).2.2.1)), .int (nI ((xdDig (sz, pt, dg, R) ch).2.2.2.1)), .ref nq])), (nq, .inl (cQ, 3, .inr (.inr (.inr (.inr (xrow [nr0, nr1, nr2])))))), (nr0, .inl (cI, 16, .inl ((xdDig (sz, pt, dg, R) ch).2.2.2.2 0))), (nr1, .inl (cI, 16, .inl ((xdDig (sz, pt, dg, R) ch).2.2.2.2 1))), (nr2, .inl (cI, 16, .inl ((xdDig (sz, pt, dg, R) ch).2.2.2.2 2)))] s.heap := by rw [hE]; exact hP
      have hS9 : va_S (va_B [(h0, .inr (1, [.int (nI sz), .int (nI pt), .int (nI dg), .ref nq])), (nq, .inl (cQ, 3, .inr (.inr (.inr (.inr (xrow [nr0, nr1, nr2])))))), (nr0, .inl (cI, 16, .inl (R 0))), (nr1, .inl (cI, 16, .inl (R 1))), (nr2, .inl (cI, 16, .inl (R 2)))]) s.heap s.heap [] := by rw [← hA]; exact hS
      exact W.zret (v := nI 0) hx hb hr rfl (fun t ht hW => ⟨⟨_, _, rfl, ⟨(show nI 0 = (if (xdDig (sz, pt, dg, R) ch).1 = true then nI 1 else nI 0) from (if_neg (by rw [hE]; exact Bool.false_ne_true)).symm), rfl⟩, by rw [ht]; exact hP9⟩, hS9.X ht⟩) hS9.2.2 dX1_acceptsDigit_52
    refine lv_iconst (v := nI 1) hx hb dX1_acceptsDigit_31 (by decide) ?_
    refine lv_goto (tgt := 36) hx hb dX1_acceptsDigit_32 (by decide) ?_
    refine lv_istore (lv' := [(4, .int (nI 1)), (3, .int (nI (sz - 1))), (2, .ref nr1), (0, .ref h0), (1, .int ch)]) hx hb dX1_acceptsDigit_36 hl (by decide) rfl (fun ls hl => ?_)
    refine lv_iload hx hb dX1_acceptsDigit_38 (lv_at hl 0 rfl) ?_
    refine xr_ifn1 (tgt := 51) hx hb (by decide) dX1_acceptsDigit_40 (by decide) ?_
    refine lv_iconst (v := nI 0) hx hb dX1_acceptsDigit_51 (by decide) ?_
    have hE : xdDig (sz, pt, dg, R) ch = (false, sz, pt, dg, R) := if_pos (Or.inl ⟨c_7, by rw [hc]; exact c_10⟩)
    have hP9 : va_P (dC, dI) vwCl [(h0, .inr (1, [.int (nI ((xdDig (sz, pt, dg, R) ch).2.1)), .int (nI ((xdDig (sz, pt, dg, R) ch).2.2.1)), .int (nI ((xdDig (sz, pt, dg, R) ch).2.2.2.1)), .ref nq])), (nq, .inl (cQ, 3, .inr (.inr (.inr (.inr (xrow [nr0, nr1, nr2])))))), (nr0, .inl (cI, 16, .inl ((xdDig (sz, pt, dg, R) ch).2.2.2.2 0))), (nr1, .inl (cI, 16, .inl ((xdDig (sz, pt, dg, R) ch).2.2.2.2 1))), (nr2, .inl (cI, 16, .inl ((xdDig (sz, pt, dg, R) ch).2.2.2.2 2)))] s.heap := by rw [hE]; exact hP
    have hS9 : va_S (va_B [(h0, .inr (1, [.int (nI sz), .int (nI pt), .int (nI dg), .ref nq])), (nq, .inl (cQ, 3, .inr (.inr (.inr (.inr (xrow [nr0, nr1, nr2])))))), (nr0, .inl (cI, 16, .inl (R 0))), (nr1, .inl (cI, 16, .inl (R 1))), (nr2, .inl (cI, 16, .inl (R 2)))]) s.heap s.heap [] := by rw [← hA]; exact hS
    exact W.zret (v := nI 0) hx hb hr rfl (fun t ht hW => ⟨⟨_, _, rfl, ⟨(show nI 0 = (if (xdDig (sz, pt, dg, R) ch).1 = true then nI 1 else nI 0) from (if_neg (by rw [hE]; exact Bool.false_ne_true)).symm), rfl⟩, by rw [ht]; exact hP9⟩, hS9.X ht⟩) hS9.2.2 dX1_acceptsDigit_52
  · skip
    refine xr_top (show nI pt = nI 2 from by rw [hc]) ?_
    refine xr_aald hx hb hK hP 1 4 rfl rfl rfl (i := 2) (v := nr2) (by omega) (by decide) rfl dX1_acceptsDigit_8 ?_
    refine lv_astore_n (lv' := [(2, .ref nr2), (0, .ref h0), (1, .int ch)]) hx hb dX1_acceptsDigit_9 rfl hl (by decide) rfl (fun ls hl => ?_)
    refine lv_aload_n hx hb dX1_acceptsDigit_10 rfl (lv_at hl 1 rfl) ?_
    refine va_get (D := (dC, dI)) (ci := 1) (v := .int (nI sz)) (C := RX1) (T := TX1) (N := 4) hx hb hts i_X1 hown hK hP 0 rfl rfl 0 (by decide) k_16 (fun _ h9 => h9) rfl dX1_acceptsDigit_11 ?_
    refine lv_iconst (v := nI 1) hx hb dX1_acceptsDigit_14 (by decide) ?_
    refine xr_isub_n hx hb (by omega) dX1_acceptsDigit_15 ?_
    refine lv_istore_n (lv' := [(3, .int (nI (sz - 1))), (2, .ref nr2), (0, .ref h0), (1, .int ch)]) hx hb dX1_acceptsDigit_16 rfl hl (by decide) rfl (fun ls hl => ?_)
    refine lv_aload_n hx hb dX1_acceptsDigit_17 rfl (lv_at hl 2 rfl) ?_
    refine va_get (D := (dC, dI)) (ci := 1) (v := .int (nI dg)) (C := RX1) (T := TX1) (N := 4) hx hb hts i_X1 hown hK hP 0 rfl rfl 2 (by decide) k_31 (fun _ h9 => h9) rfl dX1_acceptsDigit_18 ?_
    refine lv_iconst (v := nI 1) hx hb dX1_acceptsDigit_21 (by decide) ?_
    refine xr_ne_n (tgt := 35) hx hb (by omega) (by omega) dX1_acceptsDigit_22 (by decide) (fun c_13 => ?_) (fun c_13 => ?_)
    · skip
      refine lv_iconst (v := nI 0) hx hb dX1_acceptsDigit_35 (by decide) ?_
      refine lv_istore (lv' := [(4, .int (nI 0)), (3, .int (nI (sz - 1))), (2, .ref nr2), (0, .ref h0), (1, .int ch)]) hx hb dX1_acceptsDigit_36 hl (by decide) rfl (fun ls hl => ?_)
      refine lv_iload hx hb dX1_acceptsDigit_38 (lv_at hl 0 rfl) ?_
      refine xr_ifn0 (tgt := 51) hx hb (by decide) dX1_acceptsDigit_40 (by decide) ?_
      refine lv_aload_n hx hb dX1_acceptsDigit_43 rfl (lv_at hl 3 rfl) ?_
      refine va_get (D := (dC, dI)) (ci := 1) (v := .int (nI dg)) (C := RX1) (T := TX1) (N := 4) hx hb hts i_X1 hown hK hP 0 rfl rfl 2 (by decide) k_31 (fun _ h9 => h9) rfl dX1_acceptsDigit_44 ?_
      refine lv_iconst (v := nI 3) hx hb dX1_acceptsDigit_47 (by decide) ?_
      refine xr_ne_n (tgt := 53) hx hb (by omega) (by omega) dX1_acceptsDigit_48 (by decide) (fun c_14 => ?_) (fun c_14 => ?_)
      · skip
        refine lv_aload_n hx hb dX1_acceptsDigit_53 rfl (lv_at hl 2 rfl) ?_
        refine lv_iload_n hx hb dX1_acceptsDigit_54 rfl (lv_at hl 1 rfl) ?_
        refine lv_aload_n hx hb dX1_acceptsDigit_55 rfl (lv_at hl 3 rfl) ?_
        refine va_get (D := (dC, dI)) (ci := 1) (v := .int (nI dg)) (C := RX1) (T := TX1) (N := 4) hx hb hts i_X1 hown hK hP 0 rfl rfl 2 (by decide) k_31 (fun _ h9 => h9) rfl dX1_acceptsDigit_56 ?_
        refine xr_zne_n (tgt := 66) hx hb (by omega) dX1_acceptsDigit_59 (by decide) (fun c_15 => ?_) (fun c_15 => ?_)
        · skip
          refine lv_aload_n hx hb dX1_acceptsDigit_66 rfl (lv_at hl 2 rfl) ?_
          refine lv_iload_n hx hb dX1_acceptsDigit_67 rfl (lv_at hl 1 rfl) ?_
          refine xr_iald hx hb hK hP 4 0 rfl rfl (i := sz - 1) (by omega) (by decide) dX1_acceptsDigit_68 ?_
          refine lv_bipush (v := nI 10) hx hb dX1_acceptsDigit_69 (by decide) ?_
          refine lv_imul hx hb dX1_acceptsDigit_71 ?_
          refine lv_iload_n hx hb dX1_acceptsDigit_72 rfl (lv_at hl 4 rfl) ?_
          refine lv_iadd hx hb dX1_acceptsDigit_73 ?_
          refine xr_iast hx hb hK hP hD hS 4 0 rfl rfl (i := sz - 1) (by omega) (by decide) dX1_acceptsDigit_74 (fun H locs hP hD hS => ?_)
          have hP : va_P (dC, dI) vwCl [(h0, .inr (1, [.int (nI sz), .int (nI pt), .int (nI dg), .ref nq])), (nq, .inl (cQ, 3, .inr (.inr (.inr (.inr (xrow [nr0, nr1, nr2])))))), (nr0, .inl (cI, 16, .inl (R 0))), (nr1, .inl (cI, 16, .inl (R 1))), (nr2, .inl (cI, 16, .inl (upd (R 2) (sz - 1) ((((R 2) (sz - 1)) * (nI 10)) + ch))))] H := hP
          have hD : va_D A [(h0, .inr (1, [.int (nI sz), .int (nI pt), .int (nI dg), .ref nq])), (nq, .inl (cQ, 3, .inr (.inr (.inr (.inr (xrow [nr0, nr1, nr2])))))), (nr0, .inl (cI, 16, .inl (R 0))), (nr1, .inl (cI, 16, .inl (R 1))), (nr2, .inl (cI, 16, .inl (upd (R 2) (sz - 1) ((((R 2) (sz - 1)) * (nI 10)) + ch))))] := hD
          refine lv_aload_n hx hb dX1_acceptsDigit_75 rfl (lv_at hl 3 rfl) ?_
          refine lv_dup hx hb dX1_acceptsDigit_76 rfl ?_
          refine va_get (D := (dC, dI)) (ci := 1) (v := .int (nI dg)) (C := RX1) (T := TX1) (N := 4) hx hb hts i_X1 hown hK hP 0 rfl rfl 2 (by decide) k_31 (fun _ h9 => h9) rfl dX1_acceptsDigit_77 ?_
          refine lv_iconst (v := nI 1) hx hb dX1_acceptsDigit_80 (by decide) ?_
          refine xr_iadd_n hx hb dX1_acceptsDigit_81 ?_
          refine va_put (D := (dC, dI)) (ci := 1) (v := .int (nI (dg + 1))) (ty := .int) (C := RX1) (T := TX1) (N := 4) hx hb hts i_X1 tyX1 tyX1_ok nmX1 hown hK hP hD hS 0 rfl rfl 2 (by decide) k_31 (fun _ h9 => h9) rfl (by decide +kernel) rfl rfl (Nat.le_of_ble_eq_true rfl) dX1_acceptsDigit_82 (fun H locs hP hD hS => ?_)
          have hP : va_P (dC, dI) vwCl [(h0, .inr (1, [.int (nI sz), .int (nI pt), .int (nI (dg + 1)), .ref nq])), (nq, .inl (cQ, 3, .inr (.inr (.inr (.inr (xrow [nr0, nr1, nr2])))))), (nr0, .inl (cI, 16, .inl (R 0))), (nr1, .inl (cI, 16, .inl (R 1))), (nr2, .inl (cI, 16, .inl (upd (R 2) (sz - 1) ((((R 2) (sz - 1)) * (nI 10)) + ch))))] H := hP
          have hD : va_D A [(h0, .inr (1, [.int (nI sz), .int (nI pt), .int (nI (dg + 1)), .ref nq])), (nq, .inl (cQ, 3, .inr (.inr (.inr (.inr (xrow [nr0, nr1, nr2])))))), (nr0, .inl (cI, 16, .inl (R 0))), (nr1, .inl (cI, 16, .inl (R 1))), (nr2, .inl (cI, 16, .inl (upd (R 2) (sz - 1) ((((R 2) (sz - 1)) * (nI 10)) + ch))))] := hD
          refine lv_iconst (v := nI 1) hx hb dX1_acceptsDigit_85 (by decide) ?_
          have hE : xdDig (sz, pt, dg, R) ch = (true, sz, pt, dg + 1, xupR R 2 (upd (R 2) (sz - 1) (R 2 (sz - 1) * nI 10 + ch))) := by
            refine (if_neg (fun q => q.elim (fun q => absurd q.1 c_13) c_14)).trans ?_
            show (true, sz, pt, dg + 1, xupR R pt (upd (R pt) (sz - 1) (if dg = 0 then ch else R pt (sz - 1) * nI 10 + ch))) = _
            rw [if_neg (Nat.ne_of_gt c_15), hc]
          have hP9 : va_P (dC, dI) vwCl [(h0, .inr (1, [.int (nI ((xdDig (sz, pt, dg, R) ch).2.1)), .int (nI ((xdDig (sz, pt, dg, R) ch).2.2.1)), .int (nI ((xdDig (sz, pt, dg, R) ch).2.2.2.1)), .ref nq])), (nq, .inl (cQ, 3, .inr (.inr (.inr (.inr (xrow [nr0, nr1, nr2])))))), (nr0, .inl (cI, 16, .inl ((xdDig (sz, pt, dg, R) ch).2.2.2.2 0))), (nr1, .inl (cI, 16, .inl ((xdDig (sz, pt, dg, R) ch).2.2.2.2 1))), (nr2, .inl (cI, 16, .inl ((xdDig (sz, pt, dg, R) ch).2.2.2.2 2)))] H := by rw [hE]; exact hP
          have hS9 : va_S (va_B [(h0, .inr (1, [.int (nI sz), .int (nI pt), .int (nI dg), .ref nq])), (nq, .inl (cQ, 3, .inr (.inr (.inr (.inr (xrow [nr0, nr1, nr2])))))), (nr0, .inl (cI, 16, .inl (R 0))), (nr1, .inl (cI, 16, .inl (R 1))), (nr2, .inl (cI, 16, .inl (R 2)))]) s.heap H locs := by rw [← hA]; exact hS
          exact W.zret (v := nI 1) hx hb hr rfl (fun t ht hW => ⟨⟨_, _, rfl, ⟨(show nI 1 = (if (xdDig (sz, pt, dg, R) ch).1 = true then nI 1 else nI 0) from (if_pos (by rw [hE])).symm), rfl⟩, by rw [ht]; exact hP9⟩, hS9.X ht⟩) hS9.2.2 dX1_acceptsDigit_86
        refine lv_iload_n hx hb dX1_acceptsDigit_62 rfl (lv_at hl 4 rfl) ?_
        refine lv_goto (tgt := 74) hx hb dX1_acceptsDigit_63 (by decide) ?_
        refine xr_iast hx hb hK hP hD hS 4 0 rfl rfl (i := sz - 1) (by omega) (by decide) dX1_acceptsDigit_74 (fun H locs hP hD hS => ?_)
        have hP : va_P (dC, dI) vwCl [(h0, .inr (1, [.int (nI sz), .int (nI pt), .int (nI dg), .ref nq])), (nq, .inl (cQ, 3, .inr (.inr (.inr (.inr (xrow [nr0, nr1, nr2])))))), (nr0, .inl (cI, 16, .inl (R 0))), (nr1, .inl (cI, 16, .inl (R 1))), (nr2, .inl (cI, 16, .inl (upd (R 2) (sz - 1) ch)))] H := hP
        have hD : va_D A [(h0, .inr (1, [.int (nI sz), .int (nI pt), .int (nI dg), .ref nq])), (nq, .inl (cQ, 3, .inr (.inr (.inr (.inr (xrow [nr0, nr1, nr2])))))), (nr0, .inl (cI, 16, .inl (R 0))), (nr1, .inl (cI, 16, .inl (R 1))), (nr2, .inl (cI, 16, .inl (upd (R 2) (sz - 1) ch)))] := hD
        refine lv_aload_n hx hb dX1_acceptsDigit_75 rfl (lv_at hl 3 rfl) ?_
        refine lv_dup hx hb dX1_acceptsDigit_76 rfl ?_
        refine va_get (D := (dC, dI)) (ci := 1) (v := .int (nI dg)) (C := RX1) (T := TX1) (N := 4) hx hb hts i_X1 hown hK hP 0 rfl rfl 2 (by decide) k_31 (fun _ h9 => h9) rfl dX1_acceptsDigit_77 ?_
        refine lv_iconst (v := nI 1) hx hb dX1_acceptsDigit_80 (by decide) ?_
        refine xr_iadd_n hx hb dX1_acceptsDigit_81 ?_
        refine va_put (D := (dC, dI)) (ci := 1) (v := .int (nI (dg + 1))) (ty := .int) (C := RX1) (T := TX1) (N := 4) hx hb hts i_X1 tyX1 tyX1_ok nmX1 hown hK hP hD hS 0 rfl rfl 2 (by decide) k_31 (fun _ h9 => h9) rfl (by decide +kernel) rfl rfl (Nat.le_of_ble_eq_true rfl) dX1_acceptsDigit_82 (fun H locs hP hD hS => ?_)
        have hP : va_P (dC, dI) vwCl [(h0, .inr (1, [.int (nI sz), .int (nI pt), .int (nI (dg + 1)), .ref nq])), (nq, .inl (cQ, 3, .inr (.inr (.inr (.inr (xrow [nr0, nr1, nr2])))))), (nr0, .inl (cI, 16, .inl (R 0))), (nr1, .inl (cI, 16, .inl (R 1))), (nr2, .inl (cI, 16, .inl (upd (R 2) (sz - 1) ch)))] H := hP
        have hD : va_D A [(h0, .inr (1, [.int (nI sz), .int (nI pt), .int (nI (dg + 1)), .ref nq])), (nq, .inl (cQ, 3, .inr (.inr (.inr (.inr (xrow [nr0, nr1, nr2])))))), (nr0, .inl (cI, 16, .inl (R 0))), (nr1, .inl (cI, 16, .inl (R 1))), (nr2, .inl (cI, 16, .inl (upd (R 2) (sz - 1) ch)))] := hD
        refine lv_iconst (v := nI 1) hx hb dX1_acceptsDigit_85 (by decide) ?_
        have hE : xdDig (sz, pt, dg, R) ch = (true, sz, pt, dg + 1, xupR R 2 (upd (R 2) (sz - 1) (ch))) := by
          refine (if_neg (fun q => q.elim (fun q => absurd q.1 c_13) c_14)).trans ?_
          show (true, sz, pt, dg + 1, xupR R pt (upd (R pt) (sz - 1) (if dg = 0 then ch else R pt (sz - 1) * nI 10 + ch))) = _
          rw [if_pos c_15, hc]
        have hP9 : va_P (dC, dI) vwCl [(h0, .inr (1, [.int (nI ((xdDig (sz, pt, dg, R) ch).2.1)), .int (nI ((xdDig (sz, pt, dg, R) ch).2.2.1)), .int (nI ((xdDig (sz, pt, dg, R) ch).2.2.2.1)), .ref nq])), (nq, .inl (cQ, 3, .inr (.inr (.inr (.inr (xrow [nr0, nr1, nr2])))))), (nr0, .inl (cI, 16, .inl ((xdDig (sz, pt, dg, R) ch).2.2.2.2 0))), (nr1, .inl (cI, 16, .inl ((xdDig (sz, pt, dg, R) ch).2.2.2.2 1))), (nr2, .inl (cI, 16, .inl ((xdDig (sz, pt, dg, R) ch).2.2.2.2 2)))] H := by rw [hE]; exact hP
        have hS9 : va_S (va_B [(h0, .inr (1, [.int (nI sz), .int (nI pt), .int (nI dg), .ref nq])), (nq, .inl (cQ, 3, .inr (.inr (.inr (.inr (xrow [nr0, nr1, nr2])))))), (nr0, .inl (cI, 16, .inl (R 0))), (nr1, .inl (cI, 16, .inl (R 1))), (nr2, .inl (cI, 16, .inl (R 2)))]) s.heap H locs := by rw [← hA]; exact hS
        exact W.zret (v := nI 1) hx hb hr rfl (fun t ht hW => ⟨⟨_, _, rfl, ⟨(show nI 1 = (if (xdDig (sz, pt, dg, R) ch).1 = true then nI 1 else nI 0) from (if_pos (by rw [hE])).symm), rfl⟩, by rw [ht]; exact hP9⟩, hS9.X ht⟩) hS9.2.2 dX1_acceptsDigit_86
      refine lv_iconst (v := nI 0) hx hb dX1_acceptsDigit_51 (by decide) ?_
      have hE : xdDig (sz, pt, dg, R) ch = (false, sz, pt, dg, R) := if_pos (Or.inr c_14)
      have hP9 : va_P (dC, dI) vwCl [(h0, .inr (1, [.int (nI ((xdDig (sz, pt, dg, R) ch).2.1)), .int (nI ((xdDig (sz, pt, dg, R) ch).2.2.1)), .int (nI ((xdDig (sz, pt, dg, R) ch).2.2.2.1)), .ref nq])), (nq, .inl (cQ, 3, .inr (.inr (.inr (.inr (xrow [nr0, nr1, nr2])))))), (nr0, .inl (cI, 16, .inl ((xdDig (sz, pt, dg, R) ch).2.2.2.2 0))), (nr1, .inl (cI, 16, .inl ((xdDig (sz, pt, dg, R) ch).2.2.2.2 1))), (nr2, .inl (cI, 16, .inl ((xdDig (sz, pt, dg, R) ch).2.2.2.2 2)))] s.heap := by rw [hE]; exact hP
      have hS9 : va_S (va_B [(h0, .inr (1, [.int (nI sz), .int (nI pt), .int (nI dg), .ref nq])), (nq, .inl (cQ, 3, .inr (.inr (.inr (.inr (xrow [nr0, nr1, nr2])))))), (nr0, .inl (cI, 16, .inl (R 0))), (nr1, .inl (cI, 16, .inl (R 1))), (nr2, .inl (cI, 16, .inl (R 2)))]) s.heap s.heap [] := by rw [← hA]; exact hS
      exact W.zret (v := nI 0) hx hb hr rfl (fun t ht hW => ⟨⟨_, _, rfl, ⟨(show nI 0 = (if (xdDig (sz, pt, dg, R) ch).1 = true then nI 1 else nI 0) from (if_neg (by rw [hE]; exact Bool.false_ne_true)).symm), rfl⟩, by rw [ht]; exact hP9⟩, hS9.X ht⟩) hS9.2.2 dX1_acceptsDigit_52
    refine lv_aload_n hx hb dX1_acceptsDigit_25 rfl (lv_at hl 1 rfl) ?_
    refine lv_iload_n hx hb dX1_acceptsDigit_26 rfl (lv_at hl 0 rfl) ?_
    refine xr_iald hx hb hK hP 4 0 rfl rfl (i := sz - 1) (by omega) (by decide) dX1_acceptsDigit_27 ?_
    refine lv_if_ne (tgt := 35) hx hb dX1_acceptsDigit_28 (by decide) (fun c_16 => ?_) (fun c_16 => ?_)
    · skip
      refine lv_iconst (v := nI 0) hx hb dX1_acceptsDigit_35 (by decide) ?_
      refine lv_istore (lv' := [(4, .int (nI 0)), (3, .int (nI (sz - 1))), (2, .ref nr2), (0, .ref h0), (1, .int ch)]) hx hb dX1_acceptsDigit_36 hl (by decide) rfl (fun ls hl => ?_)
      refine lv_iload hx hb dX1_acceptsDigit_38 (lv_at hl 0 rfl) ?_
      refine xr_ifn0 (tgt := 51) hx hb (by decide) dX1_acceptsDigit_40 (by decide) ?_
      refine lv_aload_n hx hb dX1_acceptsDigit_43 rfl (lv_at hl 3 rfl) ?_
      refine va_get (D := (dC, dI)) (ci := 1) (v := .int (nI dg)) (C := RX1) (T := TX1) (N := 4) hx hb hts i_X1 hown hK hP 0 rfl rfl 2 (by decide) k_31 (fun _ h9 => h9) rfl dX1_acceptsDigit_44 ?_
      refine lv_iconst (v := nI 3) hx hb dX1_acceptsDigit_47 (by decide) ?_
      refine xr_ne_n (tgt := 53) hx hb (by omega) (by omega) dX1_acceptsDigit_48 (by decide) (fun c_17 => ?_) (fun c_17 => ?_)
      · skip
        refine lv_aload_n hx hb dX1_acceptsDigit_53 rfl (lv_at hl 2 rfl) ?_
        refine lv_iload_n hx hb dX1_acceptsDigit_54 rfl (lv_at hl 1 rfl) ?_
        refine lv_aload_n hx hb dX1_acceptsDigit_55 rfl (lv_at hl 3 rfl) ?_
        refine va_get (D := (dC, dI)) (ci := 1) (v := .int (nI dg)) (C := RX1) (T := TX1) (N := 4) hx hb hts i_X1 hown hK hP 0 rfl rfl 2 (by decide) k_31 (fun _ h9 => h9) rfl dX1_acceptsDigit_56 ?_
        refine xr_zne_n (tgt := 66) hx hb (by omega) dX1_acceptsDigit_59 (by decide) (fun c_18 => ?_) (fun c_18 => ?_)
        · skip
          refine lv_aload_n hx hb dX1_acceptsDigit_66 rfl (lv_at hl 2 rfl) ?_
          refine lv_iload_n hx hb dX1_acceptsDigit_67 rfl (lv_at hl 1 rfl) ?_
          refine xr_iald hx hb hK hP 4 0 rfl rfl (i := sz - 1) (by omega) (by decide) dX1_acceptsDigit_68 ?_
          refine lv_bipush (v := nI 10) hx hb dX1_acceptsDigit_69 (by decide) ?_
          refine lv_imul hx hb dX1_acceptsDigit_71 ?_
          refine lv_iload_n hx hb dX1_acceptsDigit_72 rfl (lv_at hl 4 rfl) ?_
          refine lv_iadd hx hb dX1_acceptsDigit_73 ?_
          refine xr_iast hx hb hK hP hD hS 4 0 rfl rfl (i := sz - 1) (by omega) (by decide) dX1_acceptsDigit_74 (fun H locs hP hD hS => ?_)
          have hP : va_P (dC, dI) vwCl [(h0, .inr (1, [.int (nI sz), .int (nI pt), .int (nI dg), .ref nq])), (nq, .inl (cQ, 3, .inr (.inr (.inr (.inr (xrow [nr0, nr1, nr2])))))), (nr0, .inl (cI, 16, .inl (R 0))), (nr1, .inl (cI, 16, .inl (R 1))), (nr2, .inl (cI, 16, .inl (upd (R 2) (sz - 1) ((((R 2) (sz - 1)) * (nI 10)) + ch))))] H := hP
          have hD : va_D A [(h0, .inr (1, [.int (nI sz), .int (nI pt), .int (nI dg), .ref nq])), (nq, .inl (cQ, 3, .inr (.inr (.inr (.inr (xrow [nr0, nr1, nr2])))))), (nr0, .inl (cI, 16, .inl (R 0))), (nr1, .inl (cI, 16, .inl (R 1))), (nr2, .inl (cI, 16, .inl (upd (R 2) (sz - 1) ((((R 2) (sz - 1)) * (nI 10)) + ch))))] := hD
          refine lv_aload_n hx hb dX1_acceptsDigit_75 rfl (lv_at hl 3 rfl) ?_
          refine lv_dup hx hb dX1_acceptsDigit_76 rfl ?_
          refine va_get (D := (dC, dI)) (ci := 1) (v := .int (nI dg)) (C := RX1) (T := TX1) (N := 4) hx hb hts i_X1 hown hK hP 0 rfl rfl 2 (by decide) k_31 (fun _ h9 => h9) rfl dX1_acceptsDigit_77 ?_
          refine lv_iconst (v := nI 1) hx hb dX1_acceptsDigit_80 (by decide) ?_
          refine xr_iadd_n hx hb dX1_acceptsDigit_81 ?_
          refine va_put (D := (dC, dI)) (ci := 1) (v := .int (nI (dg + 1))) (ty := .int) (C := RX1) (T := TX1) (N := 4) hx hb hts i_X1 tyX1 tyX1_ok nmX1 hown hK hP hD hS 0 rfl rfl 2 (by decide) k_31 (fun _ h9 => h9) rfl (by decide +kernel) rfl rfl (Nat.le_of_ble_eq_true rfl) dX1_acceptsDigit_82 (fun H locs hP hD hS => ?_)
          have hP : va_P (dC, dI) vwCl [(h0, .inr (1, [.int (nI sz), .int (nI pt), .int (nI (dg + 1)), .ref nq])), (nq, .inl (cQ, 3, .inr (.inr (.inr (.inr (xrow [nr0, nr1, nr2])))))), (nr0, .inl (cI, 16, .inl (R 0))), (nr1, .inl (cI, 16, .inl (R 1))), (nr2, .inl (cI, 16, .inl (upd (R 2) (sz - 1) ((((R 2) (sz - 1)) * (nI 10)) + ch))))] H := hP
          have hD : va_D A [(h0, .inr (1, [.int (nI sz), .int (nI pt), .int (nI (dg + 1)), .ref nq])), (nq, .inl (cQ, 3, .inr (.inr (.inr (.inr (xrow [nr0, nr1, nr2])))))), (nr0, .inl (cI, 16, .inl (R 0))), (nr1, .inl (cI, 16, .inl (R 1))), (nr2, .inl (cI, 16, .inl (upd (R 2) (sz - 1) ((((R 2) (sz - 1)) * (nI 10)) + ch))))] := hD
          refine lv_iconst (v := nI 1) hx hb dX1_acceptsDigit_85 (by decide) ?_
          have hE : xdDig (sz, pt, dg, R) ch = (true, sz, pt, dg + 1, xupR R 2 (upd (R 2) (sz - 1) (R 2 (sz - 1) * nI 10 + ch))) := by
            refine (if_neg (fun q => q.elim (fun q => absurd (show R 2 (sz - 1) = 0 from by have := q.2; rw [hc] at this; exact this) c_16) c_17)).trans ?_
            show (true, sz, pt, dg + 1, xupR R pt (upd (R pt) (sz - 1) (if dg = 0 then ch else R pt (sz - 1) * nI 10 + ch))) = _
            rw [if_neg (Nat.ne_of_gt c_18), hc]
          have hP9 : va_P (dC, dI) vwCl [(h0, .inr (1, [.int (nI ((xdDig (sz, pt, dg, R) ch).2.1)), .int (nI ((xdDig (sz, pt, dg, R) ch).2.2.1)), .int (nI ((xdDig (sz, pt, dg, R) ch).2.2.2.1)), .ref nq])), (nq, .inl (cQ, 3, .inr (.inr (.inr (.inr (xrow [nr0, nr1, nr2])))))), (nr0, .inl (cI, 16, .inl ((xdDig (sz, pt, dg, R) ch).2.2.2.2 0))), (nr1, .inl (cI, 16, .inl ((xdDig (sz, pt, dg, R) ch).2.2.2.2 1))), (nr2, .inl (cI, 16, .inl ((xdDig (sz, pt, dg, R) ch).2.2.2.2 2)))] H := by rw [hE]; exact hP
          have hS9 : va_S (va_B [(h0, .inr (1, [.int (nI sz), .int (nI pt), .int (nI dg), .ref nq])), (nq, .inl (cQ, 3, .inr (.inr (.inr (.inr (xrow [nr0, nr1, nr2])))))), (nr0, .inl (cI, 16, .inl (R 0))), (nr1, .inl (cI, 16, .inl (R 1))), (nr2, .inl (cI, 16, .inl (R 2)))]) s.heap H locs := by rw [← hA]; exact hS
          exact W.zret (v := nI 1) hx hb hr rfl (fun t ht hW => ⟨⟨_, _, rfl, ⟨(show nI 1 = (if (xdDig (sz, pt, dg, R) ch).1 = true then nI 1 else nI 0) from (if_pos (by rw [hE])).symm), rfl⟩, by rw [ht]; exact hP9⟩, hS9.X ht⟩) hS9.2.2 dX1_acceptsDigit_86
        refine lv_iload_n hx hb dX1_acceptsDigit_62 rfl (lv_at hl 4 rfl) ?_
        refine lv_goto (tgt := 74) hx hb dX1_acceptsDigit_63 (by decide) ?_
        refine xr_iast hx hb hK hP hD hS 4 0 rfl rfl (i := sz - 1) (by omega) (by decide) dX1_acceptsDigit_74 (fun H locs hP hD hS => ?_)
        have hP : va_P (dC, dI) vwCl [(h0, .inr (1, [.int (nI sz), .int (nI pt), .int (nI dg), .ref nq])), (nq, .inl (cQ, 3, .inr (.inr (.inr (.inr (xrow [nr0, nr1, nr2])))))), (nr0, .inl (cI, 16, .inl (R 0))), (nr1, .inl (cI, 16, .inl (R 1))), (nr2, .inl (cI, 16, .inl (upd (R 2) (sz - 1) ch)))] H := hP
        have hD : va_D A [(h0, .inr (1, [.int (nI sz), .int (nI pt), .int (nI dg), .ref nq])), (nq, .inl (cQ, 3, .inr (.inr (.inr (.inr (xrow [nr0, nr1, nr2])))))), (nr0, .inl (cI, 16, .inl (R 0))), (nr1, .inl (cI, 16, .inl (R 1))), (nr2, .inl (cI, 16, .inl (upd (R 2) (sz - 1) ch)))] := hD
        refine lv_aload_n hx hb dX1_acceptsDigit_75 rfl (lv_at hl 3 rfl) ?_
        refine lv_dup hx hb dX1_acceptsDigit_76 rfl ?_
        refine va_get (D := (dC, dI)) (ci := 1) (v := .int (nI dg)) (C := RX1) (T := TX1) (N := 4) hx hb hts i_X1 hown hK hP 0 rfl rfl 2 (by decide) k_31 (fun _ h9 => h9) rfl dX1_acceptsDigit_77 ?_
        refine lv_iconst (v := nI 1) hx hb dX1_acceptsDigit_80 (by decide) ?_
        refine xr_iadd_n hx hb dX1_acceptsDigit_81 ?_
        refine va_put (D := (dC, dI)) (ci := 1) (v := .int (nI (dg + 1))) (ty := .int) (C := RX1) (T := TX1) (N := 4) hx hb hts i_X1 tyX1 tyX1_ok nmX1 hown hK hP hD hS 0 rfl rfl 2 (by decide) k_31 (fun _ h9 => h9) rfl (by decide +kernel) rfl rfl (Nat.le_of_ble_eq_true rfl) dX1_acceptsDigit_82 (fun H locs hP hD hS => ?_)
        have hP : va_P (dC, dI) vwCl [(h0, .inr (1, [.int (nI sz), .int (nI pt), .int (nI (dg + 1)), .ref nq])), (nq, .inl (cQ, 3, .inr (.inr (.inr (.inr (xrow [nr0, nr1, nr2])))))), (nr0, .inl (cI, 16, .inl (R 0))), (nr1, .inl (cI, 16, .inl (R 1))), (nr2, .inl (cI, 16, .inl (upd (R 2) (sz - 1) ch)))] H := hP
        have hD : va_D A [(h0, .inr (1, [.int (nI sz), .int (nI pt), .int (nI (dg + 1)), .ref nq])), (nq, .inl (cQ, 3, .inr (.inr (.inr (.inr (xrow [nr0, nr1, nr2])))))), (nr0, .inl (cI, 16, .inl (R 0))), (nr1, .inl (cI, 16, .inl (R 1))), (nr2, .inl (cI, 16, .inl (upd (R 2) (sz - 1) ch)))] := hD
        refine lv_iconst (v := nI 1) hx hb dX1_acceptsDigit_85 (by decide) ?_
        have hE : xdDig (sz, pt, dg, R) ch = (true, sz, pt, dg + 1, xupR R 2 (upd (R 2) (sz - 1) (ch))) := by
          refine (if_neg (fun q => q.elim (fun q => absurd (show R 2 (sz - 1) = 0 from by have := q.2; rw [hc] at this; exact this) c_16) c_17)).trans ?_
          show (true, sz, pt, dg + 1, xupR R pt (upd (R pt) (sz - 1) (if dg = 0 then ch else R pt (sz - 1) * nI 10 + ch))) = _
          rw [if_pos c_18, hc]
        have hP9 : va_P (dC, dI) vwCl [(h0, .inr (1, [.int (nI ((xdDig (sz, pt, dg, R) ch).2.1)), .int (nI ((xdDig (sz, pt, dg, R) ch).2.2.1)), .int (nI ((xdDig (sz, pt, dg, R) ch).2.2.2.1)), .ref nq])), (nq, .inl (cQ, 3, .inr (.inr (.inr (.inr (xrow [nr0, nr1, nr2])))))), (nr0, .inl (cI, 16, .inl ((xdDig (sz, pt, dg, R) ch).2.2.2.2 0))), (nr1, .inl (cI, 16, .inl ((xdDig (sz, pt, dg, R) ch).2.2.2.2 1))), (nr2, .inl (cI, 16, .inl ((xdDig (sz, pt, dg, R) ch).2.2.2.2 2)))] H := by rw [hE]; exact hP
        have hS9 : va_S (va_B [(h0, .inr (1, [.int (nI sz), .int (nI pt), .int (nI dg), .ref nq])), (nq, .inl (cQ, 3, .inr (.inr (.inr (.inr (xrow [nr0, nr1, nr2])))))), (nr0, .inl (cI, 16, .inl (R 0))), (nr1, .inl (cI, 16, .inl (R 1))), (nr2, .inl (cI, 16, .inl (R 2)))]) s.heap H locs := by rw [← hA]; exact hS
        exact W.zret (v := nI 1) hx hb hr rfl (fun t ht hW => ⟨⟨_, _, rfl, ⟨(show nI 1 = (if (xdDig (sz, pt, dg, R) ch).1 = true then nI 1 else nI 0) from (if_pos (by rw [hE])).symm), rfl⟩, by rw [ht]; exact hP9⟩, hS9.X ht⟩) hS9.2.2 dX1_acceptsDigit_86
      refine lv_iconst (v := nI 0) hx hb dX1_acceptsDigit_51 (by decide) ?_
      have hE : xdDig (sz, pt, dg, R) ch = (false, sz, pt, dg, R) := if_pos (Or.inr c_17)
      have hP9 : va_P (dC, dI) vwCl [(h0, .inr (1, [.int (nI ((xdDig (sz, pt, dg, R) ch).2.1)), .int (nI ((xdDig (sz, pt, dg, R) ch).2.2.1)), .int (nI ((xdDig (sz, pt, dg, R) ch).2.2.2.1)), .ref nq])), (nq, .inl (cQ, 3, .inr (.inr (.inr (.inr (xrow [nr0, nr1, nr2])))))), (nr0, .inl (cI, 16, .inl ((xdDig (sz, pt, dg, R) ch).2.2.2.2 0))), (nr1, .inl (cI, 16, .inl ((xdDig (sz, pt, dg, R) ch).2.2.2.2 1))), (nr2, .inl (cI, 16, .inl ((xdDig (sz, pt, dg, R) ch).2.2.2.2 2)))] s.heap := by rw [hE]; exact hP
      have hS9 : va_S (va_B [(h0, .inr (1, [.int (nI sz), .int (nI pt), .int (nI dg), .ref nq])), (nq, .inl (cQ, 3, .inr (.inr (.inr (.inr (xrow [nr0, nr1, nr2])))))), (nr0, .inl (cI, 16, .inl (R 0))), (nr1, .inl (cI, 16, .inl (R 1))), (nr2, .inl (cI, 16, .inl (R 2)))]) s.heap s.heap [] := by rw [← hA]; exact hS
      exact W.zret (v := nI 0) hx hb hr rfl (fun t ht hW => ⟨⟨_, _, rfl, ⟨(show nI 0 = (if (xdDig (sz, pt, dg, R) ch).1 = true then nI 1 else nI 0) from (if_neg (by rw [hE]; exact Bool.false_ne_true)).symm), rfl⟩, by rw [ht]; exact hP9⟩, hS9.X ht⟩) hS9.2.2 dX1_acceptsDigit_52
    refine lv_iconst (v := nI 1) hx hb dX1_acceptsDigit_31 (by decide) ?_
    refine lv_goto (tgt := 36) hx hb dX1_acceptsDigit_32 (by decide) ?_
    refine lv_istore (lv' := [(4, .int (nI 1)), (3, .int (nI (sz - 1))), (2, .ref nr2), (0, .ref h0), (1, .int ch)]) hx hb dX1_acceptsDigit_36 hl (by decide) rfl (fun ls hl => ?_)
    refine lv_iload hx hb dX1_acceptsDigit_38 (lv_at hl 0 rfl) ?_
    refine xr_ifn1 (tgt := 51) hx hb (by decide) dX1_acceptsDigit_40 (by decide) ?_
    refine lv_iconst (v := nI 0) hx hb dX1_acceptsDigit_51 (by decide) ?_
    have hE : xdDig (sz, pt, dg, R) ch = (false, sz, pt, dg, R) := if_pos (Or.inl ⟨c_13, by rw [hc]; exact c_16⟩)
    have hP9 : va_P (dC, dI) vwCl [(h0, .inr (1, [.int (nI ((xdDig (sz, pt, dg, R) ch).2.1)), .int (nI ((xdDig (sz, pt, dg, R) ch).2.2.1)), .int (nI ((xdDig (sz, pt, dg, R) ch).2.2.2.1)), .ref nq])), (nq, .inl (cQ, 3, .inr (.inr (.inr (.inr (xrow [nr0, nr1, nr2])))))), (nr0, .inl (cI, 16, .inl ((xdDig (sz, pt, dg, R) ch).2.2.2.2 0))), (nr1, .inl (cI, 16, .inl ((xdDig (sz, pt, dg, R) ch).2.2.2.2 1))), (nr2, .inl (cI, 16, .inl ((xdDig (sz, pt, dg, R) ch).2.2.2.2 2)))] s.heap := by rw [hE]; exact hP
    have hS9 : va_S (va_B [(h0, .inr (1, [.int (nI sz), .int (nI pt), .int (nI dg), .ref nq])), (nq, .inl (cQ, 3, .inr (.inr (.inr (.inr (xrow [nr0, nr1, nr2])))))), (nr0, .inl (cI, 16, .inl (R 0))), (nr1, .inl (cI, 16, .inl (R 1))), (nr2, .inl (cI, 16, .inl (R 2)))]) s.heap s.heap [] := by rw [← hA]; exact hS
    exact W.zret (v := nI 0) hx hb hr rfl (fun t ht hW => ⟨⟨_, _, rfl, ⟨(show nI 0 = (if (xdDig (sz, pt, dg, R) ch).1 = true then nI 1 else nI 0) from (if_neg (by rw [hE]; exact Bool.false_ne_true)).symm), rfl⟩, by rw [ht]; exact hP9⟩, hS9.X ht⟩) hS9.2.2 dX1_acceptsDigit_52
theorem hdV_X1_accepts : yX1_accepts.cls = RX1 ∧ yX1_accepts.cls ≠ "java/lang/invoke/MethodHandle" ∧ yX1_accepts.cls ≠ "java/lang/invoke/VarHandle" ∧ (parseMethodDescriptor yX1_accepts.desc).map (fun d => d.parameters.length) = some 1 := by decide +kernel
set_option maxHeartbeats 4000000 in
set_option maxRecDepth 100000 in
theorem c_X1_accepts (l : Launch) (dC : Nat → ClassId) (dI : Nat → Nat → Nat) (cI cF cC cZ cQ cS : ClassId) (h0 : Nat) (nq : Nat) (R : Nat → Nat → Int32) (nr0 : Nat) (nr1 : Nat) (nr2 : Nat) (sz : Nat) (pt : Nat) (dg : Nat) (ch : Int32) (hsz : 1 ≤ sz ∧ sz ≤ 16) (hpt : pt < 3) (hdg : dg ≤ 3) : Met l yX1_accepts wsX1_accepts ({ frames := 2, cells := 0, slots := 0, locals := 41 }) (xPre (dC, dI) vwCl [.ref h0, .int ch] (xtys cI cF cC cZ cQ cS) [(h0, .inr (1, [.int (nI sz), .int (nI pt), .int (nI dg), .ref nq])), (nq, .inl (cQ, 3, .inr (.inr (.inr (.inr (xrow [nr0, nr1, nr2])))))), (nr0, .inl (cI, 16, .inl (R 0))), (nr1, .inl (cI, 16, .inl (R 1))), (nr2, .inl (cI, 16, .inl (R 2)))]) (xWi (dC, dI) vwCl [(h0, .inr (1, [.int (nI sz), .int (nI pt), .int (nI dg), .ref nq])), (nq, .inl (cQ, 3, .inr (.inr (.inr (.inr (xrow [nr0, nr1, nr2])))))), (nr0, .inl (cI, 16, .inl (R 0))), (nr1, .inl (cI, 16, .inl (R 1))), (nr2, .inl (cI, 16, .inl (R 2)))] (fun r0 w0 => r0 = (if (xdAcc (sz, pt, dg, R) ch).1 = true then nI 1 else nI 0) ∧ w0 = [(h0, .inr (1, [.int (nI ((xdAcc (sz, pt, dg, R) ch).2.1)), .int (nI ((xdAcc (sz, pt, dg, R) ch).2.2.1)), .int (nI ((xdAcc (sz, pt, dg, R) ch).2.2.2.1)), .ref nq])), (nq, .inl (cQ, 3, .inr (.inr (.inr (.inr (xrow [nr0, nr1, nr2])))))), (nr0, .inl (cI, 16, .inl ((xdAcc (sz, pt, dg, R) ch).2.2.2.2 0))), (nr1, .inl (cI, 16, .inl ((xdAcc (sz, pt, dg, R) ch).2.2.2.2 1))), (nr2, .inl (cI, 16, .inl ((xdAcc (sz, pt, dg, R) ch).2.2.2.2 2)))])) 0 0 (va_B [(h0, .inr (1, [.int (nI sz), .int (nI pt), .int (nI dg), .ref nq])), (nq, .inl (cQ, 3, .inr (.inr (.inr (.inr (xrow [nr0, nr1, nr2])))))), (nr0, .inl (cI, 16, .inl (R 0))), (nr1, .inl (cI, 16, .inl (R 1))), (nr2, .inl (cI, 16, .inl (R 2)))]) := by
  refine Met.ofW (cc := cX1_accepts) (maxL := 2) (ret := (some .boolean)) (by decide) rfl ?_
  intro p e s m args below meth c s₁ B hml hv
  obtain ⟨rfl, hP, hK, hD0, hN⟩ := hv
  have hx := B.exec
  have hb := B.bytes
  have hr := B.returns
  have hts := atoms_spec (ws := wsX1_accepts) B.pre
  have hown : s.vm.findClass RX1 = some m.cls := findClass_of_methodNamed B.named
  have hlocks := B.notSynchronized
  have k_28 := hts (Cond.fieldLink RX1 28 "ShelfStages$Delivery" "part" "I") (by decide +kernel)
  have k_31 := hts (Cond.fieldLink RX1 31 "ShelfStages$Delivery" "digits" "I") (by decide +kernel)
  have i_X1 : ∀ w ∈ wsX10, w ∈ wsX1_accepts := by decide +kernel
  obtain ⟨A, hA⟩ : ∃ A, A = va_B [(h0, .inr (1, [.int (nI sz), .int (nI pt), .int (nI dg), .ref nq])), (nq, .inl (cQ, 3, .inr (.inr (.inr (.inr (xrow [nr0, nr1, nr2])))))), (nr0, .inl (cI, 16, .inl (R 0))), (nr1, .inl (cI, 16, .inl (R 1))), (nr2, .inl (cI, 16, .inl (R 2)))] := ⟨_, rfl⟩
  have hD : va_D A [(h0, .inr (1, [.int (nI sz), .int (nI pt), .int (nI dg), .ref nq])), (nq, .inl (cQ, 3, .inr (.inr (.inr (.inr (xrow [nr0, nr1, nr2])))))), (nr0, .inl (cI, 16, .inl (R 0))), (nr1, .inl (cI, 16, .inl (R 1))), (nr2, .inl (cI, 16, .inl (R 2)))] := hA ▸ hD0.own
  have hS : va_S A s.heap s.heap [] := va_S.rf
  have hl := lv_entry ([.ref h0, .int ch]) (n := 2) (Nat.le_of_ble_eq_true rfl)
  rw [lg_entry_eq]
  generalize (lg_sl ([.ref h0, .int ch]) ++ List.replicate (2 - (lg_sl ([.ref h0, .int ch])).length) Slot.unset).toArray = ls at hl ⊢
  have hl : lv_has ls 2 [(0, .ref h0), (1, .int ch)] := hl
  refine lv_iload_n hx hb dX1_accepts_0 rfl (lv_at hl 1 rfl) ?_
  refine lv_bipush (v := nI 48) hx hb dX1_accepts_1 (by decide) ?_
  refine lv_icmp_lt (tgt := 21) hx hb dX1_accepts_3 (by decide) (fun c_1 => ?_) (fun c_1 => ?_)
  · skip
    refine lv_aload_n hx hb dX1_accepts_21 rfl (lv_at hl 0 rfl) ?_
    refine va_get (D := (dC, dI)) (ci := 1) (v := .int (nI dg)) (C := RX1) (T := TX1) (N := 4) hx hb hts i_X1 hown hK hP 0 rfl rfl 2 (by decide) k_31 (fun _ h9 => h9) rfl dX1_accepts_22 ?_
    refine xr_zne_n (tgt := 30) hx hb (by omega) dX1_accepts_25 (by decide) (fun c_2 => ?_) (fun c_2 => ?_)
    · skip
      refine lv_aload_n hx hb dX1_accepts_30 rfl (lv_at hl 0 rfl) ?_
      refine va_get (D := (dC, dI)) (ci := 1) (v := .int (nI pt)) (C := RX1) (T := TX1) (N := 4) hx hb hts i_X1 hown hK hP 0 rfl rfl 1 (by decide) k_28 (fun _ h9 => h9) rfl dX1_accepts_31 ?_
      refine xr_zne_n (tgt := 57) hx hb (by omega) dX1_accepts_34 (by decide) (fun c_3 => ?_) (fun c_3 => ?_)
      · skip
        refine lv_aload_n hx hb dX1_accepts_57 rfl (lv_at hl 0 rfl) ?_
        refine va_get (D := (dC, dI)) (ci := 1) (v := .int (nI pt)) (C := RX1) (T := TX1) (N := 4) hx hb hts i_X1 hown hK hP 0 rfl rfl 1 (by decide) k_28 (fun _ h9 => h9) rfl dX1_accepts_58 ?_
        refine lv_iconst (v := nI 1) hx hb dX1_accepts_61 (by decide) ?_
        refine xr_ne_n (tgt := 77) hx hb (by omega) (by omega) dX1_accepts_62 (by decide) (fun c_4 => ?_) (fun c_4 => ?_)
        · skip
          refine lv_iload_n hx hb dX1_accepts_77 rfl (lv_at hl 1 rfl) ?_
          refine lv_bipush (v := nI 44) hx hb dX1_accepts_78 (by decide) ?_
          refine lv_icmp_ne (tgt := 94) hx hb dX1_accepts_80 (by decide) (fun c_5 => ?_) (fun c_5 => ?_)
          · skip
            refine lv_iconst (v := nI 0) hx hb dX1_accepts_94 (by decide) ?_
            have hE : xdAcc (sz, pt, dg, R) ch = (false, sz, pt, dg, R) := by
              refine (if_neg (fun q => absurd q.1 (Int32.not_le.mpr c_1))).trans ?_
              refine (if_neg (Nat.ne_of_gt c_2)).trans ?_
              refine (if_neg (Nat.ne_of_gt c_3)).trans ?_
              refine (if_neg (fun q => absurd q.1 c_4)).trans ?_
              exact if_neg c_5
            have hP9 : va_P (dC, dI) vwCl [(h0, .inr (1, [.int (nI ((xdAcc (sz, pt, dg, R) ch).2.1)), .int (nI ((xdAcc (sz, pt, dg, R) ch).2.2.1)), .int (nI ((xdAcc (sz, pt, dg, R) ch).2.2.2.1)), .ref nq])), (nq, .inl (cQ, 3, .inr (.inr (.inr (.inr (xrow [nr0, nr1, nr2])))))), (nr0, .inl (cI, 16, .inl ((xdAcc (sz, pt, dg, R) ch).2.2.2.2 0))), (nr1, .inl (cI, 16, .inl ((xdAcc (sz, pt, dg, R) ch).2.2.2.2 1))), (nr2, .inl (cI, 16, .inl ((xdAcc (sz, pt, dg, R) ch).2.2.2.2 2)))] s.heap := by rw [hE]; exact hP
            have hS9 : va_S (va_B [(h0, .inr (1, [.int (nI sz), .int (nI pt), .int (nI dg), .ref nq])), (nq, .inl (cQ, 3, .inr (.inr (.inr (.inr (xrow [nr0, nr1, nr2])))))), (nr0, .inl (cI, 16, .inl (R 0))), (nr1, .inl (cI, 16, .inl (R 1))), (nr2, .inl (cI, 16, .inl (R 2)))]) s.heap s.heap [] := by rw [← hA]; exact hS
            exact W.zret (v := nI 0) hx hb hr rfl (fun t ht hW => ⟨⟨_, _, rfl, ⟨(show nI 0 = (if (xdAcc (sz, pt, dg, R) ch).1 = true then nI 1 else nI 0) from (if_neg (by rw [hE]; exact Bool.false_ne_true)).symm), rfl⟩, by rw [ht]; exact hP9⟩, hS9.X ht⟩) hS9.2.2 dX1_accepts_95
          refine lv_aload_n hx hb dX1_accepts_83 rfl (lv_at hl 0 rfl) ?_
          refine xkI2 (xV (As := []) (rest := []) (wc := [(h0, .inr (1, [.int (nI sz), .int (nI pt), .int (nI dg), .ref nq])), (nq, .inl (cQ, 3, .inr (.inr (.inr (.inr (xrow [nr0, nr1, nr2])))))), (nr0, .inl (cI, 16, .inl (R 0))), (nr1, .inl (cI, 16, .inl (R 1))), (nr2, .inl (cI, 16, .inl (R 2)))]) hx hb hml hown hts (c_X1_openEntry l dC dI cI cF cC cZ cQ cS h0 nq R nr0 nr1 nr2 sz pt dg (by omega)) 0 gX1_accepts_X1_openEntry rfl rfl rfl hdV_X1_openEntry ⟨Nat.le_of_ble_eq_true rfl, Nat.le_of_ble_eq_true rfl⟩ hN hK hP hD [0, 1, 2, 3, 4] rfl rfl 1 0 rfl rfl rfl hl.1 rfl (Nat.le_of_ble_eq_true rfl) dX1_accepts_84 ⟨Nat.zero_le _, Nat.zero_le _⟩) hP hD hS [0, 1, 2, 3, 4] [0, 1, 2, 3, 4] rfl rfl 5 rfl (by decide +kernel) (fun H locs hP hD hS => ?_)
          have hP : va_P (dC, dI) vwCl [(h0, .inr (1, [.int (nI ((xdEntry (sz, pt, dg, R)).2.1)), .int (nI ((xdEntry (sz, pt, dg, R)).2.2.1)), .int (nI ((xdEntry (sz, pt, dg, R)).2.2.2.1)), .ref nq])), (nq, .inl (cQ, 3, .inr (.inr (.inr (.inr (xrow [nr0, nr1, nr2])))))), (nr0, .inl (cI, 16, .inl ((xdEntry (sz, pt, dg, R)).2.2.2.2 0))), (nr1, .inl (cI, 16, .inl ((xdEntry (sz, pt, dg, R)).2.2.2.2 1))), (nr2, .inl (cI, 16, .inl ((xdEntry (sz, pt, dg, R)).2.2.2.2 2)))] H := hP
          have hD : va_D A [(h0, .inr (1, [.int (nI ((xdEntry (sz, pt, dg, R)).2.1)), .int (nI ((xdEntry (sz, pt, dg, R)).2.2.1)), .int (nI ((xdEntry (sz, pt, dg, R)).2.2.2.1)), .ref nq])), (nq, .inl (cQ, 3, .inr (.inr (.inr (.inr (xrow [nr0, nr1, nr2])))))), (nr0, .inl (cI, 16, .inl ((xdEntry (sz, pt, dg, R)).2.2.2.2 0))), (nr1, .inl (cI, 16, .inl ((xdEntry (sz, pt, dg, R)).2.2.2.2 1))), (nr2, .inl (cI, 16, .inl ((xdEntry (sz, pt, dg, R)).2.2.2.2 2)))] := hD
          obtain ⟨r_6, hr_6⟩ : ∃ z9 : Int32, z9 = (if (xdEntry (sz, pt, dg, R)).1 = true then nI 1 else nI 0) := ⟨_, rfl⟩
          refine xr_top hr_6.symm ?_
          rcases xi_ite inferInstance hr_6 with ⟨c_7, hr_6⟩ | ⟨c_7, hr_6⟩
          · subst hr_6
            refine xr_if1 (tgt := 94) hx hb (by decide) dX1_accepts_87 (by decide) ?_
            refine lv_iconst (v := nI 1) hx hb dX1_accepts_90 (by decide) ?_
            refine lv_goto (tgt := 95) hx hb dX1_accepts_91 (by decide) ?_
            have hE : xdAcc (sz, pt, dg, R) ch = xdEntry (sz, pt, dg, R) := by
              refine (if_neg (fun q => absurd q.1 (Int32.not_le.mpr c_1))).trans ?_
              refine (if_neg (Nat.ne_of_gt c_2)).trans ?_
              refine (if_neg (Nat.ne_of_gt c_3)).trans ?_
              refine (if_neg (fun q => absurd q.1 c_4)).trans ?_
              exact if_pos c_5
            have hP9 : va_P (dC, dI) vwCl [(h0, .inr (1, [.int (nI ((xdAcc (sz, pt, dg, R) ch).2.1)), .int (nI ((xdAcc (sz, pt, dg, R) ch).2.2.1)), .int (nI ((xdAcc (sz, pt, dg, R) ch).2.2.2.1)), .ref nq])), (nq, .inl (cQ, 3, .inr (.inr (.inr (.inr (xrow [nr0, nr1, nr2])))))), (nr0, .inl (cI, 16, .inl ((xdAcc (sz, pt, dg, R) ch).2.2.2.2 0))), (nr1, .inl (cI, 16, .inl ((xdAcc (sz, pt, dg, R) ch).2.2.2.2 1))), (nr2, .inl (cI, 16, .inl ((xdAcc (sz, pt, dg, R) ch).2.2.2.2 2)))] H := by rw [hE]; exact hP
            have hS9 : va_S (va_B [(h0, .inr (1, [.int (nI sz), .int (nI pt), .int (nI dg), .ref nq])), (nq, .inl (cQ, 3, .inr (.inr (.inr (.inr (xrow [nr0, nr1, nr2])))))), (nr0, .inl (cI, 16, .inl (R 0))), (nr1, .inl (cI, 16, .inl (R 1))), (nr2, .inl (cI, 16, .inl (R 2)))]) s.heap H locs := by rw [← hA]; exact hS
            exact W.zret (v := nI 1) hx hb hr rfl (fun t ht hW => ⟨⟨_, _, rfl, ⟨(show nI 1 = (if (xdAcc (sz, pt, dg, R) ch).1 = true then nI 1 else nI 0) from (if_pos (by rw [hE]; exact c_7)).symm), rfl⟩, by rw [ht]; exact hP9⟩, hS9.X ht⟩) hS9.2.2 dX1_accepts_95
          subst hr_6
          refine xr_if0 (tgt := 94) hx hb (by decide) dX1_accepts_87 (by decide) ?_
          refine lv_iconst (v := nI 0) hx hb dX1_accepts_94 (by decide) ?_
          have hE : xdAcc (sz, pt, dg, R) ch = xdEntry (sz, pt, dg, R) := by
            refine (if_neg (fun q => absurd q.1 (Int32.not_le.mpr c_1))).trans ?_
            refine (if_neg (Nat.ne_of_gt c_2)).trans ?_
            refine (if_neg (Nat.ne_of_gt c_3)).trans ?_
            refine (if_neg (fun q => absurd q.1 c_4)).trans ?_
            exact if_pos c_5
          have hP9 : va_P (dC, dI) vwCl [(h0, .inr (1, [.int (nI ((xdAcc (sz, pt, dg, R) ch).2.1)), .int (nI ((xdAcc (sz, pt, dg, R) ch).2.2.1)), .int (nI ((xdAcc (sz, pt, dg, R) ch).2.2.2.1)), .ref nq])), (nq, .inl (cQ, 3, .inr (.inr (.inr (.inr (xrow [nr0, nr1, nr2])))))), (nr0, .inl (cI, 16, .inl ((xdAcc (sz, pt, dg, R) ch).2.2.2.2 0))), (nr1, .inl (cI, 16, .inl ((xdAcc (sz, pt, dg, R) ch).2.2.2.2 1))), (nr2, .inl (cI, 16, .inl ((xdAcc (sz, pt, dg, R) ch).2.2.2.2 2)))] H := by rw [hE]; exact hP
          have hS9 : va_S (va_B [(h0, .inr (1, [.int (nI sz), .int (nI pt), .int (nI dg), .ref nq])), (nq, .inl (cQ, 3, .inr (.inr (.inr (.inr (xrow [nr0, nr1, nr2])))))), (nr0, .inl (cI, 16, .inl (R 0))), (nr1, .inl (cI, 16, .inl (R 1))), (nr2, .inl (cI, 16, .inl (R 2)))]) s.heap H locs := by rw [← hA]; exact hS
          exact W.zret (v := nI 0) hx hb hr rfl (fun t ht hW => ⟨⟨_, _, rfl, ⟨(show nI 0 = (if (xdAcc (sz, pt, dg, R) ch).1 = true then nI 1 else nI 0) from (if_neg (by rw [hE]; exact c_7)).symm), rfl⟩, by rw [ht]; exact hP9⟩, hS9.X ht⟩) hS9.2.2 dX1_accepts_95
        refine lv_iload_n hx hb dX1_accepts_65 rfl (lv_at hl 1 rfl) ?_
        refine lv_bipush (v := nI 47) hx hb dX1_accepts_66 (by decide) ?_
        refine lv_icmp_ne (tgt := 77) hx hb dX1_accepts_68 (by decide) (fun c_8 => ?_) (fun c_8 => ?_)
        · skip
          refine lv_iload_n hx hb dX1_accepts_77 rfl (lv_at hl 1 rfl) ?_
          refine lv_bipush (v := nI 44) hx hb dX1_accepts_78 (by decide) ?_
          refine lv_icmp_ne (tgt := 94) hx hb dX1_accepts_80 (by decide) (fun c_9 => ?_) (fun c_9 => ?_)
          · skip
            refine lv_iconst (v := nI 0) hx hb dX1_accepts_94 (by decide) ?_
            have hE : xdAcc (sz, pt, dg, R) ch = (false, sz, pt, dg, R) := by
              refine (if_neg (fun q => absurd q.1 (Int32.not_le.mpr c_1))).trans ?_
              refine (if_neg (Nat.ne_of_gt c_2)).trans ?_
              refine (if_neg (Nat.ne_of_gt c_3)).trans ?_
              refine (if_neg (fun q => absurd q.2 c_8)).trans ?_
              exact if_neg c_9
            have hP9 : va_P (dC, dI) vwCl [(h0, .inr (1, [.int (nI ((xdAcc (sz, pt, dg, R) ch).2.1)), .int (nI ((xdAcc (sz, pt, dg, R) ch).2.2.1)), .int (nI ((xdAcc (sz, pt, dg, R) ch).2.2.2.1)), .ref nq])), (nq, .inl (cQ, 3, .inr (.inr (.inr (.inr (xrow [nr0, nr1, nr2])))))), (nr0, .inl (cI, 16, .inl ((xdAcc (sz, pt, dg, R) ch).2.2.2.2 0))), (nr1, .inl (cI, 16, .inl ((xdAcc (sz, pt, dg, R) ch).2.2.2.2 1))), (nr2, .inl (cI, 16, .inl ((xdAcc (sz, pt, dg, R) ch).2.2.2.2 2)))] s.heap := by rw [hE]; exact hP
            have hS9 : va_S (va_B [(h0, .inr (1, [.int (nI sz), .int (nI pt), .int (nI dg), .ref nq])), (nq, .inl (cQ, 3, .inr (.inr (.inr (.inr (xrow [nr0, nr1, nr2])))))), (nr0, .inl (cI, 16, .inl (R 0))), (nr1, .inl (cI, 16, .inl (R 1))), (nr2, .inl (cI, 16, .inl (R 2)))]) s.heap s.heap [] := by rw [← hA]; exact hS
            exact W.zret (v := nI 0) hx hb hr rfl (fun t ht hW => ⟨⟨_, _, rfl, ⟨(show nI 0 = (if (xdAcc (sz, pt, dg, R) ch).1 = true then nI 1 else nI 0) from (if_neg (by rw [hE]; exact Bool.false_ne_true)).symm), rfl⟩, by rw [ht]; exact hP9⟩, hS9.X ht⟩) hS9.2.2 dX1_accepts_95
          refine lv_aload_n hx hb dX1_accepts_83 rfl (lv_at hl 0 rfl) ?_
          refine xkI2 (xV (As := []) (rest := []) (wc := [(h0, .inr (1, [.int (nI sz), .int (nI pt), .int (nI dg), .ref nq])), (nq, .inl (cQ, 3, .inr (.inr (.inr (.inr (xrow [nr0, nr1, nr2])))))), (nr0, .inl (cI, 16, .inl (R 0))), (nr1, .inl (cI, 16, .inl (R 1))), (nr2, .inl (cI, 16, .inl (R 2)))]) hx hb hml hown hts (c_X1_openEntry l dC dI cI cF cC cZ cQ cS h0 nq R nr0 nr1 nr2 sz pt dg (by omega)) 0 gX1_accepts_X1_openEntry rfl rfl rfl hdV_X1_openEntry ⟨Nat.le_of_ble_eq_true rfl, Nat.le_of_ble_eq_true rfl⟩ hN hK hP hD [0, 1, 2, 3, 4] rfl rfl 1 0 rfl rfl rfl hl.1 rfl (Nat.le_of_ble_eq_true rfl) dX1_accepts_84 ⟨Nat.zero_le _, Nat.zero_le _⟩) hP hD hS [0, 1, 2, 3, 4] [0, 1, 2, 3, 4] rfl rfl 5 rfl (by decide +kernel) (fun H locs hP hD hS => ?_)
          have hP : va_P (dC, dI) vwCl [(h0, .inr (1, [.int (nI ((xdEntry (sz, pt, dg, R)).2.1)), .int (nI ((xdEntry (sz, pt, dg, R)).2.2.1)), .int (nI ((xdEntry (sz, pt, dg, R)).2.2.2.1)), .ref nq])), (nq, .inl (cQ, 3, .inr (.inr (.inr (.inr (xrow [nr0, nr1, nr2])))))), (nr0, .inl (cI, 16, .inl ((xdEntry (sz, pt, dg, R)).2.2.2.2 0))), (nr1, .inl (cI, 16, .inl ((xdEntry (sz, pt, dg, R)).2.2.2.2 1))), (nr2, .inl (cI, 16, .inl ((xdEntry (sz, pt, dg, R)).2.2.2.2 2)))] H := hP
          have hD : va_D A [(h0, .inr (1, [.int (nI ((xdEntry (sz, pt, dg, R)).2.1)), .int (nI ((xdEntry (sz, pt, dg, R)).2.2.1)), .int (nI ((xdEntry (sz, pt, dg, R)).2.2.2.1)), .ref nq])), (nq, .inl (cQ, 3, .inr (.inr (.inr (.inr (xrow [nr0, nr1, nr2])))))), (nr0, .inl (cI, 16, .inl ((xdEntry (sz, pt, dg, R)).2.2.2.2 0))), (nr1, .inl (cI, 16, .inl ((xdEntry (sz, pt, dg, R)).2.2.2.2 1))), (nr2, .inl (cI, 16, .inl ((xdEntry (sz, pt, dg, R)).2.2.2.2 2)))] := hD
          obtain ⟨r_10, hr_10⟩ : ∃ z9 : Int32, z9 = (if (xdEntry (sz, pt, dg, R)).1 = true then nI 1 else nI 0) := ⟨_, rfl⟩
          refine xr_top hr_10.symm ?_
          rcases xi_ite inferInstance hr_10 with ⟨c_11, hr_10⟩ | ⟨c_11, hr_10⟩
          · subst hr_10
            refine xr_if1 (tgt := 94) hx hb (by decide) dX1_accepts_87 (by decide) ?_
            refine lv_iconst (v := nI 1) hx hb dX1_accepts_90 (by decide) ?_
            refine lv_goto (tgt := 95) hx hb dX1_accepts_91 (by decide) ?_
            have hE : xdAcc (sz, pt, dg, R) ch = xdEntry (sz, pt, dg, R) := by
              refine (if_neg (fun q => absurd q.1 (Int32.not_le.mpr c_1))).trans ?_
              refine (if_neg (Nat.ne_of_gt c_2)).trans ?_
              refine (if_neg (Nat.ne_of_gt c_3)).trans ?_
              refine (if_neg (fun q => absurd q.2 c_8)).trans ?_
              exact if_pos c_9
            have hP9 : va_P (dC, dI) vwCl [(h0, .inr (1, [.int (nI ((xdAcc (sz, pt, dg, R) ch).2.1)), .int (nI ((xdAcc (sz, pt, dg, R) ch).2.2.1)), .int (nI ((xdAcc (sz, pt, dg, R) ch).2.2.2.1)), .ref nq])), (nq, .inl (cQ, 3, .inr (.inr (.inr (.inr (xrow [nr0, nr1, nr2])))))), (nr0, .inl (cI, 16, .inl ((xdAcc (sz, pt, dg, R) ch).2.2.2.2 0))), (nr1, .inl (cI, 16, .inl ((xdAcc (sz, pt, dg, R) ch).2.2.2.2 1))), (nr2, .inl (cI, 16, .inl ((xdAcc (sz, pt, dg, R) ch).2.2.2.2 2)))] H := by rw [hE]; exact hP
            have hS9 : va_S (va_B [(h0, .inr (1, [.int (nI sz), .int (nI pt), .int (nI dg), .ref nq])), (nq, .inl (cQ, 3, .inr (.inr (.inr (.inr (xrow [nr0, nr1, nr2])))))), (nr0, .inl (cI, 16, .inl (R 0))), (nr1, .inl (cI, 16, .inl (R 1))), (nr2, .inl (cI, 16, .inl (R 2)))]) s.heap H locs := by rw [← hA]; exact hS
            exact W.zret (v := nI 1) hx hb hr rfl (fun t ht hW => ⟨⟨_, _, rfl, ⟨(show nI 1 = (if (xdAcc (sz, pt, dg, R) ch).1 = true then nI 1 else nI 0) from (if_pos (by rw [hE]; exact c_11)).symm), rfl⟩, by rw [ht]; exact hP9⟩, hS9.X ht⟩) hS9.2.2 dX1_accepts_95
          subst hr_10
          refine xr_if0 (tgt := 94) hx hb (by decide) dX1_accepts_87 (by decide) ?_
          refine lv_iconst (v := nI 0) hx hb dX1_accepts_94 (by decide) ?_
          have hE : xdAcc (sz, pt, dg, R) ch = xdEntry (sz, pt, dg, R) := by
            refine (if_neg (fun q => absurd q.1 (Int32.not_le.mpr c_1))).trans ?_
            refine (if_neg (Nat.ne_of_gt c_2)).trans ?_
            refine (if_neg (Nat.ne_of_gt c_3)).trans ?_
            refine (if_neg (fun q => absurd q.2 c_8)).trans ?_
            exact if_pos c_9
          have hP9 : va_P (dC, dI) vwCl [(h0, .inr (1, [.int (nI ((xdAcc (sz, pt, dg, R) ch).2.1)), .int (nI ((xdAcc (sz, pt, dg, R) ch).2.2.1)), .int (nI ((xdAcc (sz, pt, dg, R) ch).2.2.2.1)), .ref nq])), (nq, .inl (cQ, 3, .inr (.inr (.inr (.inr (xrow [nr0, nr1, nr2])))))), (nr0, .inl (cI, 16, .inl ((xdAcc (sz, pt, dg, R) ch).2.2.2.2 0))), (nr1, .inl (cI, 16, .inl ((xdAcc (sz, pt, dg, R) ch).2.2.2.2 1))), (nr2, .inl (cI, 16, .inl ((xdAcc (sz, pt, dg, R) ch).2.2.2.2 2)))] H := by rw [hE]; exact hP
          have hS9 : va_S (va_B [(h0, .inr (1, [.int (nI sz), .int (nI pt), .int (nI dg), .ref nq])), (nq, .inl (cQ, 3, .inr (.inr (.inr (.inr (xrow [nr0, nr1, nr2])))))), (nr0, .inl (cI, 16, .inl (R 0))), (nr1, .inl (cI, 16, .inl (R 1))), (nr2, .inl (cI, 16, .inl (R 2)))]) s.heap H locs := by rw [← hA]; exact hS
          exact W.zret (v := nI 0) hx hb hr rfl (fun t ht hW => ⟨⟨_, _, rfl, ⟨(show nI 0 = (if (xdAcc (sz, pt, dg, R) ch).1 = true then nI 1 else nI 0) from (if_neg (by rw [hE]; exact c_11)).symm), rfl⟩, by rw [ht]; exact hP9⟩, hS9.X ht⟩) hS9.2.2 dX1_accepts_95
        refine lv_aload_n hx hb dX1_accepts_71 rfl (lv_at hl 0 rfl) ?_
        refine lv_iconst (v := nI 2) hx hb dX1_accepts_72 (by decide) ?_
        refine xkI2 (xV (As := [.int (nI 2)]) (rest := []) (wc := [(h0, .inr (1, [.int (nI sz), .int (nI pt), .int (nI dg), .ref nq]))]) hx hb hml hown hts (c_X1_openPart l dC dI cI cF cC cZ cQ cS h0 (.int (nI sz)) (.ref nq) (nI pt) (nI dg) 2) 1 gX1_accepts_X1_openPart rfl rfl rfl hdV_X1_openPart ⟨Nat.le_of_ble_eq_true rfl, Nat.le_of_ble_eq_true rfl⟩ hN hK hP hD [0] rfl rfl 1 0 rfl rfl rfl hl.1 rfl (Nat.le_of_ble_eq_true rfl) dX1_accepts_73 ⟨Nat.zero_le _, Nat.zero_le _⟩) hP hD hS [0] [0, 1, 2, 3, 4] rfl rfl 5 rfl (by decide +kernel) (fun H locs hP hD hS => ?_)
        have hP : va_P (dC, dI) vwCl [(h0, .inr (1, [.int (nI sz), .int (nI 2), .int (nI 0), .ref nq])), (nq, .inl (cQ, 3, .inr (.inr (.inr (.inr (xrow [nr0, nr1, nr2])))))), (nr0, .inl (cI, 16, .inl (R 0))), (nr1, .inl (cI, 16, .inl (R 1))), (nr2, .inl (cI, 16, .inl (R 2)))] H := hP
        have hD : va_D A [(h0, .inr (1, [.int (nI sz), .int (nI 2), .int (nI 0), .ref nq])), (nq, .inl (cQ, 3, .inr (.inr (.inr (.inr (xrow [nr0, nr1, nr2])))))), (nr0, .inl (cI, 16, .inl (R 0))), (nr1, .inl (cI, 16, .inl (R 1))), (nr2, .inl (cI, 16, .inl (R 2)))] := hD
        have hE : xdAcc (sz, pt, dg, R) ch = (true, xdPart (sz, pt, dg, R) 2) := by
          refine (if_neg (fun q => absurd q.1 (Int32.not_le.mpr c_1))).trans ?_
          refine (if_neg (Nat.ne_of_gt c_2)).trans ?_
          refine (if_neg (Nat.ne_of_gt c_3)).trans ?_
          exact if_pos ⟨c_4, c_8⟩
        have hP9 : va_P (dC, dI) vwCl [(h0, .inr (1, [.int (nI ((xdAcc (sz, pt, dg, R) ch).2.1)), .int (nI ((xdAcc (sz, pt, dg, R) ch).2.2.1)), .int (nI ((xdAcc (sz, pt, dg, R) ch).2.2.2.1)), .ref nq])), (nq, .inl (cQ, 3, .inr (.inr (.inr (.inr (xrow [nr0, nr1, nr2])))))), (nr0, .inl (cI, 16, .inl ((xdAcc (sz, pt, dg, R) ch).2.2.2.2 0))), (nr1, .inl (cI, 16, .inl ((xdAcc (sz, pt, dg, R) ch).2.2.2.2 1))), (nr2, .inl (cI, 16, .inl ((xdAcc (sz, pt, dg, R) ch).2.2.2.2 2)))] H := by rw [hE]; exact hP
        have hS9 : va_S (va_B [(h0, .inr (1, [.int (nI sz), .int (nI pt), .int (nI dg), .ref nq])), (nq, .inl (cQ, 3, .inr (.inr (.inr (.inr (xrow [nr0, nr1, nr2])))))), (nr0, .inl (cI, 16, .inl (R 0))), (nr1, .inl (cI, 16, .inl (R 1))), (nr2, .inl (cI, 16, .inl (R 2)))]) s.heap H locs := by rw [← hA]; exact hS
        exact W.zret (v := nI 1) hx hb hr rfl (fun t ht hW => ⟨⟨_, _, rfl, ⟨(show nI 1 = (if (xdAcc (sz, pt, dg, R) ch).1 = true then nI 1 else nI 0) from (if_pos (by rw [hE])).symm), rfl⟩, by rw [ht]; exact hP9⟩, hS9.X ht⟩) hS9.2.2 dX1_accepts_76
      refine lv_iload_n hx hb dX1_accepts_37 rfl (lv_at hl 1 rfl) ?_
      refine lv_bipush (v := nI 120) hx hb dX1_accepts_38 (by decide) ?_
      refine lv_icmp_ne (tgt := 55) hx hb dX1_accepts_40 (by decide) (fun c_12 => ?_) (fun c_12 => ?_)
      · skip
        refine lv_iconst (v := nI 0) hx hb dX1_accepts_55 (by decide) ?_
        have hE : xdAcc (sz, pt, dg, R) ch = (false, sz, pt, dg, R) := by
          refine (if_neg (fun q => absurd q.1 (Int32.not_le.mpr c_1))).trans ?_
          refine (if_neg (Nat.ne_of_gt c_2)).trans ?_
          refine (if_pos c_3).trans ?_
          exact if_neg c_12
        have hP9 : va_P (dC, dI) vwCl [(h0, .inr (1, [.int (nI ((xdAcc (sz, pt, dg, R) ch).2.1)), .int (nI ((xdAcc (sz, pt, dg, R) ch).2.2.1)), .int (nI ((xdAcc (sz, pt, dg, R) ch).2.2.2.1)), .ref nq])), (nq, .inl (cQ, 3, .inr (.inr (.inr (.inr (xrow [nr0, nr1, nr2])))))), (nr0, .inl (cI, 16, .inl ((xdAcc (sz, pt, dg, R) ch).2.2.2.2 0))), (nr1, .inl (cI, 16, .inl ((xdAcc (sz, pt, dg, R) ch).2.2.2.2 1))), (nr2, .inl (cI, 16, .inl ((xdAcc (sz, pt, dg, R) ch).2.2.2.2 2)))] s.heap := by rw [hE]; exact hP
        have hS9 : va_S (va_B [(h0, .inr (1, [.int (nI sz), .int (nI pt), .int (nI dg), .ref nq])), (nq, .inl (cQ, 3, .inr (.inr (.inr (.inr (xrow [nr0, nr1, nr2])))))), (nr0, .inl (cI, 16, .inl (R 0))), (nr1, .inl (cI, 16, .inl (R 1))), (nr2, .inl (cI, 16, .inl (R 2)))]) s.heap s.heap [] := by rw [← hA]; exact hS
        exact W.zret (v := nI 0) hx hb hr rfl (fun t ht hW => ⟨⟨_, _, rfl, ⟨(show nI 0 = (if (xdAcc (sz, pt, dg, R) ch).1 = true then nI 1 else nI 0) from (if_neg (by rw [hE]; exact Bool.false_ne_true)).symm), rfl⟩, by rw [ht]; exact hP9⟩, hS9.X ht⟩) hS9.2.2 dX1_accepts_56
      refine lv_aload_n hx hb dX1_accepts_43 rfl (lv_at hl 0 rfl) ?_
      refine lv_iconst (v := nI 1) hx hb dX1_accepts_44 (by decide) ?_
      refine xkI2 (xV (As := [.int (nI 1)]) (rest := []) (wc := [(h0, .inr (1, [.int (nI sz), .int (nI pt), .int (nI dg), .ref nq]))]) hx hb hml hown hts (c_X1_openPart l dC dI cI cF cC cZ cQ cS h0 (.int (nI sz)) (.ref nq) (nI pt) (nI dg) 1) 1 gX1_accepts_X1_openPart rfl rfl rfl hdV_X1_openPart ⟨Nat.le_of_ble_eq_true rfl, Nat.le_of_ble_eq_true rfl⟩ hN hK hP hD [0] rfl rfl 1 0 rfl rfl rfl hl.1 rfl (Nat.le_of_ble_eq_true rfl) dX1_accepts_45 ⟨Nat.zero_le _, Nat.zero_le _⟩) hP hD hS [0] [0, 1, 2, 3, 4] rfl rfl 5 rfl (by decide +kernel) (fun H locs hP hD hS => ?_)
      have hP : va_P (dC, dI) vwCl [(h0, .inr (1, [.int (nI sz), .int (nI 1), .int (nI 0), .ref nq])), (nq, .inl (cQ, 3, .inr (.inr (.inr (.inr (xrow [nr0, nr1, nr2])))))), (nr0, .inl (cI, 16, .inl (R 0))), (nr1, .inl (cI, 16, .inl (R 1))), (nr2, .inl (cI, 16, .inl (R 2)))] H := hP
      have hD : va_D A [(h0, .inr (1, [.int (nI sz), .int (nI 1), .int (nI 0), .ref nq])), (nq, .inl (cQ, 3, .inr (.inr (.inr (.inr (xrow [nr0, nr1, nr2])))))), (nr0, .inl (cI, 16, .inl (R 0))), (nr1, .inl (cI, 16, .inl (R 1))), (nr2, .inl (cI, 16, .inl (R 2)))] := hD
      refine xr_if1 (tgt := 55) hx hb (by decide) dX1_accepts_48 (by decide) ?_
      refine lv_iconst (v := nI 1) hx hb dX1_accepts_51 (by decide) ?_
      refine lv_goto (tgt := 56) hx hb dX1_accepts_52 (by decide) ?_
      have hE : xdAcc (sz, pt, dg, R) ch = (true, xdPart (sz, pt, dg, R) 1) := by
        refine (if_neg (fun q => absurd q.1 (Int32.not_le.mpr c_1))).trans ?_
        refine (if_neg (Nat.ne_of_gt c_2)).trans ?_
        refine (if_pos c_3).trans ?_
        exact if_pos c_12
      have hP9 : va_P (dC, dI) vwCl [(h0, .inr (1, [.int (nI ((xdAcc (sz, pt, dg, R) ch).2.1)), .int (nI ((xdAcc (sz, pt, dg, R) ch).2.2.1)), .int (nI ((xdAcc (sz, pt, dg, R) ch).2.2.2.1)), .ref nq])), (nq, .inl (cQ, 3, .inr (.inr (.inr (.inr (xrow [nr0, nr1, nr2])))))), (nr0, .inl (cI, 16, .inl ((xdAcc (sz, pt, dg, R) ch).2.2.2.2 0))), (nr1, .inl (cI, 16, .inl ((xdAcc (sz, pt, dg, R) ch).2.2.2.2 1))), (nr2, .inl (cI, 16, .inl ((xdAcc (sz, pt, dg, R) ch).2.2.2.2 2)))] H := by rw [hE]; exact hP
      have hS9 : va_S (va_B [(h0, .inr (1, [.int (nI sz), .int (nI pt), .int (nI dg), .ref nq])), (nq, .inl (cQ, 3, .inr (.inr (.inr (.inr (xrow [nr0, nr1, nr2])))))), (nr0, .inl (cI, 16, .inl (R 0))), (nr1, .inl (cI, 16, .inl (R 1))), (nr2, .inl (cI, 16, .inl (R 2)))]) s.heap H locs := by rw [← hA]; exact hS
      exact W.zret (v := nI 1) hx hb hr rfl (fun t ht hW => ⟨⟨_, _, rfl, ⟨(show nI 1 = (if (xdAcc (sz, pt, dg, R) ch).1 = true then nI 1 else nI 0) from (if_pos (by rw [hE])).symm), rfl⟩, by rw [ht]; exact hP9⟩, hS9.X ht⟩) hS9.2.2 dX1_accepts_56
    refine lv_iconst (v := nI 0) hx hb dX1_accepts_28 (by decide) ?_
    have hE : xdAcc (sz, pt, dg, R) ch = (false, sz, pt, dg, R) := by
      refine (if_neg (fun q => absurd q.1 (Int32.not_le.mpr c_1))).trans ?_
      exact if_pos c_2
    have hP9 : va_P (dC, dI) vwCl [(h0, .inr (1, [.int (nI ((xdAcc (sz, pt, dg, R) ch).2.1)), .int (nI ((xdAcc (sz, pt, dg, R) ch).2.2.1)), .int (nI ((xdAcc (sz, pt, dg, R) ch).2.2.2.1)), .ref nq])), (nq, .inl (cQ, 3, .inr (.inr (.inr (.inr (xrow [nr0, nr1, nr2])))))), (nr0, .inl (cI, 16, .inl ((xdAcc (sz, pt, dg, R) ch).2.2.2.2 0))), (nr1, .inl (cI, 16, .inl ((xdAcc (sz, pt, dg, R) ch).2.2.2.2 1))), (nr2, .inl (cI, 16, .inl ((xdAcc (sz, pt, dg, R) ch).2.2.2.2 2)))] s.heap := by rw [hE]; exact hP
    have hS9 : va_S (va_B [(h0, .inr (1, [.int (nI sz), .int (nI pt), .int (nI dg), .ref nq])), (nq, .inl (cQ, 3, .inr (.inr (.inr (.inr (xrow [nr0, nr1, nr2])))))), (nr0, .inl (cI, 16, .inl (R 0))), (nr1, .inl (cI, 16, .inl (R 1))), (nr2, .inl (cI, 16, .inl (R 2)))]) s.heap s.heap [] := by rw [← hA]; exact hS
    exact W.zret (v := nI 0) hx hb hr rfl (fun t ht hW => ⟨⟨_, _, rfl, ⟨(show nI 0 = (if (xdAcc (sz, pt, dg, R) ch).1 = true then nI 1 else nI 0) from (if_neg (by rw [hE]; exact Bool.false_ne_true)).symm), rfl⟩, by rw [ht]; exact hP9⟩, hS9.X ht⟩) hS9.2.2 dX1_accepts_29
  refine lv_iload_n hx hb dX1_accepts_6 rfl (lv_at hl 1 rfl) ?_
  refine lv_bipush (v := nI 57) hx hb dX1_accepts_7 (by decide) ?_
  refine lv_icmp_gt (tgt := 21) hx hb dX1_accepts_9 (by decide) (fun c_13 => ?_) (fun c_13 => ?_)
  · skip
    refine lv_aload_n hx hb dX1_accepts_21 rfl (lv_at hl 0 rfl) ?_
    refine va_get (D := (dC, dI)) (ci := 1) (v := .int (nI dg)) (C := RX1) (T := TX1) (N := 4) hx hb hts i_X1 hown hK hP 0 rfl rfl 2 (by decide) k_31 (fun _ h9 => h9) rfl dX1_accepts_22 ?_
    refine xr_zne_n (tgt := 30) hx hb (by omega) dX1_accepts_25 (by decide) (fun c_14 => ?_) (fun c_14 => ?_)
    · skip
      refine lv_aload_n hx hb dX1_accepts_30 rfl (lv_at hl 0 rfl) ?_
      refine va_get (D := (dC, dI)) (ci := 1) (v := .int (nI pt)) (C := RX1) (T := TX1) (N := 4) hx hb hts i_X1 hown hK hP 0 rfl rfl 1 (by decide) k_28 (fun _ h9 => h9) rfl dX1_accepts_31 ?_
      refine xr_zne_n (tgt := 57) hx hb (by omega) dX1_accepts_34 (by decide) (fun c_15 => ?_) (fun c_15 => ?_)
      · skip
        refine lv_aload_n hx hb dX1_accepts_57 rfl (lv_at hl 0 rfl) ?_
        refine va_get (D := (dC, dI)) (ci := 1) (v := .int (nI pt)) (C := RX1) (T := TX1) (N := 4) hx hb hts i_X1 hown hK hP 0 rfl rfl 1 (by decide) k_28 (fun _ h9 => h9) rfl dX1_accepts_58 ?_
        refine lv_iconst (v := nI 1) hx hb dX1_accepts_61 (by decide) ?_
        refine xr_ne_n (tgt := 77) hx hb (by omega) (by omega) dX1_accepts_62 (by decide) (fun c_16 => ?_) (fun c_16 => ?_)
        · skip
          refine lv_iload_n hx hb dX1_accepts_77 rfl (lv_at hl 1 rfl) ?_
          refine lv_bipush (v := nI 44) hx hb dX1_accepts_78 (by decide) ?_
          refine lv_icmp_ne (tgt := 94) hx hb dX1_accepts_80 (by decide) (fun c_17 => ?_) (fun c_17 => ?_)
          · skip
            refine lv_iconst (v := nI 0) hx hb dX1_accepts_94 (by decide) ?_
            have hE : xdAcc (sz, pt, dg, R) ch = (false, sz, pt, dg, R) := by
              refine (if_neg (fun q => absurd q.2 (Int32.not_le.mpr c_13))).trans ?_
              refine (if_neg (Nat.ne_of_gt c_14)).trans ?_
              refine (if_neg (Nat.ne_of_gt c_15)).trans ?_
              refine (if_neg (fun q => absurd q.1 c_16)).trans ?_
              exact if_neg c_17
            have hP9 : va_P (dC, dI) vwCl [(h0, .inr (1, [.int (nI ((xdAcc (sz, pt, dg, R) ch).2.1)), .int (nI ((xdAcc (sz, pt, dg, R) ch).2.2.1)), .int (nI ((xdAcc (sz, pt, dg, R) ch).2.2.2.1)), .ref nq])), (nq, .inl (cQ, 3, .inr (.inr (.inr (.inr (xrow [nr0, nr1, nr2])))))), (nr0, .inl (cI, 16, .inl ((xdAcc (sz, pt, dg, R) ch).2.2.2.2 0))), (nr1, .inl (cI, 16, .inl ((xdAcc (sz, pt, dg, R) ch).2.2.2.2 1))), (nr2, .inl (cI, 16, .inl ((xdAcc (sz, pt, dg, R) ch).2.2.2.2 2)))] s.heap := by rw [hE]; exact hP
            have hS9 : va_S (va_B [(h0, .inr (1, [.int (nI sz), .int (nI pt), .int (nI dg), .ref nq])), (nq, .inl (cQ, 3, .inr (.inr (.inr (.inr (xrow [nr0, nr1, nr2])))))), (nr0, .inl (cI, 16, .inl (R 0))), (nr1, .inl (cI, 16, .inl (R 1))), (nr2, .inl (cI, 16, .inl (R 2)))]) s.heap s.heap [] := by rw [← hA]; exact hS
            exact W.zret (v := nI 0) hx hb hr rfl (fun t ht hW => ⟨⟨_, _, rfl, ⟨(show nI 0 = (if (xdAcc (sz, pt, dg, R) ch).1 = true then nI 1 else nI 0) from (if_neg (by rw [hE]; exact Bool.false_ne_true)).symm), rfl⟩, by rw [ht]; exact hP9⟩, hS9.X ht⟩) hS9.2.2 dX1_accepts_95
          refine lv_aload_n hx hb dX1_accepts_83 rfl (lv_at hl 0 rfl) ?_
          refine xkI2 (xV (As := []) (rest := []) (wc := [(h0, .inr (1, [.int (nI sz), .int (nI pt), .int (nI dg), .ref nq])), (nq, .inl (cQ, 3, .inr (.inr (.inr (.inr (xrow [nr0, nr1, nr2])))))), (nr0, .inl (cI, 16, .inl (R 0))), (nr1, .inl (cI, 16, .inl (R 1))), (nr2, .inl (cI, 16, .inl (R 2)))]) hx hb hml hown hts (c_X1_openEntry l dC dI cI cF cC cZ cQ cS h0 nq R nr0 nr1 nr2 sz pt dg (by omega)) 0 gX1_accepts_X1_openEntry rfl rfl rfl hdV_X1_openEntry ⟨Nat.le_of_ble_eq_true rfl, Nat.le_of_ble_eq_true rfl⟩ hN hK hP hD [0, 1, 2, 3, 4] rfl rfl 1 0 rfl rfl rfl hl.1 rfl (Nat.le_of_ble_eq_true rfl) dX1_accepts_84 ⟨Nat.zero_le _, Nat.zero_le _⟩) hP hD hS [0, 1, 2, 3, 4] [0, 1, 2, 3, 4] rfl rfl 5 rfl (by decide +kernel) (fun H locs hP hD hS => ?_)
          have hP : va_P (dC, dI) vwCl [(h0, .inr (1, [.int (nI ((xdEntry (sz, pt, dg, R)).2.1)), .int (nI ((xdEntry (sz, pt, dg, R)).2.2.1)), .int (nI ((xdEntry (sz, pt, dg, R)).2.2.2.1)), .ref nq])), (nq, .inl (cQ, 3, .inr (.inr (.inr (.inr (xrow [nr0, nr1, nr2])))))), (nr0, .inl (cI, 16, .inl ((xdEntry (sz, pt, dg, R)).2.2.2.2 0))), (nr1, .inl (cI, 16, .inl ((xdEntry (sz, pt, dg, R)).2.2.2.2 1))), (nr2, .inl (cI, 16, .inl ((xdEntry (sz, pt, dg, R)).2.2.2.2 2)))] H := hP
          have hD : va_D A [(h0, .inr (1, [.int (nI ((xdEntry (sz, pt, dg, R)).2.1)), .int (nI ((xdEntry (sz, pt, dg, R)).2.2.1)), .int (nI ((xdEntry (sz, pt, dg, R)).2.2.2.1)), .ref nq])), (nq, .inl (cQ, 3, .inr (.inr (.inr (.inr (xrow [nr0, nr1, nr2])))))), (nr0, .inl (cI, 16, .inl ((xdEntry (sz, pt, dg, R)).2.2.2.2 0))), (nr1, .inl (cI, 16, .inl ((xdEntry (sz, pt, dg, R)).2.2.2.2 1))), (nr2, .inl (cI, 16, .inl ((xdEntry (sz, pt, dg, R)).2.2.2.2 2)))] := hD
          obtain ⟨r_18, hr_18⟩ : ∃ z9 : Int32, z9 = (if (xdEntry (sz, pt, dg, R)).1 = true then nI 1 else nI 0) := ⟨_, rfl⟩
          refine xr_top hr_18.symm ?_
          rcases xi_ite inferInstance hr_18 with ⟨c_19, hr_18⟩ | ⟨c_19, hr_18⟩
          · subst hr_18
            refine xr_if1 (tgt := 94) hx hb (by decide) dX1_accepts_87 (by decide) ?_
            refine lv_iconst (v := nI 1) hx hb dX1_accepts_90 (by decide) ?_
            refine lv_goto (tgt := 95) hx hb dX1_accepts_91 (by decide) ?_
            have hE : xdAcc (sz, pt, dg, R) ch = xdEntry (sz, pt, dg, R) := by
              refine (if_neg (fun q => absurd q.2 (Int32.not_le.mpr c_13))).trans ?_
              refine (if_neg (Nat.ne_of_gt c_14)).trans ?_
              refine (if_neg (Nat.ne_of_gt c_15)).trans ?_
              refine (if_neg (fun q => absurd q.1 c_16)).trans ?_
              exact if_pos c_17
            have hP9 : va_P (dC, dI) vwCl [(h0, .inr (1, [.int (nI ((xdAcc (sz, pt, dg, R) ch).2.1)), .int (nI ((xdAcc (sz, pt, dg, R) ch).2.2.1)), .int (nI ((xdAcc (sz, pt, dg, R) ch).2.2.2.1)), .ref nq])), (nq, .inl (cQ, 3, .inr (.inr (.inr (.inr (xrow [nr0, nr1, nr2])))))), (nr0, .inl (cI, 16, .inl ((xdAcc (sz, pt, dg, R) ch).2.2.2.2 0))), (nr1, .inl (cI, 16, .inl ((xdAcc (sz, pt, dg, R) ch).2.2.2.2 1))), (nr2, .inl (cI, 16, .inl ((xdAcc (sz, pt, dg, R) ch).2.2.2.2 2)))] H := by rw [hE]; exact hP
            have hS9 : va_S (va_B [(h0, .inr (1, [.int (nI sz), .int (nI pt), .int (nI dg), .ref nq])), (nq, .inl (cQ, 3, .inr (.inr (.inr (.inr (xrow [nr0, nr1, nr2])))))), (nr0, .inl (cI, 16, .inl (R 0))), (nr1, .inl (cI, 16, .inl (R 1))), (nr2, .inl (cI, 16, .inl (R 2)))]) s.heap H locs := by rw [← hA]; exact hS
            exact W.zret (v := nI 1) hx hb hr rfl (fun t ht hW => ⟨⟨_, _, rfl, ⟨(show nI 1 = (if (xdAcc (sz, pt, dg, R) ch).1 = true then nI 1 else nI 0) from (if_pos (by rw [hE]; exact c_19)).symm), rfl⟩, by rw [ht]; exact hP9⟩, hS9.X ht⟩) hS9.2.2 dX1_accepts_95
          subst hr_18
          refine xr_if0 (tgt := 94) hx hb (by decide) dX1_accepts_87 (by decide) ?_
          refine lv_iconst (v := nI 0) hx hb dX1_accepts_94 (by decide) ?_
          have hE : xdAcc (sz, pt, dg, R) ch = xdEntry (sz, pt, dg, R) := by
            refine (if_neg (fun q => absurd q.2 (Int32.not_le.mpr c_13))).trans ?_
            refine (if_neg (Nat.ne_of_gt c_14)).trans ?_
            refine (if_neg (Nat.ne_of_gt c_15)).trans ?_
            refine (if_neg (fun q => absurd q.1 c_16)).trans ?_
            exact if_pos c_17
          have hP9 : va_P (dC, dI) vwCl [(h0, .inr (1, [.int (nI ((xdAcc (sz, pt, dg, R) ch).2.1)), .int (nI ((xdAcc (sz, pt, dg, R) ch).2.2.1)), .int (nI ((xdAcc (sz, pt, dg, R) ch).2.2.2.1)), .ref nq])), (nq, .inl (cQ, 3, .inr (.inr (.inr (.inr (xrow [nr0, nr1, nr2])))))), (nr0, .inl (cI, 16, .inl ((xdAcc (sz, pt, dg, R) ch).2.2.2.2 0))), (nr1, .inl (cI, 16, .inl ((xdAcc (sz, pt, dg, R) ch).2.2.2.2 1))), (nr2, .inl (cI, 16, .inl ((xdAcc (sz, pt, dg, R) ch).2.2.2.2 2)))] H := by rw [hE]; exact hP
          have hS9 : va_S (va_B [(h0, .inr (1, [.int (nI sz), .int (nI pt), .int (nI dg), .ref nq])), (nq, .inl (cQ, 3, .inr (.inr (.inr (.inr (xrow [nr0, nr1, nr2])))))), (nr0, .inl (cI, 16, .inl (R 0))), (nr1, .inl (cI, 16, .inl (R 1))), (nr2, .inl (cI, 16, .inl (R 2)))]) s.heap H locs := by rw [← hA]; exact hS
          exact W.zret (v := nI 0) hx hb hr rfl (fun t ht hW => ⟨⟨_, _, rfl, ⟨(show nI 0 = (if (xdAcc (sz, pt, dg, R) ch).1 = true then nI 1 else nI 0) from (if_neg (by rw [hE]; exact c_19)).symm), rfl⟩, by rw [ht]; exact hP9⟩, hS9.X ht⟩) hS9.2.2 dX1_accepts_95
        refine lv_iload_n hx hb dX1_accepts_65 rfl (lv_at hl 1 rfl) ?_
        refine lv_bipush (v := nI 47) hx hb dX1_accepts_66 (by decide) ?_
        refine lv_icmp_ne (tgt := 77) hx hb dX1_accepts_68 (by decide) (fun c_20 => ?_) (fun c_20 => ?_)
        · skip
          refine lv_iload_n hx hb dX1_accepts_77 rfl (lv_at hl 1 rfl) ?_
          refine lv_bipush (v := nI 44) hx hb dX1_accepts_78 (by decide) ?_
          refine lv_icmp_ne (tgt := 94) hx hb dX1_accepts_80 (by decide) (fun c_21 => ?_) (fun c_21 => ?_)
          · skip
            refine lv_iconst (v := nI 0) hx hb dX1_accepts_94 (by decide) ?_
            have hE : xdAcc (sz, pt, dg, R) ch = (false, sz, pt, dg, R) := by
              refine (if_neg (fun q => absurd q.2 (Int32.not_le.mpr c_13))).trans ?_
              refine (if_neg (Nat.ne_of_gt c_14)).trans ?_
              refine (if_neg (Nat.ne_of_gt c_15)).trans ?_
              refine (if_neg (fun q => absurd q.2 c_20)).trans ?_
              exact if_neg c_21
            have hP9 : va_P (dC, dI) vwCl [(h0, .inr (1, [.int (nI ((xdAcc (sz, pt, dg, R) ch).2.1)), .int (nI ((xdAcc (sz, pt, dg, R) ch).2.2.1)), .int (nI ((xdAcc (sz, pt, dg, R) ch).2.2.2.1)), .ref nq])), (nq, .inl (cQ, 3, .inr (.inr (.inr (.inr (xrow [nr0, nr1, nr2])))))), (nr0, .inl (cI, 16, .inl ((xdAcc (sz, pt, dg, R) ch).2.2.2.2 0))), (nr1, .inl (cI, 16, .inl ((xdAcc (sz, pt, dg, R) ch).2.2.2.2 1))), (nr2, .inl (cI, 16, .inl ((xdAcc (sz, pt, dg, R) ch).2.2.2.2 2)))] s.heap := by rw [hE]; exact hP
            have hS9 : va_S (va_B [(h0, .inr (1, [.int (nI sz), .int (nI pt), .int (nI dg), .ref nq])), (nq, .inl (cQ, 3, .inr (.inr (.inr (.inr (xrow [nr0, nr1, nr2])))))), (nr0, .inl (cI, 16, .inl (R 0))), (nr1, .inl (cI, 16, .inl (R 1))), (nr2, .inl (cI, 16, .inl (R 2)))]) s.heap s.heap [] := by rw [← hA]; exact hS
            exact W.zret (v := nI 0) hx hb hr rfl (fun t ht hW => ⟨⟨_, _, rfl, ⟨(show nI 0 = (if (xdAcc (sz, pt, dg, R) ch).1 = true then nI 1 else nI 0) from (if_neg (by rw [hE]; exact Bool.false_ne_true)).symm), rfl⟩, by rw [ht]; exact hP9⟩, hS9.X ht⟩) hS9.2.2 dX1_accepts_95
          refine lv_aload_n hx hb dX1_accepts_83 rfl (lv_at hl 0 rfl) ?_
          refine xkI2 (xV (As := []) (rest := []) (wc := [(h0, .inr (1, [.int (nI sz), .int (nI pt), .int (nI dg), .ref nq])), (nq, .inl (cQ, 3, .inr (.inr (.inr (.inr (xrow [nr0, nr1, nr2])))))), (nr0, .inl (cI, 16, .inl (R 0))), (nr1, .inl (cI, 16, .inl (R 1))), (nr2, .inl (cI, 16, .inl (R 2)))]) hx hb hml hown hts (c_X1_openEntry l dC dI cI cF cC cZ cQ cS h0 nq R nr0 nr1 nr2 sz pt dg (by omega)) 0 gX1_accepts_X1_openEntry rfl rfl rfl hdV_X1_openEntry ⟨Nat.le_of_ble_eq_true rfl, Nat.le_of_ble_eq_true rfl⟩ hN hK hP hD [0, 1, 2, 3, 4] rfl rfl 1 0 rfl rfl rfl hl.1 rfl (Nat.le_of_ble_eq_true rfl) dX1_accepts_84 ⟨Nat.zero_le _, Nat.zero_le _⟩) hP hD hS [0, 1, 2, 3, 4] [0, 1, 2, 3, 4] rfl rfl 5 rfl (by decide +kernel) (fun H locs hP hD hS => ?_)
          have hP : va_P (dC, dI) vwCl [(h0, .inr (1, [.int (nI ((xdEntry (sz, pt, dg, R)).2.1)), .int (nI ((xdEntry (sz, pt, dg, R)).2.2.1)), .int (nI ((xdEntry (sz, pt, dg, R)).2.2.2.1)), .ref nq])), (nq, .inl (cQ, 3, .inr (.inr (.inr (.inr (xrow [nr0, nr1, nr2])))))), (nr0, .inl (cI, 16, .inl ((xdEntry (sz, pt, dg, R)).2.2.2.2 0))), (nr1, .inl (cI, 16, .inl ((xdEntry (sz, pt, dg, R)).2.2.2.2 1))), (nr2, .inl (cI, 16, .inl ((xdEntry (sz, pt, dg, R)).2.2.2.2 2)))] H := hP
          have hD : va_D A [(h0, .inr (1, [.int (nI ((xdEntry (sz, pt, dg, R)).2.1)), .int (nI ((xdEntry (sz, pt, dg, R)).2.2.1)), .int (nI ((xdEntry (sz, pt, dg, R)).2.2.2.1)), .ref nq])), (nq, .inl (cQ, 3, .inr (.inr (.inr (.inr (xrow [nr0, nr1, nr2])))))), (nr0, .inl (cI, 16, .inl ((xdEntry (sz, pt, dg, R)).2.2.2.2 0))), (nr1, .inl (cI, 16, .inl ((xdEntry (sz, pt, dg, R)).2.2.2.2 1))), (nr2, .inl (cI, 16, .inl ((xdEntry (sz, pt, dg, R)).2.2.2.2 2)))] := hD
          obtain ⟨r_22, hr_22⟩ : ∃ z9 : Int32, z9 = (if (xdEntry (sz, pt, dg, R)).1 = true then nI 1 else nI 0) := ⟨_, rfl⟩
          refine xr_top hr_22.symm ?_
          rcases xi_ite inferInstance hr_22 with ⟨c_23, hr_22⟩ | ⟨c_23, hr_22⟩
          · subst hr_22
            refine xr_if1 (tgt := 94) hx hb (by decide) dX1_accepts_87 (by decide) ?_
            refine lv_iconst (v := nI 1) hx hb dX1_accepts_90 (by decide) ?_
            refine lv_goto (tgt := 95) hx hb dX1_accepts_91 (by decide) ?_
            have hE : xdAcc (sz, pt, dg, R) ch = xdEntry (sz, pt, dg, R) := by
              refine (if_neg (fun q => absurd q.2 (Int32.not_le.mpr c_13))).trans ?_
              refine (if_neg (Nat.ne_of_gt c_14)).trans ?_
              refine (if_neg (Nat.ne_of_gt c_15)).trans ?_
              refine (if_neg (fun q => absurd q.2 c_20)).trans ?_
              exact if_pos c_21
            have hP9 : va_P (dC, dI) vwCl [(h0, .inr (1, [.int (nI ((xdAcc (sz, pt, dg, R) ch).2.1)), .int (nI ((xdAcc (sz, pt, dg, R) ch).2.2.1)), .int (nI ((xdAcc (sz, pt, dg, R) ch).2.2.2.1)), .ref nq])), (nq, .inl (cQ, 3, .inr (.inr (.inr (.inr (xrow [nr0, nr1, nr2])))))), (nr0, .inl (cI, 16, .inl ((xdAcc (sz, pt, dg, R) ch).2.2.2.2 0))), (nr1, .inl (cI, 16, .inl ((xdAcc (sz, pt, dg, R) ch).2.2.2.2 1))), (nr2, .inl (cI, 16, .inl ((xdAcc (sz, pt, dg, R) ch).2.2.2.2 2)))] H := by rw [hE]; exact hP
            have hS9 : va_S (va_B [(h0, .inr (1, [.int (nI sz), .int (nI pt), .int (nI dg), .ref nq])), (nq, .inl (cQ, 3, .inr (.inr (.inr (.inr (xrow [nr0, nr1, nr2])))))), (nr0, .inl (cI, 16, .inl (R 0))), (nr1, .inl (cI, 16, .inl (R 1))), (nr2, .inl (cI, 16, .inl (R 2)))]) s.heap H locs := by rw [← hA]; exact hS
            exact W.zret (v := nI 1) hx hb hr rfl (fun t ht hW => ⟨⟨_, _, rfl, ⟨(show nI 1 = (if (xdAcc (sz, pt, dg, R) ch).1 = true then nI 1 else nI 0) from (if_pos (by rw [hE]; exact c_23)).symm), rfl⟩, by rw [ht]; exact hP9⟩, hS9.X ht⟩) hS9.2.2 dX1_accepts_95
          subst hr_22
          refine xr_if0 (tgt := 94) hx hb (by decide) dX1_accepts_87 (by decide) ?_
          refine lv_iconst (v := nI 0) hx hb dX1_accepts_94 (by decide) ?_
          have hE : xdAcc (sz, pt, dg, R) ch = xdEntry (sz, pt, dg, R) := by
            refine (if_neg (fun q => absurd q.2 (Int32.not_le.mpr c_13))).trans ?_
            refine (if_neg (Nat.ne_of_gt c_14)).trans ?_
            refine (if_neg (Nat.ne_of_gt c_15)).trans ?_
            refine (if_neg (fun q => absurd q.2 c_20)).trans ?_
            exact if_pos c_21
          have hP9 : va_P (dC, dI) vwCl [(h0, .inr (1, [.int (nI ((xdAcc (sz, pt, dg, R) ch).2.1)), .int (nI ((xdAcc (sz, pt, dg, R) ch).2.2.1)), .int (nI ((xdAcc (sz, pt, dg, R) ch).2.2.2.1)), .ref nq])), (nq, .inl (cQ, 3, .inr (.inr (.inr (.inr (xrow [nr0, nr1, nr2])))))), (nr0, .inl (cI, 16, .inl ((xdAcc (sz, pt, dg, R) ch).2.2.2.2 0))), (nr1, .inl (cI, 16, .inl ((xdAcc (sz, pt, dg, R) ch).2.2.2.2 1))), (nr2, .inl (cI, 16, .inl ((xdAcc (sz, pt, dg, R) ch).2.2.2.2 2)))] H := by rw [hE]; exact hP
          have hS9 : va_S (va_B [(h0, .inr (1, [.int (nI sz), .int (nI pt), .int (nI dg), .ref nq])), (nq, .inl (cQ, 3, .inr (.inr (.inr (.inr (xrow [nr0, nr1, nr2])))))), (nr0, .inl (cI, 16, .inl (R 0))), (nr1, .inl (cI, 16, .inl (R 1))), (nr2, .inl (cI, 16, .inl (R 2)))]) s.heap H locs := by rw [← hA]; exact hS
          exact W.zret (v := nI 0) hx hb hr rfl (fun t ht hW => ⟨⟨_, _, rfl, ⟨(show nI 0 = (if (xdAcc (sz, pt, dg, R) ch).1 = true then nI 1 else nI 0) from (if_neg (by rw [hE]; exact c_23)).symm), rfl⟩, by rw [ht]; exact hP9⟩, hS9.X ht⟩) hS9.2.2 dX1_accepts_95
        refine lv_aload_n hx hb dX1_accepts_71 rfl (lv_at hl 0 rfl) ?_
        refine lv_iconst (v := nI 2) hx hb dX1_accepts_72 (by decide) ?_
        refine xkI2 (xV (As := [.int (nI 2)]) (rest := []) (wc := [(h0, .inr (1, [.int (nI sz), .int (nI pt), .int (nI dg), .ref nq]))]) hx hb hml hown hts (c_X1_openPart l dC dI cI cF cC cZ cQ cS h0 (.int (nI sz)) (.ref nq) (nI pt) (nI dg) 2) 1 gX1_accepts_X1_openPart rfl rfl rfl hdV_X1_openPart ⟨Nat.le_of_ble_eq_true rfl, Nat.le_of_ble_eq_true rfl⟩ hN hK hP hD [0] rfl rfl 1 0 rfl rfl rfl hl.1 rfl (Nat.le_of_ble_eq_true rfl) dX1_accepts_73 ⟨Nat.zero_le _, Nat.zero_le _⟩) hP hD hS [0] [0, 1, 2, 3, 4] rfl rfl 5 rfl (by decide +kernel) (fun H locs hP hD hS => ?_)
        have hP : va_P (dC, dI) vwCl [(h0, .inr (1, [.int (nI sz), .int (nI 2), .int (nI 0), .ref nq])), (nq, .inl (cQ, 3, .inr (.inr (.inr (.inr (xrow [nr0, nr1, nr2])))))), (nr0, .inl (cI, 16, .inl (R 0))), (nr1, .inl (cI, 16, .inl (R 1))), (nr2, .inl (cI, 16, .inl (R 2)))] H := hP
        have hD : va_D A [(h0, .inr (1, [.int (nI sz), .int (nI 2), .int (nI 0), .ref nq])), (nq, .inl (cQ, 3, .inr (.inr (.inr (.inr (xrow [nr0, nr1, nr2])))))), (nr0, .inl (cI, 16, .inl (R 0))), (nr1, .inl (cI, 16, .inl (R 1))), (nr2, .inl (cI, 16, .inl (R 2)))] := hD
        have hE : xdAcc (sz, pt, dg, R) ch = (true, xdPart (sz, pt, dg, R) 2) := by
          refine (if_neg (fun q => absurd q.2 (Int32.not_le.mpr c_13))).trans ?_
          refine (if_neg (Nat.ne_of_gt c_14)).trans ?_
          refine (if_neg (Nat.ne_of_gt c_15)).trans ?_
          exact if_pos ⟨c_16, c_20⟩
        have hP9 : va_P (dC, dI) vwCl [(h0, .inr (1, [.int (nI ((xdAcc (sz, pt, dg, R) ch).2.1)), .int (nI ((xdAcc (sz, pt, dg, R) ch).2.2.1)), .int (nI ((xdAcc (sz, pt, dg, R) ch).2.2.2.1)), .ref nq])), (nq, .inl (cQ, 3, .inr (.inr (.inr (.inr (xrow [nr0, nr1, nr2])))))), (nr0, .inl (cI, 16, .inl ((xdAcc (sz, pt, dg, R) ch).2.2.2.2 0))), (nr1, .inl (cI, 16, .inl ((xdAcc (sz, pt, dg, R) ch).2.2.2.2 1))), (nr2, .inl (cI, 16, .inl ((xdAcc (sz, pt, dg, R) ch).2.2.2.2 2)))] H := by rw [hE]; exact hP
        have hS9 : va_S (va_B [(h0, .inr (1, [.int (nI sz), .int (nI pt), .int (nI dg), .ref nq])), (nq, .inl (cQ, 3, .inr (.inr (.inr (.inr (xrow [nr0, nr1, nr2])))))), (nr0, .inl (cI, 16, .inl (R 0))), (nr1, .inl (cI, 16, .inl (R 1))), (nr2, .inl (cI, 16, .inl (R 2)))]) s.heap H locs := by rw [← hA]; exact hS
        exact W.zret (v := nI 1) hx hb hr rfl (fun t ht hW => ⟨⟨_, _, rfl, ⟨(show nI 1 = (if (xdAcc (sz, pt, dg, R) ch).1 = true then nI 1 else nI 0) from (if_pos (by rw [hE])).symm), rfl⟩, by rw [ht]; exact hP9⟩, hS9.X ht⟩) hS9.2.2 dX1_accepts_76
      refine lv_iload_n hx hb dX1_accepts_37 rfl (lv_at hl 1 rfl) ?_
      refine lv_bipush (v := nI 120) hx hb dX1_accepts_38 (by decide) ?_
      refine lv_icmp_ne (tgt := 55) hx hb dX1_accepts_40 (by decide) (fun c_24 => ?_) (fun c_24 => ?_)
      · skip
        refine lv_iconst (v := nI 0) hx hb dX1_accepts_55 (by decide) ?_
        have hE : xdAcc (sz, pt, dg, R) ch = (false, sz, pt, dg, R) := by
          refine (if_neg (fun q => absurd q.2 (Int32.not_le.mpr c_13))).trans ?_
          refine (if_neg (Nat.ne_of_gt c_14)).trans ?_
          refine (if_pos c_15).trans ?_
          exact if_neg c_24
        have hP9 : va_P (dC, dI) vwCl [(h0, .inr (1, [.int (nI ((xdAcc (sz, pt, dg, R) ch).2.1)), .int (nI ((xdAcc (sz, pt, dg, R) ch).2.2.1)), .int (nI ((xdAcc (sz, pt, dg, R) ch).2.2.2.1)), .ref nq])), (nq, .inl (cQ, 3, .inr (.inr (.inr (.inr (xrow [nr0, nr1, nr2])))))), (nr0, .inl (cI, 16, .inl ((xdAcc (sz, pt, dg, R) ch).2.2.2.2 0))), (nr1, .inl (cI, 16, .inl ((xdAcc (sz, pt, dg, R) ch).2.2.2.2 1))), (nr2, .inl (cI, 16, .inl ((xdAcc (sz, pt, dg, R) ch).2.2.2.2 2)))] s.heap := by rw [hE]; exact hP
        have hS9 : va_S (va_B [(h0, .inr (1, [.int (nI sz), .int (nI pt), .int (nI dg), .ref nq])), (nq, .inl (cQ, 3, .inr (.inr (.inr (.inr (xrow [nr0, nr1, nr2])))))), (nr0, .inl (cI, 16, .inl (R 0))), (nr1, .inl (cI, 16, .inl (R 1))), (nr2, .inl (cI, 16, .inl (R 2)))]) s.heap s.heap [] := by rw [← hA]; exact hS
        exact W.zret (v := nI 0) hx hb hr rfl (fun t ht hW => ⟨⟨_, _, rfl, ⟨(show nI 0 = (if (xdAcc (sz, pt, dg, R) ch).1 = true then nI 1 else nI 0) from (if_neg (by rw [hE]; exact Bool.false_ne_true)).symm), rfl⟩, by rw [ht]; exact hP9⟩, hS9.X ht⟩) hS9.2.2 dX1_accepts_56
      refine lv_aload_n hx hb dX1_accepts_43 rfl (lv_at hl 0 rfl) ?_
      refine lv_iconst (v := nI 1) hx hb dX1_accepts_44 (by decide) ?_
      refine xkI2 (xV (As := [.int (nI 1)]) (rest := []) (wc := [(h0, .inr (1, [.int (nI sz), .int (nI pt), .int (nI dg), .ref nq]))]) hx hb hml hown hts (c_X1_openPart l dC dI cI cF cC cZ cQ cS h0 (.int (nI sz)) (.ref nq) (nI pt) (nI dg) 1) 1 gX1_accepts_X1_openPart rfl rfl rfl hdV_X1_openPart ⟨Nat.le_of_ble_eq_true rfl, Nat.le_of_ble_eq_true rfl⟩ hN hK hP hD [0] rfl rfl 1 0 rfl rfl rfl hl.1 rfl (Nat.le_of_ble_eq_true rfl) dX1_accepts_45 ⟨Nat.zero_le _, Nat.zero_le _⟩) hP hD hS [0] [0, 1, 2, 3, 4] rfl rfl 5 rfl (by decide +kernel) (fun H locs hP hD hS => ?_)
      have hP : va_P (dC, dI) vwCl [(h0, .inr (1, [.int (nI sz), .int (nI 1), .int (nI 0), .ref nq])), (nq, .inl (cQ, 3, .inr (.inr (.inr (.inr (xrow [nr0, nr1, nr2])))))), (nr0, .inl (cI, 16, .inl (R 0))), (nr1, .inl (cI, 16, .inl (R 1))), (nr2, .inl (cI, 16, .inl (R 2)))] H := hP
      have hD : va_D A [(h0, .inr (1, [.int (nI sz), .int (nI 1), .int (nI 0), .ref nq])), (nq, .inl (cQ, 3, .inr (.inr (.inr (.inr (xrow [nr0, nr1, nr2])))))), (nr0, .inl (cI, 16, .inl (R 0))), (nr1, .inl (cI, 16, .inl (R 1))), (nr2, .inl (cI, 16, .inl (R 2)))] := hD
      refine xr_if1 (tgt := 55) hx hb (by decide) dX1_accepts_48 (by decide) ?_
      refine lv_iconst (v := nI 1) hx hb dX1_accepts_51 (by decide) ?_
      refine lv_goto (tgt := 56) hx hb dX1_accepts_52 (by decide) ?_
      have hE : xdAcc (sz, pt, dg, R) ch = (true, xdPart (sz, pt, dg, R) 1) := by
        refine (if_neg (fun q => absurd q.2 (Int32.not_le.mpr c_13))).trans ?_
        refine (if_neg (Nat.ne_of_gt c_14)).trans ?_
        refine (if_pos c_15).trans ?_
        exact if_pos c_24
      have hP9 : va_P (dC, dI) vwCl [(h0, .inr (1, [.int (nI ((xdAcc (sz, pt, dg, R) ch).2.1)), .int (nI ((xdAcc (sz, pt, dg, R) ch).2.2.1)), .int (nI ((xdAcc (sz, pt, dg, R) ch).2.2.2.1)), .ref nq])), (nq, .inl (cQ, 3, .inr (.inr (.inr (.inr (xrow [nr0, nr1, nr2])))))), (nr0, .inl (cI, 16, .inl ((xdAcc (sz, pt, dg, R) ch).2.2.2.2 0))), (nr1, .inl (cI, 16, .inl ((xdAcc (sz, pt, dg, R) ch).2.2.2.2 1))), (nr2, .inl (cI, 16, .inl ((xdAcc (sz, pt, dg, R) ch).2.2.2.2 2)))] H := by rw [hE]; exact hP
      have hS9 : va_S (va_B [(h0, .inr (1, [.int (nI sz), .int (nI pt), .int (nI dg), .ref nq])), (nq, .inl (cQ, 3, .inr (.inr (.inr (.inr (xrow [nr0, nr1, nr2])))))), (nr0, .inl (cI, 16, .inl (R 0))), (nr1, .inl (cI, 16, .inl (R 1))), (nr2, .inl (cI, 16, .inl (R 2)))]) s.heap H locs := by rw [← hA]; exact hS
      exact W.zret (v := nI 1) hx hb hr rfl (fun t ht hW => ⟨⟨_, _, rfl, ⟨(show nI 1 = (if (xdAcc (sz, pt, dg, R) ch).1 = true then nI 1 else nI 0) from (if_pos (by rw [hE])).symm), rfl⟩, by rw [ht]; exact hP9⟩, hS9.X ht⟩) hS9.2.2 dX1_accepts_56
    refine lv_iconst (v := nI 0) hx hb dX1_accepts_28 (by decide) ?_
    have hE : xdAcc (sz, pt, dg, R) ch = (false, sz, pt, dg, R) := by
      refine (if_neg (fun q => absurd q.2 (Int32.not_le.mpr c_13))).trans ?_
      exact if_pos c_14
    have hP9 : va_P (dC, dI) vwCl [(h0, .inr (1, [.int (nI ((xdAcc (sz, pt, dg, R) ch).2.1)), .int (nI ((xdAcc (sz, pt, dg, R) ch).2.2.1)), .int (nI ((xdAcc (sz, pt, dg, R) ch).2.2.2.1)), .ref nq])), (nq, .inl (cQ, 3, .inr (.inr (.inr (.inr (xrow [nr0, nr1, nr2])))))), (nr0, .inl (cI, 16, .inl ((xdAcc (sz, pt, dg, R) ch).2.2.2.2 0))), (nr1, .inl (cI, 16, .inl ((xdAcc (sz, pt, dg, R) ch).2.2.2.2 1))), (nr2, .inl (cI, 16, .inl ((xdAcc (sz, pt, dg, R) ch).2.2.2.2 2)))] s.heap := by rw [hE]; exact hP
    have hS9 : va_S (va_B [(h0, .inr (1, [.int (nI sz), .int (nI pt), .int (nI dg), .ref nq])), (nq, .inl (cQ, 3, .inr (.inr (.inr (.inr (xrow [nr0, nr1, nr2])))))), (nr0, .inl (cI, 16, .inl (R 0))), (nr1, .inl (cI, 16, .inl (R 1))), (nr2, .inl (cI, 16, .inl (R 2)))]) s.heap s.heap [] := by rw [← hA]; exact hS
    exact W.zret (v := nI 0) hx hb hr rfl (fun t ht hW => ⟨⟨_, _, rfl, ⟨(show nI 0 = (if (xdAcc (sz, pt, dg, R) ch).1 = true then nI 1 else nI 0) from (if_neg (by rw [hE]; exact Bool.false_ne_true)).symm), rfl⟩, by rw [ht]; exact hP9⟩, hS9.X ht⟩) hS9.2.2 dX1_accepts_29
  refine lv_aload_n hx hb dX1_accepts_12 rfl (lv_at hl 0 rfl) ?_
  refine lv_iload_n hx hb dX1_accepts_13 rfl (lv_at hl 1 rfl) ?_
  refine lv_bipush (v := nI 48) hx hb dX1_accepts_14 (by decide) ?_
  refine lv_isub hx hb dX1_accepts_16 ?_
  refine xkI2 (xV (As := [.int (ch - (nI 48))]) (rest := []) (wc := [(h0, .inr (1, [.int (nI sz), .int (nI pt), .int (nI dg), .ref nq])), (nq, .inl (cQ, 3, .inr (.inr (.inr (.inr (xrow [nr0, nr1, nr2])))))), (nr0, .inl (cI, 16, .inl (R 0))), (nr1, .inl (cI, 16, .inl (R 1))), (nr2, .inl (cI, 16, .inl (R 2)))]) hx hb hml hown hts (c_X1_acceptsDigit l dC dI cI cF cC cZ cQ cS h0 nq R nr0 nr1 nr2 sz pt dg (ch - (nI 48)) (by omega) (by omega) (by omega)) 1 gX1_accepts_X1_acceptsDigit rfl rfl rfl hdV_X1_acceptsDigit ⟨Nat.le_of_ble_eq_true rfl, Nat.le_of_ble_eq_true rfl⟩ hN hK hP hD [0, 1, 2, 3, 4] rfl rfl 1 0 rfl rfl rfl hl.1 rfl (Nat.le_of_ble_eq_true rfl) dX1_accepts_17 ⟨Nat.zero_le _, Nat.zero_le _⟩) hP hD hS [0, 1, 2, 3, 4] [0, 1, 2, 3, 4] rfl rfl 5 rfl (by decide +kernel) (fun H locs hP hD hS => ?_)
  have hP : va_P (dC, dI) vwCl [(h0, .inr (1, [.int (nI ((xdDig (sz, pt, dg, R) (ch - (nI 48))).2.1)), .int (nI ((xdDig (sz, pt, dg, R) (ch - (nI 48))).2.2.1)), .int (nI ((xdDig (sz, pt, dg, R) (ch - (nI 48))).2.2.2.1)), .ref nq])), (nq, .inl (cQ, 3, .inr (.inr (.inr (.inr (xrow [nr0, nr1, nr2])))))), (nr0, .inl (cI, 16, .inl ((xdDig (sz, pt, dg, R) (ch - (nI 48))).2.2.2.2 0))), (nr1, .inl (cI, 16, .inl ((xdDig (sz, pt, dg, R) (ch - (nI 48))).2.2.2.2 1))), (nr2, .inl (cI, 16, .inl ((xdDig (sz, pt, dg, R) (ch - (nI 48))).2.2.2.2 2)))] H := hP
  have hD : va_D A [(h0, .inr (1, [.int (nI ((xdDig (sz, pt, dg, R) (ch - (nI 48))).2.1)), .int (nI ((xdDig (sz, pt, dg, R) (ch - (nI 48))).2.2.1)), .int (nI ((xdDig (sz, pt, dg, R) (ch - (nI 48))).2.2.2.1)), .ref nq])), (nq, .inl (cQ, 3, .inr (.inr (.inr (.inr (xrow [nr0, nr1, nr2])))))), (nr0, .inl (cI, 16, .inl ((xdDig (sz, pt, dg, R) (ch - (nI 48))).2.2.2.2 0))), (nr1, .inl (cI, 16, .inl ((xdDig (sz, pt, dg, R) (ch - (nI 48))).2.2.2.2 1))), (nr2, .inl (cI, 16, .inl ((xdDig (sz, pt, dg, R) (ch - (nI 48))).2.2.2.2 2)))] := hD
  obtain ⟨r_25, hr_25⟩ : ∃ z9 : Int32, z9 = (if (xdDig (sz, pt, dg, R) (ch - (nI 48))).1 = true then nI 1 else nI 0) := ⟨_, rfl⟩
  refine xr_top hr_25.symm ?_
  subst hr_25
  have hE : xdAcc (sz, pt, dg, R) ch = xdDig (sz, pt, dg, R) (ch - nI 48) := if_pos ⟨Int32.not_lt.mp c_1, Int32.not_lt.mp c_13⟩
  have hP9 : va_P (dC, dI) vwCl [(h0, .inr (1, [.int (nI ((xdAcc (sz, pt, dg, R) ch).2.1)), .int (nI ((xdAcc (sz, pt, dg, R) ch).2.2.1)), .int (nI ((xdAcc (sz, pt, dg, R) ch).2.2.2.1)), .ref nq])), (nq, .inl (cQ, 3, .inr (.inr (.inr (.inr (xrow [nr0, nr1, nr2])))))), (nr0, .inl (cI, 16, .inl ((xdAcc (sz, pt, dg, R) ch).2.2.2.2 0))), (nr1, .inl (cI, 16, .inl ((xdAcc (sz, pt, dg, R) ch).2.2.2.2 1))), (nr2, .inl (cI, 16, .inl ((xdAcc (sz, pt, dg, R) ch).2.2.2.2 2)))] H := by rw [hE]; exact hP
  have hS9 : va_S (va_B [(h0, .inr (1, [.int (nI sz), .int (nI pt), .int (nI dg), .ref nq])), (nq, .inl (cQ, 3, .inr (.inr (.inr (.inr (xrow [nr0, nr1, nr2])))))), (nr0, .inl (cI, 16, .inl (R 0))), (nr1, .inl (cI, 16, .inl (R 1))), (nr2, .inl (cI, 16, .inl (R 2)))]) s.heap H locs := by rw [← hA]; exact hS
  exact W.zret (v := (if (xdDig (sz, pt, dg, R) (ch - (nI 48))).1 = true then nI 1 else nI 0)) hx hb hr (by split <;> rfl) (fun t ht hW => ⟨⟨_, _, rfl, ⟨(show (if (xdDig (sz, pt, dg, R) (ch - (nI 48))).1 = true then nI 1 else nI 0) = (if (xdAcc (sz, pt, dg, R) ch).1 = true then nI 1 else nI 0) from (by rw [hE])), rfl⟩, by rw [ht]; exact hP9⟩, hS9.X ht⟩) hS9.2.2 dX1_accepts_20
theorem hdV_X1_goodIn : yX1_goodIn.cls = RX1 ∧ yX1_goodIn.cls ≠ "java/lang/invoke/MethodHandle" ∧ yX1_goodIn.cls ≠ "java/lang/invoke/VarHandle" ∧ (parseMethodDescriptor yX1_goodIn.desc).map (fun d => d.parameters.length) = some 1 := by decide +kernel
set_option maxHeartbeats 4000000 in
set_option maxRecDepth 100000 in
theorem c_X1_goodIn (l : Launch) (dC : Nat → ClassId) (dI : Nat → Nat → Nat) (cI cF cC cZ cQ cS : ClassId) (h0 : Nat) (h0_size : Value) (h0_part : Value) (h0_digits : Value) (nq : Nat) (wf : Nat → Option Nat) (rq : Nat) (row : Nat → Int32) (en : Nat) (hen : en < 16) (hrow : wf 0 = some rq) : Met l yX1_goodIn wsX1_goodIn ({ frames := 0, cells := 0, slots := 0, locals := 0 }) (xPre (dC, dI) vwCl [.ref h0, .int (nI en)] (xtys cI cF cC cZ cQ cS) [(h0, .inr (1, [h0_size, h0_part, h0_digits, .ref nq])), (nq, .inl (cQ, 3, .inr (.inr (.inr (.inr wf))))), (rq, .inl (cI, 16, .inl row))]) (vp_Si (fun r0 => r0 = row en)) 0 0 (fun _ => False) := by
  refine Met.ofW (cc := cX1_goodIn) (maxL := 2) (ret := (some .int)) (by decide) rfl ?_
  intro p e s m args below meth c s₁ B hml hv
  obtain ⟨rfl, hP, hK, hD0, hN⟩ := hv
  have hx := B.exec
  have hb := B.bytes
  have hr := B.returns
  have hts := atoms_spec (ws := wsX1_goodIn) B.pre
  have hown : s.vm.findClass RX1 = some m.cls := findClass_of_methodNamed B.named
  have hlocks := B.notSynchronized
  have k_13 := hts (Cond.fieldLink RX1 13 "ShelfStages$Delivery" "numbers" "[[I") (by decide +kernel)
  have i_X1 : ∀ w ∈ wsX10, w ∈ wsX1_goodIn := by decide +kernel
  have hD := hD0
  have hl := lv_entry ([.ref h0, .int (nI en)]) (n := 2) (Nat.le_of_ble_eq_true rfl)
  rw [lg_entry_eq]
  generalize (lg_sl ([.ref h0, .int (nI en)]) ++ List.replicate (2 - (lg_sl ([.ref h0, .int (nI en)])).length) Slot.unset).toArray = ls at hl ⊢
  have hl : lv_has ls 2 [(0, .ref h0), (1, .int (nI en))] := hl
  refine lv_aload_n hx hb dX1_goodIn_0 rfl (lv_at hl 0 rfl) ?_
  refine va_get (D := (dC, dI)) (ci := 1) (v := .ref nq) (C := RX1) (T := TX1) (N := 4) hx hb hts i_X1 hown hK hP 0 rfl rfl 3 (by decide) k_13 (fun _ h9 => h9) rfl dX1_goodIn_1 ?_
  refine lv_iconst (v := nI 0) hx hb dX1_goodIn_4 (by decide) ?_
  refine xr_aald hx hb hK hP 1 4 rfl rfl rfl (i := 0) (v := rq) (by omega) (by decide) hrow dX1_goodIn_5 ?_
  refine lv_iload_n hx hb dX1_goodIn_6 rfl (lv_at hl 1 rfl) ?_
  refine xr_iald hx hb hK hP 2 0 rfl rfl (i := en) (by omega) (by decide) dX1_goodIn_7 ?_
  exact W.iret (v := row en) hx hb hr (fun t ht hW => ⟨_, rfl, (show row en = row en from rfl), ht⟩) (fun q h => by cases h) dX1_goodIn_8
theorem hdV_X1_unitsIn : yX1_unitsIn.cls = RX1 ∧ yX1_unitsIn.cls ≠ "java/lang/invoke/MethodHandle" ∧ yX1_unitsIn.cls ≠ "java/lang/invoke/VarHandle" ∧ (parseMethodDescriptor yX1_unitsIn.desc).map (fun d => d.parameters.length) = some 1 := by decide +kernel
set_option maxHeartbeats 4000000 in
set_option maxRecDepth 100000 in
theorem c_X1_unitsIn (l : Launch) (dC : Nat → ClassId) (dI : Nat → Nat → Nat) (cI cF cC cZ cQ cS : ClassId) (h0 : Nat) (h0_size : Value) (h0_part : Value) (h0_digits : Value) (nq : Nat) (wf : Nat → Option Nat) (rq : Nat) (row : Nat → Int32) (en : Nat) (hen : en < 16) (hrow : wf 1 = some rq) : Met l yX1_unitsIn wsX1_unitsIn ({ frames := 0, cells := 0, slots := 0, locals := 0 }) (xPre (dC, dI) vwCl [.ref h0, .int (nI en)] (xtys cI cF cC cZ cQ cS) [(h0, .inr (1, [h0_size, h0_part, h0_digits, .ref nq])), (nq, .inl (cQ, 3, .inr (.inr (.inr (.inr wf))))), (rq, .inl (cI, 16, .inl row))]) (vp_Si (fun r0 => r0 = row en)) 0 0 (fun _ => False) := by
  refine Met.ofW (cc := cX1_unitsIn) (maxL := 2) (ret := (some .int)) (by decide) rfl ?_
  intro p e s m args below meth c s₁ B hml hv
  obtain ⟨rfl, hP, hK, hD0, hN⟩ := hv
  have hx := B.exec
  have hb := B.bytes
  have hr := B.returns
  have hts := atoms_spec (ws := wsX1_unitsIn) B.pre
  have hown : s.vm.findClass RX1 = some m.cls := findClass_of_methodNamed B.named
  have hlocks := B.notSynchronized
  have k_13 := hts (Cond.fieldLink RX1 13 "ShelfStages$Delivery" "numbers" "[[I") (by decide +kernel)
  have i_X1 : ∀ w ∈ wsX10, w ∈ wsX1_unitsIn := by decide +kernel
  have hD := hD0
  have hl := lv_entry ([.ref h0, .int (nI en)]) (n := 2) (Nat.le_of_ble_eq_true rfl)
  rw [lg_entry_eq]
  generalize (lg_sl ([.ref h0, .int (nI en)]) ++ List.replicate (2 - (lg_sl ([.ref h0, .int (nI en)])).length) Slot.unset).toArray = ls at hl ⊢
  have hl : lv_has ls 2 [(0, .ref h0), (1, .int (nI en))] := hl
  refine lv_aload_n hx hb dX1_unitsIn_0 rfl (lv_at hl 0 rfl) ?_
  refine va_get (D := (dC, dI)) (ci := 1) (v := .ref nq) (C := RX1) (T := TX1) (N := 4) hx hb hts i_X1 hown hK hP 0 rfl rfl 3 (by decide) k_13 (fun _ h9 => h9) rfl dX1_unitsIn_1 ?_
  refine lv_iconst (v := nI 1) hx hb dX1_unitsIn_4 (by decide) ?_
  refine xr_aald hx hb hK hP 1 4 rfl rfl rfl (i := 1) (v := rq) (by omega) (by decide) hrow dX1_unitsIn_5 ?_
  refine lv_iload_n hx hb dX1_unitsIn_6 rfl (lv_at hl 1 rfl) ?_
  refine xr_iald hx hb hK hP 2 0 rfl rfl (i := en) (by omega) (by decide) dX1_unitsIn_7 ?_
  exact W.iret (v := row en) hx hb hr (fun t ht hW => ⟨_, rfl, (show row en = row en from rfl), ht⟩) (fun q h => by cases h) dX1_unitsIn_8
theorem hdV_X1_leftIn : yX1_leftIn.cls = RX1 ∧ yX1_leftIn.cls ≠ "java/lang/invoke/MethodHandle" ∧ yX1_leftIn.cls ≠ "java/lang/invoke/VarHandle" ∧ (parseMethodDescriptor yX1_leftIn.desc).map (fun d => d.parameters.length) = some 1 := by decide +kernel
set_option maxHeartbeats 4000000 in
set_option maxRecDepth 100000 in
theorem c_X1_leftIn (l : Launch) (dC : Nat → ClassId) (dI : Nat → Nat → Nat) (cI cF cC cZ cQ cS : ClassId) (h0 : Nat) (h0_size : Value) (h0_part : Value) (h0_digits : Value) (nq : Nat) (wf : Nat → Option Nat) (rq : Nat) (row : Nat → Int32) (en : Nat) (hen : en < 16) (hrow : wf 2 = some rq) : Met l yX1_leftIn wsX1_leftIn ({ frames := 0, cells := 0, slots := 0, locals := 0 }) (xPre (dC, dI) vwCl [.ref h0, .int (nI en)] (xtys cI cF cC cZ cQ cS) [(h0, .inr (1, [h0_size, h0_part, h0_digits, .ref nq])), (nq, .inl (cQ, 3, .inr (.inr (.inr (.inr wf))))), (rq, .inl (cI, 16, .inl row))]) (vp_Si (fun r0 => r0 = row en)) 0 0 (fun _ => False) := by
  refine Met.ofW (cc := cX1_leftIn) (maxL := 2) (ret := (some .int)) (by decide) rfl ?_
  intro p e s m args below meth c s₁ B hml hv
  obtain ⟨rfl, hP, hK, hD0, hN⟩ := hv
  have hx := B.exec
  have hb := B.bytes
  have hr := B.returns
  have hts := atoms_spec (ws := wsX1_leftIn) B.pre
  have hown : s.vm.findClass RX1 = some m.cls := findClass_of_methodNamed B.named
  have hlocks := B.notSynchronized
  have k_13 := hts (Cond.fieldLink RX1 13 "ShelfStages$Delivery" "numbers" "[[I") (by decide +kernel)
  have i_X1 : ∀ w ∈ wsX10, w ∈ wsX1_leftIn := by decide +kernel
  have hD := hD0
  have hl := lv_entry ([.ref h0, .int (nI en)]) (n := 2) (Nat.le_of_ble_eq_true rfl)
  rw [lg_entry_eq]
  generalize (lg_sl ([.ref h0, .int (nI en)]) ++ List.replicate (2 - (lg_sl ([.ref h0, .int (nI en)])).length) Slot.unset).toArray = ls at hl ⊢
  have hl : lv_has ls 2 [(0, .ref h0), (1, .int (nI en))] := hl
  refine lv_aload_n hx hb dX1_leftIn_0 rfl (lv_at hl 0 rfl) ?_
  refine va_get (D := (dC, dI)) (ci := 1) (v := .ref nq) (C := RX1) (T := TX1) (N := 4) hx hb hts i_X1 hown hK hP 0 rfl rfl 3 (by decide) k_13 (fun _ h9 => h9) rfl dX1_leftIn_1 ?_
  refine lv_iconst (v := nI 2) hx hb dX1_leftIn_4 (by decide) ?_
  refine xr_aald hx hb hK hP 1 4 rfl rfl rfl (i := 2) (v := rq) (by omega) (by decide) hrow dX1_leftIn_5 ?_
  refine lv_iload_n hx hb dX1_leftIn_6 rfl (lv_at hl 1 rfl) ?_
  refine xr_iald hx hb hK hP 2 0 rfl rfl (i := en) (by omega) (by decide) dX1_leftIn_7 ?_
  exact W.iret (v := row en) hx hb hr (fun t ht hW => ⟨_, rfl, (show row en = row en from rfl), ht⟩) (fun q h => by cases h) dX1_leftIn_8
theorem hdV_X1_read : yX1_read.cls = RX1 ∧ yX1_read.cls ≠ "java/lang/invoke/MethodHandle" ∧ yX1_read.cls ≠ "java/lang/invoke/VarHandle" ∧ (parseMethodDescriptor yX1_read.desc).map (fun d => d.parameters.length) = some 2 := by decide +kernel
set_option maxHeartbeats 4000000 in
set_option maxRecDepth 100000 in
theorem c_X1_read (l : Launch) (dC : Nat → ClassId) (dI : Nat → Nat → Nat) (cI cF cC cZ cQ cS : ClassId) (h0 : Nat) (nq : Nat) (R : Nat → Nat → Int32) (nr0 : Nat) (nr1 : Nat) (nr2 : Nat) (sz : Nat) (pt : Nat) (dg : Nat) (tx : Nat) (text : Nat → Int32) (le : Nat) (hle : le ≤ 60) : Met l yX1_read wsX1_read ({ frames := 3, cells := 0, slots := 0, locals := 62 }) (xPre (dC, dI) vwCl [.ref h0, .ref tx, .int (nI le)] (xtys cI cF cC cZ cQ cS) [(h0, .inr (1, [.int (nI sz), .int (nI pt), .int (nI dg), .ref nq])), (nq, .inl (cQ, 3, .inr (.inr (.inr (.inr (xrow [nr0, nr1, nr2])))))), (nr0, .inl (cI, 16, .inl (R 0))), (nr1, .inl (cI, 16, .inl (R 1))), (nr2, .inl (cI, 16, .inl (R 2))), (tx, .inl (cC, 60, .inl text))]) (xWi (dC, dI) vwCl [(h0, .inr (1, [.int (nI sz), .int (nI pt), .int (nI dg), .ref nq])), (nq, .inl (cQ, 3, .inr (.inr (.inr (.inr (xrow [nr0, nr1, nr2])))))), (nr0, .inl (cI, 16, .inl (R 0))), (nr1, .inl (cI, 16, .inl (R 1))), (nr2, .inl (cI, 16, .inl (R 2))), (tx, .inl (cC, 60, .inl text))] (fun r0 w0 => r0 = xdFault (xdRn text (xdEntry (0, pt, dg, R)).2 le) le ∧ w0 = [(h0, .inr (1, [.int (nI ((xdRn text (xdEntry (0, pt, dg, R)).2 le).2.1)), .int (nI ((xdRn text (xdEntry (0, pt, dg, R)).2 le).2.2.1)), .int (nI ((xdRn text (xdEntry (0, pt, dg, R)).2 le).2.2.2.1)), .ref nq])), (nq, .inl (cQ, 3, .inr (.inr (.inr (.inr (xrow [nr0, nr1, nr2])))))), (nr0, .inl (cI, 16, .inl ((xdRn text (xdEntry (0, pt, dg, R)).2 le).2.2.2.2 0))), (nr1, .inl (cI, 16, .inl ((xdRn text (xdEntry (0, pt, dg, R)).2 le).2.2.2.2 1))), (nr2, .inl (cI, 16, .inl ((xdRn text (xdEntry (0, pt, dg, R)).2 le).2.2.2.2 2))), (tx, .inl (cC, 60, .inl text))])) 0 0 (va_B [(h0, .inr (1, [.int (nI sz), .int (nI pt), .int (nI dg), .ref nq])), (nq, .inl (cQ, 3, .inr (.inr (.inr (.inr (xrow [nr0, nr1, nr2])))))), (nr0, .inl (cI, 16, .inl (R 0))), (nr1, .inl (cI, 16, .inl (R 1))), (nr2, .inl (cI, 16, .inl (R 2))), (tx, .inl (cC, 60, .inl text))]) := by
  refine Met.ofW (cc := cX1_read) (maxL := 4) (ret := (some .int)) (by decide) rfl ?_
  intro p e s m args below meth c s₁ B hml hv
  obtain ⟨rfl, hP, hK, hD0, hN⟩ := hv
  have hx := B.exec
  have hb := B.bytes
  have hr := B.returns
  have hts := atoms_spec (ws := wsX1_read) B.pre
  have hown : s.vm.findClass RX1 = some m.cls := findClass_of_methodNamed B.named
  have hlocks := B.notSynchronized
  have k_16 := hts (Cond.fieldLink RX1 16 "ShelfStages$Delivery" "size" "I") (by decide +kernel)
  have k_28 := hts (Cond.fieldLink RX1 28 "ShelfStages$Delivery" "part" "I") (by decide +kernel)
  have k_31 := hts (Cond.fieldLink RX1 31 "ShelfStages$Delivery" "digits" "I") (by decide +kernel)
  have i_X1 : ∀ w ∈ wsX10, w ∈ wsX1_read := by decide +kernel
  obtain ⟨A, hA⟩ : ∃ A, A = va_B [(h0, .inr (1, [.int (nI sz), .int (nI pt), .int (nI dg), .ref nq])), (nq, .inl (cQ, 3, .inr (.inr (.inr (.inr (xrow [nr0, nr1, nr2])))))), (nr0, .inl (cI, 16, .inl (R 0))), (nr1, .inl (cI, 16, .inl (R 1))), (nr2, .inl (cI, 16, .inl (R 2))), (tx, .inl (cC, 60, .inl text))] := ⟨_, rfl⟩
  have hD : va_D A [(h0, .inr (1, [.int (nI sz), .int (nI pt), .int (nI dg), .ref nq])), (nq, .inl (cQ, 3, .inr (.inr (.inr (.inr (xrow [nr0, nr1, nr2])))))), (nr0, .inl (cI, 16, .inl (R 0))), (nr1, .inl (cI, 16, .inl (R 1))), (nr2, .inl (cI, 16, .inl (R 2))), (tx, .inl (cC, 60, .inl text))] := hA ▸ hD0.own
  have hS : va_S A s.heap s.heap [] := va_S.rf
  have hl := lv_entry ([.ref h0, .ref tx, .int (nI le)]) (n := 4) (Nat.le_of_ble_eq_true rfl)
  rw [lg_entry_eq]
  generalize (lg_sl ([.ref h0, .ref tx, .int (nI le)]) ++ List.replicate (4 - (lg_sl ([.ref h0, .ref tx, .int (nI le)])).length) Slot.unset).toArray = ls at hl ⊢
  have hl : lv_has ls 4 [(0, .ref h0), (1, .ref tx), (2, .int (nI le))] := hl
  refine lv_aload_n hx hb dX1_read_0 rfl (lv_at hl 0 rfl) ?_
  refine lv_iconst (v := nI 0) hx hb dX1_read_1 (by decide) ?_
  refine va_put (D := (dC, dI)) (ci := 1) (v := .int (nI 0)) (ty := .int) (C := RX1) (T := TX1) (N := 4) hx hb hts i_X1 tyX1 tyX1_ok nmX1 hown hK hP hD hS 0 rfl rfl 0 (by decide) k_16 (fun _ h9 => h9) rfl (by decide +kernel) rfl rfl (Nat.le_of_ble_eq_true rfl) dX1_read_2 (fun H locs hP hD hS => ?_)
  have hP : va_P (dC, dI) vwCl [(h0, .inr (1, [.int (nI 0), .int (nI pt), .int (nI dg), .ref nq])), (nq, .inl (cQ, 3, .inr (.inr (.inr (.inr (xrow [nr0, nr1, nr2])))))), (nr0, .inl (cI, 16, .inl (R 0))), (nr1, .inl (cI, 16, .inl (R 1))), (nr2, .inl (cI, 16, .inl (R 2))), (tx, .inl (cC, 60, .inl text))] H := hP
  have hD : va_D A [(h0, .inr (1, [.int (nI 0), .int (nI pt), .int (nI dg), .ref nq])), (nq, .inl (cQ, 3, .inr (.inr (.inr (.inr (xrow [nr0, nr1, nr2])))))), (nr0, .inl (cI, 16, .inl (R 0))), (nr1, .inl (cI, 16, .inl (R 1))), (nr2, .inl (cI, 16, .inl (R 2))), (tx, .inl (cC, 60, .inl text))] := hD
  refine lv_aload_n hx hb dX1_read_5 rfl (lv_at hl 0 rfl) ?_
  refine xkI2 (xV (As := []) (rest := []) (wc := [(h0, .inr (1, [.int (nI 0), .int (nI pt), .int (nI dg), .ref nq])), (nq, .inl (cQ, 3, .inr (.inr (.inr (.inr (xrow [nr0, nr1, nr2])))))), (nr0, .inl (cI, 16, .inl (R 0))), (nr1, .inl (cI, 16, .inl (R 1))), (nr2, .inl (cI, 16, .inl (R 2)))]) hx hb hml hown hts (c_X1_openEntry l dC dI cI cF cC cZ cQ cS h0 nq R nr0 nr1 nr2 0 pt dg (by omega)) 0 gX1_read_X1_openEntry rfl rfl rfl hdV_X1_openEntry ⟨Nat.le_of_ble_eq_true rfl, Nat.le_of_ble_eq_true rfl⟩ hN hK hP hD [0, 1, 2, 3, 4] rfl rfl 1 0 rfl rfl rfl hl.1 rfl (Nat.le_of_ble_eq_true rfl) dX1_read_6 ⟨Nat.zero_le _, Nat.zero_le _⟩) hP hD hS [0, 1, 2, 3, 4] [0, 1, 2, 3, 4, 5] rfl rfl 6 rfl (by decide +kernel) (fun H locs hP hD hS => ?_)
  have hP : va_P (dC, dI) vwCl [(h0, .inr (1, [.int (nI ((xdEntry (0, pt, dg, R)).2.1)), .int (nI ((xdEntry (0, pt, dg, R)).2.2.1)), .int (nI ((xdEntry (0, pt, dg, R)).2.2.2.1)), .ref nq])), (nq, .inl (cQ, 3, .inr (.inr (.inr (.inr (xrow [nr0, nr1, nr2])))))), (nr0, .inl (cI, 16, .inl ((xdEntry (0, pt, dg, R)).2.2.2.2 0))), (nr1, .inl (cI, 16, .inl ((xdEntry (0, pt, dg, R)).2.2.2.2 1))), (nr2, .inl (cI, 16, .inl ((xdEntry (0, pt, dg, R)).2.2.2.2 2))), (tx, .inl (cC, 60, .inl text))] H := hP
  have hD : va_D A [(h0, .inr (1, [.int (nI ((xdEntry (0, pt, dg, R)).2.1)), .int (nI ((xdEntry (0, pt, dg, R)).2.2.1)), .int (nI ((xdEntry (0, pt, dg, R)).2.2.2.1)), .ref nq])), (nq, .inl (cQ, 3, .inr (.inr (.inr (.inr (xrow [nr0, nr1, nr2])))))), (nr0, .inl (cI, 16, .inl ((xdEntry (0, pt, dg, R)).2.2.2.2 0))), (nr1, .inl (cI, 16, .inl ((xdEntry (0, pt, dg, R)).2.2.2.2 1))), (nr2, .inl (cI, 16, .inl ((xdEntry (0, pt, dg, R)).2.2.2.2 2))), (tx, .inl (cC, 60, .inl text))] := hD
  obtain ⟨r_1, hr_1⟩ : ∃ z9 : Int32, z9 = (if (xdEntry (0, pt, dg, R)).1 = true then nI 1 else nI 0) := ⟨_, rfl⟩
  refine xr_top hr_1.symm ?_
  subst hr_1
  refine lv_pop hx hb dX1_read_9 rfl ?_
  refine lv_iconst (v := nI 0) hx hb dX1_read_10 (by decide) ?_
  refine lv_istore_n (lv' := [(3, .int (nI 0)), (0, .ref h0), (1, .ref tx), (2, .int (nI le))]) hx hb dX1_read_11 rfl hl (by decide) rfl (fun ls hl => ?_)
  refine xr_loop (J := Nat) (fun n0 H locs g => ∃ (k : Nat) (q : XD) (ls : Array Slot), n0 = le - k ∧ g = F0 m 12 ls [] ∧ lv_has ls 4 [(3, .int (nI k)), (0, .ref h0), (1, .ref tx), (2, .int (nI le))] ∧ va_P (dC, dI) vwCl [(h0, .inr (1, [.int (nI q.1), .int (nI q.2.1), .int (nI q.2.2.1), .ref nq])), (nq, .inl (cQ, 3, .inr (.inr (.inr (.inr (xrow [nr0, nr1, nr2])))))), (nr0, .inl (cI, 16, .inl (q.2.2.2 0))), (nr1, .inl (cI, 16, .inl (q.2.2.2 1))), (nr2, .inl (cI, 16, .inl (q.2.2.2 2))), (tx, .inl (cC, 60, .inl text))] H ∧ va_D A [(h0, .inr (1, [.int (nI q.1), .int (nI q.2.1), .int (nI q.2.2.1), .ref nq])), (nq, .inl (cQ, 3, .inr (.inr (.inr (.inr (xrow [nr0, nr1, nr2])))))), (nr0, .inl (cI, 16, .inl (q.2.2.2 0))), (nr1, .inl (cI, 16, .inl (q.2.2.2 1))), (nr2, .inl (cI, 16, .inl (q.2.2.2 2))), (tx, .inl (cC, 60, .inl text))] ∧ va_S A s.heap H locs ∧ (k ≤ le) ∧ (xdI q) ∧ (xdRn text (xdEntry (0, pt, dg, R)).2 k = (none, q))) (fun n => n) ?_ (le - 0) (g := F0 m 12 ls []) ⟨0, ((xdEntry (0, pt, dg, R)).2.1, (xdEntry (0, pt, dg, R)).2.2.1, (xdEntry (0, pt, dg, R)).2.2.2.1, ((xdEntry (0, pt, dg, R)).2.2.2.2)), ls, rfl, rfl, lv_sub hl [0, 1, 2, 3] rfl, hP, hD, hS, (Nat.zero_le _), (xdI_0 _ _ _), rfl⟩
  intro n0 ih_12 H locs g hp
  obtain ⟨k, q, ls, rfl, rfl, hl, hP, hD, hS, hk, hqi, hq⟩ := hp
  refine lv_iload_n hx hb dX1_read_12 rfl (lv_at hl 0 rfl) ?_
  refine lv_iload_n hx hb dX1_read_13 rfl (lv_at hl 3 rfl) ?_
  refine xr_ge_n (tgt := 35) hx hb (by omega) (by omega) dX1_read_14 (by decide) (fun c_2 => ?_) (fun c_2 => ?_)
  · skip
    have hq1 : q.2.1 < 3 := hqi.2.1
    have hq2 : q.2.2.1 ≤ 3 := hqi.2.2
    refine lv_aload_n hx hb dX1_read_35 rfl (lv_at hl 1 rfl) ?_
    refine va_get (D := (dC, dI)) (ci := 1) (v := .int (nI q.2.1)) (C := RX1) (T := TX1) (N := 4) hx hb hts i_X1 hown hK hP 0 rfl rfl 1 (by decide) k_28 (fun _ h9 => h9) rfl dX1_read_36 ?_
    refine xr_zeq_n (tgt := 49) hx hb (by omega) dX1_read_39 (by decide) (fun c_3 => ?_) (fun c_3 => ?_)
    · skip
      refine lv_iload_n hx hb dX1_read_49 rfl (lv_at hl 3 rfl) ?_
      refine lv_goto (tgt := 54) hx hb dX1_read_50 (by decide) ?_
      have hE : xdRn text (xdEntry (0, pt, dg, R)).2 le = (none, q) := by rw [← hq, show le = k from by omega]
      rw [show q = (xdRn text (xdEntry (0, pt, dg, R)).2 le).2 from by rw [hE]] at hP
      have hP9 : va_P (dC, dI) vwCl [(h0, .inr (1, [.int (nI ((xdRn text (xdEntry (0, pt, dg, R)).2 le).2.1)), .int (nI ((xdRn text (xdEntry (0, pt, dg, R)).2 le).2.2.1)), .int (nI ((xdRn text (xdEntry (0, pt, dg, R)).2 le).2.2.2.1)), .ref nq])), (nq, .inl (cQ, 3, .inr (.inr (.inr (.inr (xrow [nr0, nr1, nr2])))))), (nr0, .inl (cI, 16, .inl ((xdRn text (xdEntry (0, pt, dg, R)).2 le).2.2.2.2 0))), (nr1, .inl (cI, 16, .inl ((xdRn text (xdEntry (0, pt, dg, R)).2 le).2.2.2.2 1))), (nr2, .inl (cI, 16, .inl ((xdRn text (xdEntry (0, pt, dg, R)).2 le).2.2.2.2 2))), (tx, .inl (cC, 60, .inl text))] H := hP
      have hS9 : va_S (va_B [(h0, .inr (1, [.int (nI sz), .int (nI pt), .int (nI dg), .ref nq])), (nq, .inl (cQ, 3, .inr (.inr (.inr (.inr (xrow [nr0, nr1, nr2])))))), (nr0, .inl (cI, 16, .inl (R 0))), (nr1, .inl (cI, 16, .inl (R 1))), (nr2, .inl (cI, 16, .inl (R 2))), (tx, .inl (cC, 60, .inl text))]) s.heap H locs := by rw [← hA]; exact hS
      exact W.iret (v := nI le) hx hb hr (fun t ht hW => ⟨⟨_, _, rfl, ⟨(show nI le = xdFault (xdRn text (xdEntry (0, pt, dg, R)).2 le) le from (by unfold xdFault; rw [hE]; exact (if_pos (Or.inl c_3)).symm)), rfl⟩, by rw [ht]; exact hP9⟩, hS9.X ht⟩) hS9.2.2 dX1_read_54
    refine lv_aload_n hx hb dX1_read_42 rfl (lv_at hl 1 rfl) ?_
    refine va_get (D := (dC, dI)) (ci := 1) (v := .int (nI q.2.2.1)) (C := RX1) (T := TX1) (N := 4) hx hb hts i_X1 hown hK hP 0 rfl rfl 2 (by decide) k_31 (fun _ h9 => h9) rfl dX1_read_43 ?_
    refine xr_zne_n (tgt := 53) hx hb (by omega) dX1_read_46 (by decide) (fun c_4 => ?_) (fun c_4 => ?_)
    · skip
      refine lv_iconst (v := (-1)) hx hb dX1_read_53 (by decide) ?_
      have hE : xdRn text (xdEntry (0, pt, dg, R)).2 le = (none, q) := by rw [← hq, show le = k from by omega]
      rw [show q = (xdRn text (xdEntry (0, pt, dg, R)).2 le).2 from by rw [hE]] at hP
      have hP9 : va_P (dC, dI) vwCl [(h0, .inr (1, [.int (nI ((xdRn text (xdEntry (0, pt, dg, R)).2 le).2.1)), .int (nI ((xdRn text (xdEntry (0, pt, dg, R)).2 le).2.2.1)), .int (nI ((xdRn text (xdEntry (0, pt, dg, R)).2 le).2.2.2.1)), .ref nq])), (nq, .inl (cQ, 3, .inr (.inr (.inr (.inr (xrow [nr0, nr1, nr2])))))), (nr0, .inl (cI, 16, .inl ((xdRn text (xdEntry (0, pt, dg, R)).2 le).2.2.2.2 0))), (nr1, .inl (cI, 16, .inl ((xdRn text (xdEntry (0, pt, dg, R)).2 le).2.2.2.2 1))), (nr2, .inl (cI, 16, .inl ((xdRn text (xdEntry (0, pt, dg, R)).2 le).2.2.2.2 2))), (tx, .inl (cC, 60, .inl text))] H := hP
      have hS9 : va_S (va_B [(h0, .inr (1, [.int (nI sz), .int (nI pt), .int (nI dg), .ref nq])), (nq, .inl (cQ, 3, .inr (.inr (.inr (.inr (xrow [nr0, nr1, nr2])))))), (nr0, .inl (cI, 16, .inl (R 0))), (nr1, .inl (cI, 16, .inl (R 1))), (nr2, .inl (cI, 16, .inl (R 2))), (tx, .inl (cC, 60, .inl text))]) s.heap H locs := by rw [← hA]; exact hS
      exact W.iret (v := (-1)) hx hb hr (fun t ht hW => ⟨⟨_, _, rfl, ⟨(show (-1) = xdFault (xdRn text (xdEntry (0, pt, dg, R)).2 le) le from (by unfold xdFault; rw [hE]; exact (if_neg (fun z => z.elim (Nat.ne_of_gt c_3) (Nat.ne_of_gt c_4))).symm)), rfl⟩, by rw [ht]; exact hP9⟩, hS9.X ht⟩) hS9.2.2 dX1_read_54
    refine lv_iload_n hx hb dX1_read_49 rfl (lv_at hl 3 rfl) ?_
    refine lv_goto (tgt := 54) hx hb dX1_read_50 (by decide) ?_
    have hE : xdRn text (xdEntry (0, pt, dg, R)).2 le = (none, q) := by rw [← hq, show le = k from by omega]
    rw [show q = (xdRn text (xdEntry (0, pt, dg, R)).2 le).2 from by rw [hE]] at hP
    have hP9 : va_P (dC, dI) vwCl [(h0, .inr (1, [.int (nI ((xdRn text (xdEntry (0, pt, dg, R)).2 le).2.1)), .int (nI ((xdRn text (xdEntry (0, pt, dg, R)).2 le).2.2.1)), .int (nI ((xdRn text (xdEntry (0, pt, dg, R)).2 le).2.2.2.1)), .ref nq])), (nq, .inl (cQ, 3, .inr (.inr (.inr (.inr (xrow [nr0, nr1, nr2])))))), (nr0, .inl (cI, 16, .inl ((xdRn text (xdEntry (0, pt, dg, R)).2 le).2.2.2.2 0))), (nr1, .inl (cI, 16, .inl ((xdRn text (xdEntry (0, pt, dg, R)).2 le).2.2.2.2 1))), (nr2, .inl (cI, 16, .inl ((xdRn text (xdEntry (0, pt, dg, R)).2 le).2.2.2.2 2))), (tx, .inl (cC, 60, .inl text))] H := hP
    have hS9 : va_S (va_B [(h0, .inr (1, [.int (nI sz), .int (nI pt), .int (nI dg), .ref nq])), (nq, .inl (cQ, 3, .inr (.inr (.inr (.inr (xrow [nr0, nr1, nr2])))))), (nr0, .inl (cI, 16, .inl (R 0))), (nr1, .inl (cI, 16, .inl (R 1))), (nr2, .inl (cI, 16, .inl (R 2))), (tx, .inl (cC, 60, .inl text))]) s.heap H locs := by rw [← hA]; exact hS
    exact W.iret (v := nI le) hx hb hr (fun t ht hW => ⟨⟨_, _, rfl, ⟨(show nI le = xdFault (xdRn text (xdEntry (0, pt, dg, R)).2 le) le from (by unfold xdFault; rw [hE]; exact (if_pos (Or.inr c_4)).symm)), rfl⟩, by rw [ht]; exact hP9⟩, hS9.X ht⟩) hS9.2.2 dX1_read_54
  refine lv_aload_n hx hb dX1_read_17 rfl (lv_at hl 1 rfl) ?_
  refine lv_aload_n hx hb dX1_read_18 rfl (lv_at hl 2 rfl) ?_
  refine lv_iload_n hx hb dX1_read_19 rfl (lv_at hl 0 rfl) ?_
  refine xr_cald hx hb hK hP 5 2 rfl rfl (i := k) (by omega) (by decide) dX1_read_20 ?_
  refine xkI2 (xV (As := [.int (text k)]) (rest := []) (wc := [(h0, .inr (1, [.int (nI q.1), .int (nI q.2.1), .int (nI q.2.2.1), .ref nq])), (nq, .inl (cQ, 3, .inr (.inr (.inr (.inr (xrow [nr0, nr1, nr2])))))), (nr0, .inl (cI, 16, .inl (q.2.2.2 0))), (nr1, .inl (cI, 16, .inl (q.2.2.2 1))), (nr2, .inl (cI, 16, .inl (q.2.2.2 2)))]) hx hb hml hown hts (c_X1_accepts l dC dI cI cF cC cZ cQ cS h0 nq q.2.2.2 nr0 nr1 nr2 q.1 q.2.1 q.2.2.1 (text k) hqi.1 hqi.2.1 hqi.2.2) 1 gX1_read_X1_accepts rfl rfl rfl hdV_X1_accepts ⟨Nat.le_of_ble_eq_true rfl, Nat.le_of_ble_eq_true rfl⟩ hN hK hP hD [0, 1, 2, 3, 4] rfl rfl 1 0 rfl rfl rfl hl.1 rfl (Nat.le_of_ble_eq_true rfl) dX1_read_21 ⟨Nat.zero_le _, Nat.zero_le _⟩) hP hD hS [0, 1, 2, 3, 4] [0, 1, 2, 3, 4, 5] rfl rfl 6 rfl (by decide +kernel) (fun H locs hP hD hS => ?_)
  have hP : va_P (dC, dI) vwCl [(h0, .inr (1, [.int (nI ((xdAcc (q.1, q.2.1, q.2.2.1, q.2.2.2) (text k)).2.1)), .int (nI ((xdAcc (q.1, q.2.1, q.2.2.1, q.2.2.2) (text k)).2.2.1)), .int (nI ((xdAcc (q.1, q.2.1, q.2.2.1, q.2.2.2) (text k)).2.2.2.1)), .ref nq])), (nq, .inl (cQ, 3, .inr (.inr (.inr (.inr (xrow [nr0, nr1, nr2])))))), (nr0, .inl (cI, 16, .inl ((xdAcc (q.1, q.2.1, q.2.2.1, q.2.2.2) (text k)).2.2.2.2 0))), (nr1, .inl (cI, 16, .inl ((xdAcc (q.1, q.2.1, q.2.2.1, q.2.2.2) (text k)).2.2.2.2 1))), (nr2, .inl (cI, 16, .inl ((xdAcc (q.1, q.2.1, q.2.2.1, q.2.2.2) (text k)).2.2.2.2 2))), (tx, .inl (cC, 60, .inl text))] H := hP
  have hD : va_D A [(h0, .inr (1, [.int (nI ((xdAcc (q.1, q.2.1, q.2.2.1, q.2.2.2) (text k)).2.1)), .int (nI ((xdAcc (q.1, q.2.1, q.2.2.1, q.2.2.2) (text k)).2.2.1)), .int (nI ((xdAcc (q.1, q.2.1, q.2.2.1, q.2.2.2) (text k)).2.2.2.1)), .ref nq])), (nq, .inl (cQ, 3, .inr (.inr (.inr (.inr (xrow [nr0, nr1, nr2])))))), (nr0, .inl (cI, 16, .inl ((xdAcc (q.1, q.2.1, q.2.2.1, q.2.2.2) (text k)).2.2.2.2 0))), (nr1, .inl (cI, 16, .inl ((xdAcc (q.1, q.2.1, q.2.2.1, q.2.2.2) (text k)).2.2.2.2 1))), (nr2, .inl (cI, 16, .inl ((xdAcc (q.1, q.2.1, q.2.2.1, q.2.2.2) (text k)).2.2.2.2 2))), (tx, .inl (cC, 60, .inl text))] := hD
  obtain ⟨r_5, hr_5⟩ : ∃ z9 : Int32, z9 = (if (xdAcc (q.1, q.2.1, q.2.2.1, q.2.2.2) (text k)).1 = true then nI 1 else nI 0) := ⟨_, rfl⟩
  refine xr_top hr_5.symm ?_
  rcases xi_ite inferInstance hr_5 with ⟨c_6, hr_5⟩ | ⟨c_6, hr_5⟩
  · subst hr_5
    refine xr_ifn1 (tgt := 29) hx hb (by decide) dX1_read_24 (by decide) ?_
    refine lv_iinc (v := nI (k + 1)) (lv' := [(3, .int (nI (k + 1))), (0, .ref h0), (1, .ref tx), (2, .int (nI le))]) hx hb dX1_read_29 hl (k := 0) rfl (nI_inc1 k) (by decide) rfl (fun ls hl => ?_)
    refine lv_goto (tgt := 12) hx hb dX1_read_32 (by decide) ?_
    exact ih_12 (le - (k + 1)) _ _ _ (show le - (k + 1) < le - k from by omega) ⟨(k + 1), ((xdAcc (q.1, q.2.1, q.2.2.1, q.2.2.2) (text k)).2.1, (xdAcc (q.1, q.2.1, q.2.2.1, q.2.2.2) (text k)).2.2.1, (xdAcc (q.1, q.2.1, q.2.2.1, q.2.2.2) (text k)).2.2.2.1, ((xdAcc (q.1, q.2.1, q.2.2.1, q.2.2.2) (text k)).2.2.2.2)), ls, rfl, rfl, lv_sub hl [0, 1, 2, 3] rfl, hP, hD, hS, (by omega), (xdI_step hqi (text k)), (xdRn_ok hq c_6)⟩
  subst hr_5
  refine xr_ifn0 (tgt := 29) hx hb (by decide) dX1_read_24 (by decide) ?_
  refine lv_iload_n hx hb dX1_read_27 rfl (lv_at hl 0 rfl) ?_
  have hE : xdRn text (xdEntry (0, pt, dg, R)).2 le = (some k, (xdAcc q (text k)).2) := xdRn_fault hq (by simpa using c_6) (by omega)
  rw [show (xdAcc (q.1, q.2.1, q.2.2.1, q.2.2.2) (text k)).2 = (xdRn text (xdEntry (0, pt, dg, R)).2 le).2 from by rw [hE]] at hP
  have hP9 : va_P (dC, dI) vwCl [(h0, .inr (1, [.int (nI ((xdRn text (xdEntry (0, pt, dg, R)).2 le).2.1)), .int (nI ((xdRn text (xdEntry (0, pt, dg, R)).2 le).2.2.1)), .int (nI ((xdRn text (xdEntry (0, pt, dg, R)).2 le).2.2.2.1)), .ref nq])), (nq, .inl (cQ, 3, .inr (.inr (.inr (.inr (xrow [nr0, nr1, nr2])))))), (nr0, .inl (cI, 16, .inl ((xdRn text (xdEntry (0, pt, dg, R)).2 le).2.2.2.2 0))), (nr1, .inl (cI, 16, .inl ((xdRn text (xdEntry (0, pt, dg, R)).2 le).2.2.2.2 1))), (nr2, .inl (cI, 16, .inl ((xdRn text (xdEntry (0, pt, dg, R)).2 le).2.2.2.2 2))), (tx, .inl (cC, 60, .inl text))] H := hP
  have hS9 : va_S (va_B [(h0, .inr (1, [.int (nI sz), .int (nI pt), .int (nI dg), .ref nq])), (nq, .inl (cQ, 3, .inr (.inr (.inr (.inr (xrow [nr0, nr1, nr2])))))), (nr0, .inl (cI, 16, .inl (R 0))), (nr1, .inl (cI, 16, .inl (R 1))), (nr2, .inl (cI, 16, .inl (R 2))), (tx, .inl (cC, 60, .inl text))]) s.heap H locs := by rw [← hA]; exact hS
  exact W.iret (v := nI k) hx hb hr (fun t ht hW => ⟨⟨_, _, rfl, ⟨(show nI k = xdFault (xdRn text (xdEntry (0, pt, dg, R)).2 le) le from (by unfold xdFault; rw [hE])), rfl⟩, by rw [ht]; exact hP9⟩, hS9.X ht⟩) hS9.2.2 dX1_read_28
