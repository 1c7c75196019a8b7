theorem hdV_X6_append : yX6_append.cls = RX6 ∧ yX6_append.cls ≠ "java/lang/invoke/MethodHandle" ∧ yX6_append.cls ≠ "java/lang/invoke/VarHandle" ∧ (parseMethodDescriptor yX6_append.desc).map (fun d => d.parameters.length) = some 5 := by decide +kernel
set_option maxHeartbeats 4000000 in
set_option maxRecDepth 100000 in
theorem c_X6_append (l : Launch) (dC : Nat → ClassId) (dI : Nat → Nat → Nat) (cI cF cC cZ cQ cS : ClassId) (h0 : Nat) (qgood : Nat) (qwanted : Nat) (h0_got : Value) (h0_replaced : Value) (qleast : Nat) (qaccepts : Nat) (h0_parts : Value) (h0_due : Value) (qday : Nat) (qfirstTake : Nat) (h0_takeBatch : Value) (h0_takeUnits : Value) (good : Nat → Int32) (wanted : Nat → Int32) (least : Nat → Int32) (accepts : Nat → Int32) (day : Nat → Int32) (firstTake : Nat → Int32) (n : Nat) (tk : Nat) (og : Int32) (un : Int32) (le : Int32) (sb : Int32) (td : Int32) (hn : n < 30) : Met l yX6_append wsX6_append ({ frames := 0, cells := 0, slots := 0, locals := 0 }) (xPre (dC, dI) vwCl [.ref h0, .int og, .int un, .int le, .int sb, .int td] (xtys cI cF cC cZ cQ cS) [(h0, .inr (6, [.int (nI n), .int (nI tk), .ref qgood, .ref qwanted, h0_got, h0_replaced, .ref qleast, .ref qaccepts, h0_parts, h0_due, .ref qday, .ref qfirstTake, h0_takeBatch, h0_takeUnits])), (qgood, .inl (cI, 30, .inl good)), (qwanted, .inl (cI, 30, .inl wanted)), (qleast, .inl (cI, 30, .inl least)), (qaccepts, .inl (cI, 30, .inl accepts)), (qday, .inl (cI, 30, .inl day)), (qfirstTake, .inl (cI, 30, .inl firstTake))]) (xWv (dC, dI) vwCl [(h0, .inr (6, [.int (nI n), .int (nI tk), .ref qgood, .ref qwanted, h0_got, h0_replaced, .ref qleast, .ref qaccepts, h0_parts, h0_due, .ref qday, .ref qfirstTake, h0_takeBatch, h0_takeUnits])), (qgood, .inl (cI, 30, .inl good)), (qwanted, .inl (cI, 30, .inl wanted)), (qleast, .inl (cI, 30, .inl least)), (qaccepts, .inl (cI, 30, .inl accepts)), (qday, .inl (cI, 30, .inl day)), (qfirstTake, .inl (cI, 30, .inl firstTake))] (fun w0 => w0 = [(h0, .inr (6, [.int (nI (n + 1)), .int (nI tk), .ref qgood, .ref qwanted, h0_got, h0_replaced, .ref qleast, .ref qaccepts, h0_parts, h0_due, .ref qday, .ref qfirstTake, h0_takeBatch, h0_takeUnits])), (qgood, .inl (cI, 30, .inl (upd good n og))), (qwanted, .inl (cI, 30, .inl (upd wanted n un))), (qleast, .inl (cI, 30, .inl (upd least n le))), (qaccepts, .inl (cI, 30, .inl (upd accepts n (if sb = 0 then nI 0 else nI 1)))), (qday, .inl (cI, 30, .inl (upd day n td))), (qfirstTake, .inl (cI, 30, .inl (upd firstTake n (nI tk))))])) 0 0 (va_B [(h0, .inr (6, [.int (nI n), .int (nI tk), .ref qgood, .ref qwanted, h0_got, h0_replaced, .ref qleast, .ref qaccepts, h0_parts, h0_due, .ref qday, .ref qfirstTake, h0_takeBatch, h0_takeUnits])), (qgood, .inl (cI, 30, .inl good)), (qwanted, .inl (cI, 30, .inl wanted)), (qleast, .inl (cI, 30, .inl least)), (qaccepts, .inl (cI, 30, .inl accepts)), (qday, .inl (cI, 30, .inl day)), (qfirstTake, .inl (cI, 30, .inl firstTake))]) := by
  refine Met.ofW (cc := cX6_append) (maxL := 7) (ret := none) (by decide) rfl ?_
  intro p e s m args below meth c s₁ B hml hv
  obtain ⟨rfl, hP, hK, hD0, hN⟩ := hv
  have hx := B.exec
  have hb := B.bytes
  have hr := B.returns
  have hts := atoms_spec (ws := wsX6_append) B.pre
  have hown : s.vm.findClass RX6 = some m.cls := findClass_of_methodNamed B.named
  have hlocks := B.notSynchronized
  have k_15 := hts (Cond.fieldLink RX6 15 "ShelfStages$Orders" "wanted" "[I") (by decide +kernel)
  have k_24 := hts (Cond.fieldLink RX6 24 "ShelfStages$Orders" "least" "[I") (by decide +kernel)
  have k_27 := hts (Cond.fieldLink RX6 27 "ShelfStages$Orders" "accepts" "[I") (by decide +kernel)
  have k_36 := hts (Cond.fieldLink RX6 36 "ShelfStages$Orders" "day" "[I") (by decide +kernel)
  have k_39 := hts (Cond.fieldLink RX6 39 "ShelfStages$Orders" "firstTake" "[I") (by decide +kernel)
  have k_48 := hts (Cond.fieldLink RX6 48 "ShelfStages$Orders" "size" "I") (by decide +kernel)
  have k_52 := hts (Cond.fieldLink RX6 52 "ShelfStages$Orders" "takes" "I") (by decide +kernel)
  have k_9 := hts (Cond.fieldLink RX6 9 "ShelfStages$Orders" "good" "[I") (by decide +kernel)
  have i_X6 : ∀ w ∈ wsX60, w ∈ wsX6_append := by decide +kernel
  obtain ⟨A, hA⟩ : ∃ A, A = va_B [(h0, .inr (6, [.int (nI n), .int (nI tk), .ref qgood, .ref qwanted, h0_got, h0_replaced, .ref qleast, .ref qaccepts, h0_parts, h0_due, .ref qday, .ref qfirstTake, h0_takeBatch, h0_takeUnits])), (qgood, .inl (cI, 30, .inl good)), (qwanted, .inl (cI, 30, .inl wanted)), (qleast, .inl (cI, 30, .inl least)), (qaccepts, .inl (cI, 30, .inl accepts)), (qday, .inl (cI, 30, .inl day)), (qfirstTake, .inl (cI, 30, .inl firstTake))] := ⟨_, rfl⟩
  have hD : va_D A [(h0, .inr (6, [.int (nI n), .int (nI tk), .ref qgood, .ref qwanted, h0_got, h0_replaced, .ref qleast, .ref qaccepts, h0_parts, h0_due, .ref qday, .ref qfirstTake, h0_takeBatch, h0_takeUnits])), (qgood, .inl (cI, 30, .inl good)), (qwanted, .inl (cI, 30, .inl wanted)), (qleast, .inl (cI, 30, .inl least)), (qaccepts, .inl (cI, 30, .inl accepts)), (qday, .inl (cI, 30, .inl day)), (qfirstTake, .inl (cI, 30, .inl firstTake))] := hA ▸ hD0.own
  have hS : va_S A s.heap s.heap [] := va_S.rf
  have hl := lv_entry ([.ref h0, .int og, .int un, .int le, .int sb, .int td]) (n := 7) (Nat.le_of_ble_eq_true rfl)
  rw [lg_entry_eq]
  generalize (lg_sl ([.ref h0, .int og, .int un, .int le, .int sb, .int td]) ++ List.replicate (7 - (lg_sl ([.ref h0, .int og, .int un, .int le, .int sb, .int td])).length) Slot.unset).toArray = ls at hl ⊢
  have hl : lv_has ls 7 [(0, .ref h0), (1, .int og), (2, .int un), (3, .int le), (4, .int sb), (5, .int td)] := hl
  refine lv_aload_n hx hb dX6_append_0 rfl (lv_at hl 0 rfl) ?_
  refine va_get (D := (dC, dI)) (ci := 6) (v := .int (nI n)) (C := RX6) (T := TX6) (N := 14) hx hb hts i_X6 hown hK hP 0 rfl rfl 0 (by decide) k_48 (fun _ h9 => h9) rfl dX6_append_1 ?_
  refine lv_istore (lv' := [(6, .int (nI n)), (0, .ref h0), (1, .int og), (2, .int un), (3, .int le), (4, .int sb), (5, .int td)]) hx hb dX6_append_4 hl (by decide) rfl (fun ls hl => ?_)
  refine lv_aload_n hx hb dX6_append_6 rfl (lv_at hl 1 rfl) ?_
  refine va_get (D := (dC, dI)) (ci := 6) (v := .ref qgood) (C := RX6) (T := TX6) (N := 14) hx hb hts i_X6 hown hK hP 0 rfl rfl 2 (by decide) k_9 (fun _ h9 => h9) rfl dX6_append_7 ?_
  refine lv_iload hx hb dX6_append_10 (lv_at hl 0 rfl) ?_
  refine lv_iload_n hx hb dX6_append_12 rfl (lv_at hl 2 rfl) ?_
  refine xr_iast hx hb hK hP hD hS 1 0 rfl rfl (i := n) (by omega) (by decide) dX6_append_13 (fun H locs hP hD hS => ?_)
  have hP : va_P (dC, dI) vwCl [(h0, .inr (6, [.int (nI n), .int (nI tk), .ref qgood, .ref qwanted, h0_got, h0_replaced, .ref qleast, .ref qaccepts, h0_parts, h0_due, .ref qday, .ref qfirstTake, h0_takeBatch, h0_takeUnits])), (qgood, .inl (cI, 30, .inl (upd good n og))), (qwanted, .inl (cI, 30, .inl wanted)), (qleast, .inl (cI, 30, .inl least)), (qaccepts, .inl (cI, 30, .inl accepts)), (qday, .inl (cI, 30, .inl day)), (qfirstTake, .inl (cI, 30, .inl firstTake))] H := hP
  have hD : va_D A [(h0, .inr (6, [.int (nI n), .int (nI tk), .ref qgood, .ref qwanted, h0_got, h0_replaced, .ref qleast, .ref qaccepts, h0_parts, h0_due, .ref qday, .ref qfirstTake, h0_takeBatch, h0_takeUnits])), (qgood, .inl (cI, 30, .inl (upd good n og))), (qwanted, .inl (cI, 30, .inl wanted)), (qleast, .inl (cI, 30, .inl least)), (qaccepts, .inl (cI, 30, .inl accepts)), (qday, .inl (cI, 30, .inl day)), (qfirstTake, .inl (cI, 30, .inl firstTake))] := hD
  refine lv_aload_n hx hb dX6_append_14 rfl (lv_at hl 1 rfl) ?_
  refine va_get (D := (dC, dI)) (ci := 6) (v := .ref qwanted) (C := RX6) (T := TX6) (N := 14) hx hb hts i_X6 hown hK hP 0 rfl rfl 3 (by decide) k_15 (fun _ h9 => h9) rfl dX6_append_15 ?_
  refine lv_iload hx hb dX6_append_18 (lv_at hl 0 rfl) ?_
  refine lv_iload_n hx hb dX6_append_20 rfl (lv_at hl 3 rfl) ?_
  refine xr_iast hx hb hK hP hD hS 2 0 rfl rfl (i := n) (by omega) (by decide) dX6_append_21 (fun H locs hP hD hS => ?_)
  have hP : va_P (dC, dI) vwCl [(h0, .inr (6, [.int (nI n), .int (nI tk), .ref qgood, .ref qwanted, h0_got, h0_replaced, .ref qleast, .ref qaccepts, h0_parts, h0_due, .ref qday, .ref qfirstTake, h0_takeBatch, h0_takeUnits])), (qgood, .inl (cI, 30, .inl (upd good n og))), (qwanted, .inl (cI, 30, .inl (upd wanted n un))), (qleast, .inl (cI, 30, .inl least)), (qaccepts, .inl (cI, 30, .inl accepts)), (qday, .inl (cI, 30, .inl day)), (qfirstTake, .inl (cI, 30, .inl firstTake))] H := hP
  have hD : va_D A [(h0, .inr (6, [.int (nI n), .int (nI tk), .ref qgood, .ref qwanted, h0_got, h0_replaced, .ref qleast, .ref qaccepts, h0_parts, h0_due, .ref qday, .ref qfirstTake, h0_takeBatch, h0_takeUnits])), (qgood, .inl (cI, 30, .inl (upd good n og))), (qwanted, .inl (cI, 30, .inl (upd wanted n un))), (qleast, .inl (cI, 30, .inl least)), (qaccepts, .inl (cI, 30, .inl accepts)), (qday, .inl (cI, 30, .inl day)), (qfirstTake, .inl (cI, 30, .inl firstTake))] := hD
  refine lv_aload_n hx hb dX6_append_22 rfl (lv_at hl 1 rfl) ?_
  refine va_get (D := (dC, dI)) (ci := 6) (v := .ref qleast) (C := RX6) (T := TX6) (N := 14) hx hb hts i_X6 hown hK hP 0 rfl rfl 6 (by decide) k_24 (fun _ h9 => h9) rfl dX6_append_23 ?_
  refine lv_iload hx hb dX6_append_26 (lv_at hl 0 rfl) ?_
  refine lv_iload_n hx hb dX6_append_28 rfl (lv_at hl 4 rfl) ?_
  refine xr_iast hx hb hK hP hD hS 3 0 rfl rfl (i := n) (by omega) (by decide) dX6_append_29 (fun H locs hP hD hS => ?_)
  have hP : va_P (dC, dI) vwCl [(h0, .inr (6, [.int (nI n), .int (nI tk), .ref qgood, .ref qwanted, h0_got, h0_replaced, .ref qleast, .ref qaccepts, h0_parts, h0_due, .ref qday, .ref qfirstTake, h0_takeBatch, h0_takeUnits])), (qgood, .inl (cI, 30, .inl (upd good n og))), (qwanted, .inl (cI, 30, .inl (upd wanted n un))), (qleast, .inl (cI, 30, .inl (upd least n le))), (qaccepts, .inl (cI, 30, .inl accepts)), (qday, .inl (cI, 30, .inl day)), (qfirstTake, .inl (cI, 30, .inl firstTake))] H := hP
  have hD : va_D A [(h0, .inr (6, [.int (nI n), .int (nI tk), .ref qgood, .ref qwanted, h0_got, h0_replaced, .ref qleast, .ref qaccepts, h0_parts, h0_due, .ref qday, .ref qfirstTake, h0_takeBatch, h0_takeUnits])), (qgood, .inl (cI, 30, .inl (upd good n og))), (qwanted, .inl (cI, 30, .inl (upd wanted n un))), (qleast, .inl (cI, 30, .inl (upd least n le))), (qaccepts, .inl (cI, 30, .inl accepts)), (qday, .inl (cI, 30, .inl day)), (qfirstTake, .inl (cI, 30, .inl firstTake))] := hD
  refine lv_aload_n hx hb dX6_append_30 rfl (lv_at hl 1 rfl) ?_
  refine va_get (D := (dC, dI)) (ci := 6) (v := .ref qaccepts) (C := RX6) (T := TX6) (N := 14) hx hb hts i_X6 hown hK hP 0 rfl rfl 7 (by decide) k_27 (fun _ h9 => h9) rfl dX6_append_31 ?_
  refine lv_iload hx hb dX6_append_34 (lv_at hl 0 rfl) ?_
  refine xr_cut (g2 := F0 m 46 ls [.int (if sb = 0 then nI 0 else nI 1), .int (nI n), .ref qaccepts]) (fun kj_1 => ?_) ?_
  · skip
    refine lv_iload hx hb dX6_append_36 (lv_at hl 5 rfl) ?_
    refine lv_if_eq (tgt := 45) hx hb dX6_append_38 (by decide) (fun c_2 => ?_) (fun c_2 => ?_)
    · skip
      refine lv_iconst (v := nI 0) hx hb dX6_append_45 (by decide) ?_
      refine xr_top (show nI 0 = if sb = 0 then nI 0 else nI 1 from (if_pos c_2).symm) ?_
      exact kj_1
    refine lv_iconst (v := nI 1) hx hb dX6_append_41 (by decide) ?_
    refine lv_goto (tgt := 46) hx hb dX6_append_42 (by decide) ?_
    refine xr_top (show nI 1 = if sb = 0 then nI 0 else nI 1 from (if_neg c_2).symm) ?_
    exact kj_1
  refine xr_iast hx hb hK hP hD hS 4 0 rfl rfl (i := n) (by omega) (by decide) dX6_append_46 (fun H locs hP hD hS => ?_)
  have hP : va_P (dC, dI) vwCl [(h0, .inr (6, [.int (nI n), .int (nI tk), .ref qgood, .ref qwanted, h0_got, h0_replaced, .ref qleast, .ref qaccepts, h0_parts, h0_due, .ref qday, .ref qfirstTake, h0_takeBatch, h0_takeUnits])), (qgood, .inl (cI, 30, .inl (upd good n og))), (qwanted, .inl (cI, 30, .inl (upd wanted n un))), (qleast, .inl (cI, 30, .inl (upd least n le))), (qaccepts, .inl (cI, 30, .inl (upd accepts n (if sb = 0 then nI 0 else nI 1)))), (qday, .inl (cI, 30, .inl day)), (qfirstTake, .inl (cI, 30, .inl firstTake))] H := hP
  have hD : va_D A [(h0, .inr (6, [.int (nI n), .int (nI tk), .ref qgood, .ref qwanted, h0_got, h0_replaced, .ref qleast, .ref qaccepts, h0_parts, h0_due, .ref qday, .ref qfirstTake, h0_takeBatch, h0_takeUnits])), (qgood, .inl (cI, 30, .inl (upd good n og))), (qwanted, .inl (cI, 30, .inl (upd wanted n un))), (qleast, .inl (cI, 30, .inl (upd least n le))), (qaccepts, .inl (cI, 30, .inl (upd accepts n (if sb = 0 then nI 0 else nI 1)))), (qday, .inl (cI, 30, .inl day)), (qfirstTake, .inl (cI, 30, .inl firstTake))] := hD
  refine lv_aload_n hx hb dX6_append_47 rfl (lv_at hl 1 rfl) ?_
  refine va_get (D := (dC, dI)) (ci := 6) (v := .ref qday) (C := RX6) (T := TX6) (N := 14) hx hb hts i_X6 hown hK hP 0 rfl rfl 10 (by decide) k_36 (fun _ h9 => h9) rfl dX6_append_48 ?_
  refine lv_iload hx hb dX6_append_51 (lv_at hl 0 rfl) ?_
  refine lv_iload hx hb dX6_append_53 (lv_at hl 6 rfl) ?_
  refine xr_iast hx hb hK hP hD hS 5 0 rfl rfl (i := n) (by omega) (by decide) dX6_append_55 (fun H locs hP hD hS => ?_)
  have hP : va_P (dC, dI) vwCl [(h0, .inr (6, [.int (nI n), .int (nI tk), .ref qgood, .ref qwanted, h0_got, h0_replaced, .ref qleast, .ref qaccepts, h0_parts, h0_due, .ref qday, .ref qfirstTake, h0_takeBatch, h0_takeUnits])), (qgood, .inl (cI, 30, .inl (upd good n og))), (qwanted, .inl (cI, 30, .inl (upd wanted n un))), (qleast, .inl (cI, 30, .inl (upd least n le))), (qaccepts, .inl (cI, 30, .inl (upd accepts n (if sb = 0 then nI 0 else nI 1)))), (qday, .inl (cI, 30, .inl (upd day n td))), (qfirstTake, .inl (cI, 30, .inl firstTake))] H := hP
  have hD : va_D A [(h0, .inr (6, [.int (nI n), .int (nI tk), .ref qgood, .ref qwanted, h0_got, h0_replaced, .ref qleast, .ref qaccepts, h0_parts, h0_due, .ref qday, .ref qfirstTake, h0_takeBatch, h0_takeUnits])), (qgood, .inl (cI, 30, .inl (upd good n og))), (qwanted, .inl (cI, 30, .inl (upd wanted n un))), (qleast, .inl (cI, 30, .inl (upd least n le))), (qaccepts, .inl (cI, 30, .inl (upd accepts n (if sb = 0 then nI 0 else nI 1)))), (qday, .inl (cI, 30, .inl (upd day n td))), (qfirstTake, .inl (cI, 30, .inl firstTake))] := hD
  refine lv_aload_n hx hb dX6_append_56 rfl (lv_at hl 1 rfl) ?_
  refine va_get (D := (dC, dI)) (ci := 6) (v := .ref qfirstTake) (C := RX6) (T := TX6) (N := 14) hx hb hts i_X6 hown hK hP 0 rfl rfl 11 (by decide) k_39 (fun _ h9 => h9) rfl dX6_append_57 ?_
  refine lv_iload hx hb dX6_append_60 (lv_at hl 0 rfl) ?_
  refine lv_aload_n hx hb dX6_append_62 rfl (lv_at hl 1 rfl) ?_
  refine va_get (D := (dC, dI)) (ci := 6) (v := .int (nI tk)) (C := RX6) (T := TX6) (N := 14) hx hb hts i_X6 hown hK hP 0 rfl rfl 1 (by decide) k_52 (fun _ h9 => h9) rfl dX6_append_63 ?_
  refine xr_iast hx hb hK hP hD hS 6 0 rfl rfl (i := n) (by omega) (by decide) dX6_append_66 (fun H locs hP hD hS => ?_)
  have hP : va_P (dC, dI) vwCl [(h0, .inr (6, [.int (nI n), .int (nI tk), .ref qgood, .ref qwanted, h0_got, h0_replaced, .ref qleast, .ref qaccepts, h0_parts, h0_due, .ref qday, .ref qfirstTake, h0_takeBatch, h0_takeUnits])), (qgood, .inl (cI, 30, .inl (upd good n og))), (qwanted, .inl (cI, 30, .inl (upd wanted n un))), (qleast, .inl (cI, 30, .inl (upd least n le))), (qaccepts, .inl (cI, 30, .inl (upd accepts n (if sb = 0 then nI 0 else nI 1)))), (qday, .inl (cI, 30, .inl (upd day n td))), (qfirstTake, .inl (cI, 30, .inl (upd firstTake n (nI tk))))] H := hP
  have hD : va_D A [(h0, .inr (6, [.int (nI n), .int (nI tk), .ref qgood, .ref qwanted, h0_got, h0_replaced, .ref qleast, .ref qaccepts, h0_parts, h0_due, .ref qday, .ref qfirstTake, h0_takeBatch, h0_takeUnits])), (qgood, .inl (cI, 30, .inl (upd good n og))), (qwanted, .inl (cI, 30, .inl (upd wanted n un))), (qleast, .inl (cI, 30, .inl (upd least n le))), (qaccepts, .inl (cI, 30, .inl (upd accepts n (if sb = 0 then nI 0 else nI 1)))), (qday, .inl (cI, 30, .inl (upd day n td))), (qfirstTake, .inl (cI, 30, .inl (upd firstTake n (nI tk))))] := hD
  refine lv_aload_n hx hb dX6_append_67 rfl (lv_at hl 1 rfl) ?_
  refine lv_dup hx hb dX6_append_68 rfl ?_
  refine va_get (D := (dC, dI)) (ci := 6) (v := .int (nI n)) (C := RX6) (T := TX6) (N := 14) hx hb hts i_X6 hown hK hP 0 rfl rfl 0 (by decide) k_48 (fun _ h9 => h9) rfl dX6_append_69 ?_
  refine lv_iconst (v := nI 1) hx hb dX6_append_72 (by decide) ?_
  refine xr_iadd_n hx hb dX6_append_73 ?_
  refine va_put (D := (dC, dI)) (ci := 6) (v := .int (nI (n + 1))) (ty := .int) (C := RX6) (T := TX6) (N := 14) hx hb hts i_X6 tyX6 tyX6_ok nmX6 hown hK hP hD hS 0 rfl rfl 0 (by decide) k_48 (fun _ h9 => h9) rfl (by decide +kernel) rfl rfl (Nat.le_of_ble_eq_true rfl) dX6_append_74 (fun H locs hP hD hS => ?_)
  have hP : va_P (dC, dI) vwCl [(h0, .inr (6, [.int (nI (n + 1)), .int (nI tk), .ref qgood, .ref qwanted, h0_got, h0_replaced, .ref qleast, .ref qaccepts, h0_parts, h0_due, .ref qday, .ref qfirstTake, h0_takeBatch, h0_takeUnits])), (qgood, .inl (cI, 30, .inl (upd good n og))), (qwanted, .inl (cI, 30, .inl (upd wanted n un))), (qleast, .inl (cI, 30, .inl (upd least n le))), (qaccepts, .inl (cI, 30, .inl (upd accepts n (if sb = 0 then nI 0 else nI 1)))), (qday, .inl (cI, 30, .inl (upd day n td))), (qfirstTake, .inl (cI, 30, .inl (upd firstTake n (nI tk))))] H := hP
  have hD : va_D A [(h0, .inr (6, [.int (nI (n + 1)), .int (nI tk), .ref qgood, .ref qwanted, h0_got, h0_replaced, .ref qleast, .ref qaccepts, h0_parts, h0_due, .ref qday, .ref qfirstTake, h0_takeBatch, h0_takeUnits])), (qgood, .inl (cI, 30, .inl (upd good n og))), (qwanted, .inl (cI, 30, .inl (upd wanted n un))), (qleast, .inl (cI, 30, .inl (upd least n le))), (qaccepts, .inl (cI, 30, .inl (upd accepts n (if sb = 0 then nI 0 else nI 1)))), (qday, .inl (cI, 30, .inl (upd day n td))), (qfirstTake, .inl (cI, 30, .inl (upd firstTake n (nI tk))))] := hD
  have hP9 : va_P (dC, dI) vwCl [(h0, .inr (6, [.int (nI (n + 1)), .int (nI tk), .ref qgood, .ref qwanted, h0_got, h0_replaced, .ref qleast, .ref qaccepts, h0_parts, h0_due, .ref qday, .ref qfirstTake, h0_takeBatch, h0_takeUnits])), (qgood, .inl (cI, 30, .inl (upd good n og))), (qwanted, .inl (cI, 30, .inl (upd wanted n un))), (qleast, .inl (cI, 30, .inl (upd least n le))), (qaccepts, .inl (cI, 30, .inl (upd accepts n (if sb = 0 then nI 0 else nI 1)))), (qday, .inl (cI, 30, .inl (upd day n td))), (qfirstTake, .inl (cI, 30, .inl (upd firstTake n (nI tk))))] H := hP
  have hS9 : va_S (va_B [(h0, .inr (6, [.int (nI n), .int (nI tk), .ref qgood, .ref qwanted, h0_got, h0_replaced, .ref qleast, .ref qaccepts, h0_parts, h0_due, .ref qday, .ref qfirstTake, h0_takeBatch, h0_takeUnits])), (qgood, .inl (cI, 30, .inl good)), (qwanted, .inl (cI, 30, .inl wanted)), (qleast, .inl (cI, 30, .inl least)), (qaccepts, .inl (cI, 30, .inl accepts)), (qday, .inl (cI, 30, .inl day)), (qfirstTake, .inl (cI, 30, .inl firstTake))]) s.heap H locs := by rw [← hA]; exact hS
  exact W.vret hx hb hr (fun t ht hW => ⟨⟨_, rfl, rfl, by rw [ht]; exact hP9⟩, hS9.X ht⟩) hS9.2.2 dX6_append_77
theorem hdV_X6_appendTake : yX6_appendTake.cls = RX6 ∧ yX6_appendTake.cls ≠ "java/lang/invoke/MethodHandle" ∧ yX6_appendTake.cls ≠ "java/lang/invoke/VarHandle" ∧ (parseMethodDescriptor yX6_appendTake.desc).map (fun d => d.parameters.length) = some 2 := by decide +kernel
set_option maxHeartbeats 4000000 in
set_option maxRecDepth 100000 in
theorem c_X6_appendTake (l : Launch) (dC : Nat → ClassId) (dI : Nat → Nat → Nat) (cI cF cC cZ cQ cS : ClassId) (h0 : Nat) (h0_good : Value) (h0_wanted : Value) (h0_got : Value) (h0_replaced : Value) (h0_least : Value) (h0_accepts : Value) (qparts : Nat) (h0_due : Value) (h0_day : Value) (h0_firstTake : Value) (qtakeBatch : Nat) (qtakeUnits : Nat) (parts : Nat → Int32) (takeBatch : Nat → Int32) (takeUnits : Nat → Int32) (n : Nat) (tk : Nat) (vb : Int32) (un : Int32) (hn : 0 < n ∧ n ≤ 30) (htk : tk < 70) : Met l yX6_appendTake wsX6_appendTake ({ frames := 0, cells := 0, slots := 0, locals := 0 }) (xPre (dC, dI) vwCl [.ref h0, .int vb, .int un] (xtys cI cF cC cZ cQ cS) [(h0, .inr (6, [.int (nI n), .int (nI tk), h0_good, h0_wanted, h0_got, h0_replaced, h0_least, h0_accepts, .ref qparts, h0_due, h0_day, h0_firstTake, .ref qtakeBatch, .ref qtakeUnits])), (qparts, .inl (cI, 30, .inl parts)), (qtakeBatch, .inl (cI, 70, .inl takeBatch)), (qtakeUnits, .inl (cI, 70, .inl takeUnits))]) (xWv (dC, dI) vwCl [(h0, .inr (6, [.int (nI n), .int (nI tk), h0_good, h0_wanted, h0_got, h0_replaced, h0_least, h0_accepts, .ref qparts, h0_due, h0_day, h0_firstTake, .ref qtakeBatch, .ref qtakeUnits])), (qparts, .inl (cI, 30, .inl parts)), (qtakeBatch, .inl (cI, 70, .inl takeBatch)), (qtakeUnits, .inl (cI, 70, .inl takeUnits))] (fun w0 => w0 = [(h0, .inr (6, [.int (nI n), .int (nI (tk + 1)), h0_good, h0_wanted, h0_got, h0_replaced, h0_least, h0_accepts, .ref qparts, h0_due, h0_day, h0_firstTake, .ref qtakeBatch, .ref qtakeUnits])), (qparts, .inl (cI, 30, .inl (upd parts (n - 1) (parts (n - 1) + nI 1)))), (qtakeBatch, .inl (cI, 70, .inl (upd takeBatch tk vb))), (qtakeUnits, .inl (cI, 70, .inl (upd takeUnits tk un)))])) 0 0 (va_B [(h0, .inr (6, [.int (nI n), .int (nI tk), h0_good, h0_wanted, h0_got, h0_replaced, h0_least, h0_accepts, .ref qparts, h0_due, h0_day, h0_firstTake, .ref qtakeBatch, .ref qtakeUnits])), (qparts, .inl (cI, 30, .inl parts)), (qtakeBatch, .inl (cI, 70, .inl takeBatch)), (qtakeUnits, .inl (cI, 70, .inl takeUnits))]) := by
  refine Met.ofW (cc := cX6_appendTake) (maxL := 3) (ret := none) (by decide) rfl ?_
  intro p e s m args below meth c s₁ B hml hv
  obtain ⟨rfl, hP, hK, hD0, hN⟩ := hv
  have hx := B.exec
  have hb := B.bytes
  have hr := B.returns
  have hts := atoms_spec (ws := wsX6_appendTake) B.pre
  have hown : s.vm.findClass RX6 = some m.cls := findClass_of_methodNamed B.named
  have hlocks := B.notSynchronized
  have k_30 := hts (Cond.fieldLink RX6 30 "ShelfStages$Orders" "parts" "[I") (by decide +kernel)
  have k_42 := hts (Cond.fieldLink RX6 42 "ShelfStages$Orders" "takeBatch" "[I") (by decide +kernel)
  have k_45 := hts (Cond.fieldLink RX6 45 "ShelfStages$Orders" "takeUnits" "[I") (by decide +kernel)
  have k_48 := hts (Cond.fieldLink RX6 48 "ShelfStages$Orders" "size" "I") (by decide +kernel)
  have k_52 := hts (Cond.fieldLink RX6 52 "ShelfStages$Orders" "takes" "I") (by decide +kernel)
  have i_X6 : ∀ w ∈ wsX60, w ∈ wsX6_appendTake := by decide +kernel
  obtain ⟨A, hA⟩ : ∃ A, A = va_B [(h0, .inr (6, [.int (nI n), .int (nI tk), h0_good, h0_wanted, h0_got, h0_replaced, h0_least, h0_accepts, .ref qparts, h0_due, h0_day, h0_firstTake, .ref qtakeBatch, .ref qtakeUnits])), (qparts, .inl (cI, 30, .inl parts)), (qtakeBatch, .inl (cI, 70, .inl takeBatch)), (qtakeUnits, .inl (cI, 70, .inl takeUnits))] := ⟨_, rfl⟩
  have hD : va_D A [(h0, .inr (6, [.int (nI n), .int (nI tk), h0_good, h0_wanted, h0_got, h0_replaced, h0_least, h0_accepts, .ref qparts, h0_due, h0_day, h0_firstTake, .ref qtakeBatch, .ref qtakeUnits])), (qparts, .inl (cI, 30, .inl parts)), (qtakeBatch, .inl (cI, 70, .inl takeBatch)), (qtakeUnits, .inl (cI, 70, .inl takeUnits))] := hA ▸ hD0.own
  have hS : va_S A s.heap s.heap [] := va_S.rf
  have hl := lv_entry ([.ref h0, .int vb, .int un]) (n := 3) (Nat.le_of_ble_eq_true rfl)
  rw [lg_entry_eq]
  generalize (lg_sl ([.ref h0, .int vb, .int un]) ++ List.replicate (3 - (lg_sl ([.ref h0, .int vb, .int un])).length) Slot.unset).toArray = ls at hl ⊢
  have hl : lv_has ls 3 [(0, .ref h0), (1, .int vb), (2, .int un)] := hl
  refine lv_aload_n hx hb dX6_appendTake_0 rfl (lv_at hl 0 rfl) ?_
  refine va_get (D := (dC, dI)) (ci := 6) (v := .int (nI n)) (C := RX6) (T := TX6) (N := 14) hx hb hts i_X6 hown hK hP 0 rfl rfl 0 (by decide) k_48 (fun _ h9 => h9) rfl dX6_appendTake_1 ?_
  refine xr_zeq_n (tgt := 16) hx hb (by omega) dX6_appendTake_4 (by decide) (fun c_1 => False.elim (by omega)) (fun c_1 => ?_)
  refine lv_aload_n hx hb dX6_appendTake_7 rfl (lv_at hl 0 rfl) ?_
  refine va_get (D := (dC, dI)) (ci := 6) (v := .int (nI tk)) (C := RX6) (T := TX6) (N := 14) hx hb hts i_X6 hown hK hP 0 rfl rfl 1 (by decide) k_52 (fun _ h9 => h9) rfl dX6_appendTake_8 ?_
  refine lv_bipush (v := nI 70) hx hb dX6_appendTake_11 (by decide) ?_
  refine xr_lt_n (tgt := 17) hx hb (by omega) (by omega) dX6_appendTake_13 (by decide) (fun c_2 => ?_) (fun c_2 => False.elim (by omega))
  refine lv_aload_n hx hb dX6_appendTake_17 rfl (lv_at hl 0 rfl) ?_
  refine va_get (D := (dC, dI)) (ci := 6) (v := .ref qtakeBatch) (C := RX6) (T := TX6) (N := 14) hx hb hts i_X6 hown hK hP 0 rfl rfl 12 (by decide) k_42 (fun _ h9 => h9) rfl dX6_appendTake_18 ?_
  refine lv_aload_n hx hb dX6_appendTake_21 rfl (lv_at hl 0 rfl) ?_
  refine va_get (D := (dC, dI)) (ci := 6) (v := .int (nI tk)) (C := RX6) (T := TX6) (N := 14) hx hb hts i_X6 hown hK hP 0 rfl rfl 1 (by decide) k_52 (fun _ h9 => h9) rfl dX6_appendTake_22 ?_
  refine lv_iload_n hx hb dX6_appendTake_25 rfl (lv_at hl 1 rfl) ?_
  refine xr_iast hx hb hK hP hD hS 2 0 rfl rfl (i := tk) (by omega) (by decide) dX6_appendTake_26 (fun H locs hP hD hS => ?_)
  have hP : va_P (dC, dI) vwCl [(h0, .inr (6, [.int (nI n), .int (nI tk), h0_good, h0_wanted, h0_got, h0_replaced, h0_least, h0_accepts, .ref qparts, h0_due, h0_day, h0_firstTake, .ref qtakeBatch, .ref qtakeUnits])), (qparts, .inl (cI, 30, .inl parts)), (qtakeBatch, .inl (cI, 70, .inl (upd takeBatch tk vb))), (qtakeUnits, .inl (cI, 70, .inl takeUnits))] H := hP
  have hD : va_D A [(h0, .inr (6, [.int (nI n), .int (nI tk), h0_good, h0_wanted, h0_got, h0_replaced, h0_least, h0_accepts, .ref qparts, h0_due, h0_day, h0_firstTake, .ref qtakeBatch, .ref qtakeUnits])), (qparts, .inl (cI, 30, .inl parts)), (qtakeBatch, .inl (cI, 70, .inl (upd takeBatch tk vb))), (qtakeUnits, .inl (cI, 70, .inl takeUnits))] := hD
  refine lv_aload_n hx hb dX6_appendTake_27 rfl (lv_at hl 0 rfl) ?_
  refine va_get (D := (dC, dI)) (ci := 6) (v := .ref qtakeUnits) (C := RX6) (T := TX6) (N := 14) hx hb hts i_X6 hown hK hP 0 rfl rfl 13 (by decide) k_45 (fun _ h9 => h9) rfl dX6_appendTake_28 ?_
  refine lv_aload_n hx hb dX6_appendTake_31 rfl (lv_at hl 0 rfl) ?_
  refine va_get (D := (dC, dI)) (ci := 6) (v := .int (nI tk)) (C := RX6) (T := TX6) (N := 14) hx hb hts i_X6 hown hK hP 0 rfl rfl 1 (by decide) k_52 (fun _ h9 => h9) rfl dX6_appendTake_32 ?_
  refine lv_iload_n hx hb dX6_appendTake_35 rfl (lv_at hl 2 rfl) ?_
  refine xr_iast hx hb hK hP hD hS 3 0 rfl rfl (i := tk) (by omega) (by decide) dX6_appendTake_36 (fun H locs hP hD hS => ?_)
  have hP : va_P (dC, dI) vwCl [(h0, .inr (6, [.int (nI n), .int (nI tk), h0_good, h0_wanted, h0_got, h0_replaced, h0_least, h0_accepts, .ref qparts, h0_due, h0_day, h0_firstTake, .ref qtakeBatch, .ref qtakeUnits])), (qparts, .inl (cI, 30, .inl parts)), (qtakeBatch, .inl (cI, 70, .inl (upd takeBatch tk vb))), (qtakeUnits, .inl (cI, 70, .inl (upd takeUnits tk un)))] H := hP
  have hD : va_D A [(h0, .inr (6, [.int (nI n), .int (nI tk), h0_good, h0_wanted, h0_got, h0_replaced, h0_least, h0_accepts, .ref qparts, h0_due, h0_day, h0_firstTake, .ref qtakeBatch, .ref qtakeUnits])), (qparts, .inl (cI, 30, .inl parts)), (qtakeBatch, .inl (cI, 70, .inl (upd takeBatch tk vb))), (qtakeUnits, .inl (cI, 70, .inl (upd takeUnits tk un)))] := hD
  refine lv_aload_n hx hb dX6_appendTake_37 rfl (lv_at hl 0 rfl) ?_
  refine lv_dup hx hb dX6_appendTake_38 rfl ?_
  refine va_get (D := (dC, dI)) (ci := 6) (v := .int (nI tk)) (C := RX6) (T := TX6) (N := 14) hx hb hts i_X6 hown hK hP 0 rfl rfl 1 (by decide) k_52 (fun _ h9 => h9) rfl dX6_appendTake_39 ?_
  refine lv_iconst (v := nI 1) hx hb dX6_appendTake_42 (by decide) ?_
  refine xr_iadd_n hx hb dX6_appendTake_43 ?_
  refine va_put (D := (dC, dI)) (ci := 6) (v := .int (nI (tk + 1))) (ty := .int) (C := RX6) (T := TX6) (N := 14) hx hb hts i_X6 tyX6 tyX6_ok nmX6 hown hK hP hD hS 0 rfl rfl 1 (by decide) k_52 (fun _ h9 => h9) rfl (by decide +kernel) rfl rfl (Nat.le_of_ble_eq_true rfl) dX6_appendTake_44 (fun H locs hP hD hS => ?_)
  have hP : va_P (dC, dI) vwCl [(h0, .inr (6, [.int (nI n), .int (nI (tk + 1)), h0_good, h0_wanted, h0_got, h0_replaced, h0_least, h0_accepts, .ref qparts, h0_due, h0_day, h0_firstTake, .ref qtakeBatch, .ref qtakeUnits])), (qparts, .inl (cI, 30, .inl parts)), (qtakeBatch, .inl (cI, 70, .inl (upd takeBatch tk vb))), (qtakeUnits, .inl (cI, 70, .inl (upd takeUnits tk un)))] H := hP
  have hD : va_D A [(h0, .inr (6, [.int (nI n), .int (nI (tk + 1)), h0_good, h0_wanted, h0_got, h0_replaced, h0_least, h0_accepts, .ref qparts, h0_due, h0_day, h0_firstTake, .ref qtakeBatch, .ref qtakeUnits])), (qparts, .inl (cI, 30, .inl parts)), (qtakeBatch, .inl (cI, 70, .inl (upd takeBatch tk vb))), (qtakeUnits, .inl (cI, 70, .inl (upd takeUnits tk un)))] := hD
  refine lv_aload_n hx hb dX6_appendTake_47 rfl (lv_at hl 0 rfl) ?_
  refine va_get (D := (dC, dI)) (ci := 6) (v := .ref qparts) (C := RX6) (T := TX6) (N := 14) hx hb hts i_X6 hown hK hP 0 rfl rfl 8 (by decide) k_30 (fun _ h9 => h9) rfl dX6_appendTake_48 ?_
  refine lv_aload_n hx hb dX6_appendTake_51 rfl (lv_at hl 0 rfl) ?_
  refine va_get (D := (dC, dI)) (ci := 6) (v := .int (nI n)) (C := RX6) (T := TX6) (N := 14) hx hb hts i_X6 hown hK hP 0 rfl rfl 0 (by decide) k_48 (fun _ h9 => h9) rfl dX6_appendTake_52 ?_
  refine lv_iconst (v := nI 1) hx hb dX6_appendTake_55 (by decide) ?_
  refine xr_isub_n hx hb (by omega) dX6_appendTake_56 ?_
  refine lv_dup2_11 hx hb dX6_appendTake_57 rfl rfl ?_
  refine xr_iald hx hb hK hP 1 0 rfl rfl (i := n - 1) (by omega) (by decide) dX6_appendTake_58 ?_
  refine lv_iconst (v := nI 1) hx hb dX6_appendTake_59 (by decide) ?_
  refine lv_iadd hx hb dX6_appendTake_60 ?_
  refine xr_iast hx hb hK hP hD hS 1 0 rfl rfl (i := n - 1) (by omega) (by decide) dX6_appendTake_61 (fun H locs hP hD hS => ?_)
  have hP : va_P (dC, dI) vwCl [(h0, .inr (6, [.int (nI n), .int (nI (tk + 1)), h0_good, h0_wanted, h0_got, h0_replaced, h0_least, h0_accepts, .ref qparts, h0_due, h0_day, h0_firstTake, .ref qtakeBatch, .ref qtakeUnits])), (qparts, .inl (cI, 30, .inl (upd parts (n - 1) ((parts (n - 1)) + (nI 1))))), (qtakeBatch, .inl (cI, 70, .inl (upd takeBatch tk vb))), (qtakeUnits, .inl (cI, 70, .inl (upd takeUnits tk un)))] H := hP
  have hD : va_D A [(h0, .inr (6, [.int (nI n), .int (nI (tk + 1)), h0_good, h0_wanted, h0_got, h0_replaced, h0_least, h0_accepts, .ref qparts, h0_due, h0_day, h0_firstTake, .ref qtakeBatch, .ref qtakeUnits])), (qparts, .inl (cI, 30, .inl (upd parts (n - 1) ((parts (n - 1)) + (nI 1))))), (qtakeBatch, .inl (cI, 70, .inl (upd takeBatch tk vb))), (qtakeUnits, .inl (cI, 70, .inl (upd takeUnits tk un)))] := hD
  have hP9 : va_P (dC, dI) vwCl [(h0, .inr (6, [.int (nI n), .int (nI (tk + 1)), h0_good, h0_wanted, h0_got, h0_replaced, h0_least, h0_accepts, .ref qparts, h0_due, h0_day, h0_firstTake, .ref qtakeBatch, .ref qtakeUnits])), (qparts, .inl (cI, 30, .inl (upd parts (n - 1) (parts (n - 1) + nI 1)))), (qtakeBatch, .inl (cI, 70, .inl (upd takeBatch tk vb))), (qtakeUnits, .inl (cI, 70, .inl (upd takeUnits tk un)))] H := hP
  have hS9 : va_S (va_B [(h0, .inr (6, [.int (nI n), .int (nI tk), h0_good, h0_wanted, h0_got, h0_replaced, h0_least, h0_accepts, .ref qparts, h0_due, h0_day, h0_firstTake, .ref qtakeBatch, .ref qtakeUnits])), (qparts, .inl (cI, 30, .inl parts)), (qtakeBatch, .inl (cI, 70, .inl takeBatch)), (qtakeUnits, .inl (cI, 70, .inl takeUnits))]) s.heap H locs := by rw [← hA]; exact hS
  exact W.vret hx hb hr (fun t ht hW => ⟨⟨_, rfl, rfl, by rw [ht]; exact hP9⟩, hS9.X ht⟩) hS9.2.2 dX6_appendTake_62
theorem hdV_X6_endLast : yX6_endLast.cls = RX6 ∧ yX6_endLast.cls ≠ "java/lang/invoke/MethodHandle" ∧ yX6_endLast.cls ≠ "java/lang/invoke/VarHandle" ∧ (parseMethodDescriptor yX6_endLast.desc).map (fun d => d.parameters.length) = some 3 := by decide +kernel
set_option maxHeartbeats 4000000 in
set_option maxRecDepth 100000 in
theorem c_X6_endLast (l : Launch) (dC : Nat → ClassId) (dI : Nat → Nat → Nat) (cI cF cC cZ cQ cS : ClassId) (h0 : Nat) (h0_takes : Value) (h0_good : Value) (h0_wanted : Value) (qgot : Nat) (qreplaced : Nat) (h0_least : Value) (h0_accepts : Value) (h0_parts : Value) (qdue : Nat) (h0_day : Value) (h0_firstTake : Value) (h0_takeBatch : Value) (h0_takeUnits : Value) (got : Nat → Int32) (replaced : Nat → Int32) (due : Nat → Int32) (n : Nat) (un : Int32) (su : Int32) (ce : Int32) (hn : 0 < n ∧ n ≤ 30) : Met l yX6_endLast wsX6_endLast ({ frames := 0, cells := 0, slots := 0, locals := 0 }) (xPre (dC, dI) vwCl [.ref h0, .int un, .int su, .int ce] (xtys cI cF cC cZ cQ cS) [(h0, .inr (6, [.int (nI n), h0_takes, h0_good, h0_wanted, .ref qgot, .ref qreplaced, h0_least, h0_accepts, h0_parts, .ref qdue, h0_day, h0_firstTake, h0_takeBatch, h0_takeUnits])), (qgot, .inl (cI, 30, .inl got)), (qreplaced, .inl (cI, 30, .inl replaced)), (qdue, .inl (cI, 30, .inl due))]) (xWv (dC, dI) vwCl [(h0, .inr (6, [.int (nI n), h0_takes, h0_good, h0_wanted, .ref qgot, .ref qreplaced, h0_least, h0_accepts, h0_parts, .ref qdue, h0_day, h0_firstTake, h0_takeBatch, h0_takeUnits])), (qgot, .inl (cI, 30, .inl got)), (qreplaced, .inl (cI, 30, .inl replaced)), (qdue, .inl (cI, 30, .inl due))] (fun w0 => w0 = [(h0, .inr (6, [.int (nI n), h0_takes, h0_good, h0_wanted, .ref qgot, .ref qreplaced, h0_least, h0_accepts, h0_parts, .ref qdue, h0_day, h0_firstTake, h0_takeBatch, h0_takeUnits])), (qgot, .inl (cI, 30, .inl (upd got (n - 1) un))), (qreplaced, .inl (cI, 30, .inl (upd replaced (n - 1) su))), (qdue, .inl (cI, 30, .inl (upd due (n - 1) ce)))])) 0 0 (va_B [(h0, .inr (6, [.int (nI n), h0_takes, h0_good, h0_wanted, .ref qgot, .ref qreplaced, h0_least, h0_accepts, h0_parts, .ref qdue, h0_day, h0_firstTake, h0_takeBatch, h0_takeUnits])), (qgot, .inl (cI, 30, .inl got)), (qreplaced, .inl (cI, 30, .inl replaced)), (qdue, .inl (cI, 30, .inl due))]) := by
  refine Met.ofW (cc := cX6_endLast) (maxL := 4) (ret := none) (by decide) rfl ?_
  intro p e s m args below meth c s₁ B hml hv
  obtain ⟨rfl, hP, hK, hD0, hN⟩ := hv
  have hx := B.exec
  have hb := B.bytes
  have hr := B.returns
  have hts := atoms_spec (ws := wsX6_endLast) B.pre
  have hown : s.vm.findClass RX6 = some m.cls := findClass_of_methodNamed B.named
  have hlocks := B.notSynchronized
  have k_18 := hts (Cond.fieldLink RX6 18 "ShelfStages$Orders" "got" "[I") (by decide +kernel)
  have k_21 := hts (Cond.fieldLink RX6 21 "ShelfStages$Orders" "replaced" "[I") (by decide +kernel)
  have k_33 := hts (Cond.fieldLink RX6 33 "ShelfStages$Orders" "due" "[I") (by decide +kernel)
  have k_48 := hts (Cond.fieldLink RX6 48 "ShelfStages$Orders" "size" "I") (by decide +kernel)
  have i_X6 : ∀ w ∈ wsX60, w ∈ wsX6_endLast := by decide +kernel
  obtain ⟨A, hA⟩ : ∃ A, A = va_B [(h0, .inr (6, [.int (nI n), h0_takes, h0_good, h0_wanted, .ref qgot, .ref qreplaced, h0_least, h0_accepts, h0_parts, .ref qdue, h0_day, h0_firstTake, h0_takeBatch, h0_takeUnits])), (qgot, .inl (cI, 30, .inl got)), (qreplaced, .inl (cI, 30, .inl replaced)), (qdue, .inl (cI, 30, .inl due))] := ⟨_, rfl⟩
  have hD : va_D A [(h0, .inr (6, [.int (nI n), h0_takes, h0_good, h0_wanted, .ref qgot, .ref qreplaced, h0_least, h0_accepts, h0_parts, .ref qdue, h0_day, h0_firstTake, h0_takeBatch, h0_takeUnits])), (qgot, .inl (cI, 30, .inl got)), (qreplaced, .inl (cI, 30, .inl replaced)), (qdue, .inl (cI, 30, .inl due))] := hA ▸ hD0.own
  have hS : va_S A s.heap s.heap [] := va_S.rf
  have hl := lv_entry ([.ref h0, .int un, .int su, .int ce]) (n := 4) (Nat.le_of_ble_eq_true rfl)
  rw [lg_entry_eq]
  generalize (lg_sl ([.ref h0, .int un, .int su, .int ce]) ++ List.replicate (4 - (lg_sl ([.ref h0, .int un, .int su, .int ce])).length) Slot.unset).toArray = ls at hl ⊢
  have hl : lv_has ls 4 [(0, .ref h0), (1, .int un), (2, .int su), (3, .int ce)] := hl
  refine lv_aload_n hx hb dX6_endLast_0 rfl (lv_at hl 0 rfl) ?_
  refine va_get (D := (dC, dI)) (ci := 6) (v := .int (nI n)) (C := RX6) (T := TX6) (N := 14) hx hb hts i_X6 hown hK hP 0 rfl rfl 0 (by decide) k_48 (fun _ h9 => h9) rfl dX6_endLast_1 ?_
  refine xr_zne_n (tgt := 8) hx hb (by omega) dX6_endLast_4 (by decide) (fun c_1 => ?_) (fun c_1 => False.elim (by omega))
  refine lv_aload_n hx hb dX6_endLast_8 rfl (lv_at hl 0 rfl) ?_
  refine va_get (D := (dC, dI)) (ci := 6) (v := .ref qgot) (C := RX6) (T := TX6) (N := 14) hx hb hts i_X6 hown hK hP 0 rfl rfl 4 (by decide) k_18 (fun _ h9 => h9) rfl dX6_endLast_9 ?_
  refine lv_aload_n hx hb dX6_endLast_12 rfl (lv_at hl 0 rfl) ?_
  refine va_get (D := (dC, dI)) (ci := 6) (v := .int (nI n)) (C := RX6) (T := TX6) (N := 14) hx hb hts i_X6 hown hK hP 0 rfl rfl 0 (by decide) k_48 (fun _ h9 => h9) rfl dX6_endLast_13 ?_
  refine lv_iconst (v := nI 1) hx hb dX6_endLast_16 (by decide) ?_
  refine xr_isub_n hx hb (by omega) dX6_endLast_17 ?_
  refine lv_iload_n hx hb dX6_endLast_18 rfl (lv_at hl 1 rfl) ?_
  refine xr_iast hx hb hK hP hD hS 1 0 rfl rfl (i := n - 1) (by omega) (by decide) dX6_endLast_19 (fun H locs hP hD hS => ?_)
  have hP : va_P (dC, dI) vwCl [(h0, .inr (6, [.int (nI n), h0_takes, h0_good, h0_wanted, .ref qgot, .ref qreplaced, h0_least, h0_accepts, h0_parts, .ref qdue, h0_day, h0_firstTake, h0_takeBatch, h0_takeUnits])), (qgot, .inl (cI, 30, .inl (upd got (n - 1) un))), (qreplaced, .inl (cI, 30, .inl replaced)), (qdue, .inl (cI, 30, .inl due))] H := hP
  have hD : va_D A [(h0, .inr (6, [.int (nI n), h0_takes, h0_good, h0_wanted, .ref qgot, .ref qreplaced, h0_least, h0_accepts, h0_parts, .ref qdue, h0_day, h0_firstTake, h0_takeBatch, h0_takeUnits])), (qgot, .inl (cI, 30, .inl (upd got (n - 1) un))), (qreplaced, .inl (cI, 30, .inl replaced)), (qdue, .inl (cI, 30, .inl due))] := hD
  refine lv_aload_n hx hb dX6_endLast_20 rfl (lv_at hl 0 rfl) ?_
  refine va_get (D := (dC, dI)) (ci := 6) (v := .ref qreplaced) (C := RX6) (T := TX6) (N := 14) hx hb hts i_X6 hown hK hP 0 rfl rfl 5 (by decide) k_21 (fun _ h9 => h9) rfl dX6_endLast_21 ?_
  refine lv_aload_n hx hb dX6_endLast_24 rfl (lv_at hl 0 rfl) ?_
  refine va_get (D := (dC, dI)) (ci := 6) (v := .int (nI n)) (C := RX6) (T := TX6) (N := 14) hx hb hts i_X6 hown hK hP 0 rfl rfl 0 (by decide) k_48 (fun _ h9 => h9) rfl dX6_endLast_25 ?_
  refine lv_iconst (v := nI 1) hx hb dX6_endLast_28 (by decide) ?_
  refine xr_isub_n hx hb (by omega) dX6_endLast_29 ?_
  refine lv_iload_n hx hb dX6_endLast_30 rfl (lv_at hl 2 rfl) ?_
  refine xr_iast hx hb hK hP hD hS 2 0 rfl rfl (i := n - 1) (by omega) (by decide) dX6_endLast_31 (fun H locs hP hD hS => ?_)
  have hP : va_P (dC, dI) vwCl [(h0, .inr (6, [.int (nI n), h0_takes, h0_good, h0_wanted, .ref qgot, .ref qreplaced, h0_least, h0_accepts, h0_parts, .ref qdue, h0_day, h0_firstTake, h0_takeBatch, h0_takeUnits])), (qgot, .inl (cI, 30, .inl (upd got (n - 1) un))), (qreplaced, .inl (cI, 30, .inl (upd replaced (n - 1) su))), (qdue, .inl (cI, 30, .inl due))] H := hP
  have hD : va_D A [(h0, .inr (6, [.int (nI n), h0_takes, h0_good, h0_wanted, .ref qgot, .ref qreplaced, h0_least, h0_accepts, h0_parts, .ref qdue, h0_day, h0_firstTake, h0_takeBatch, h0_takeUnits])), (qgot, .inl (cI, 30, .inl (upd got (n - 1) un))), (qreplaced, .inl (cI, 30, .inl (upd replaced (n - 1) su))), (qdue, .inl (cI, 30, .inl due))] := hD
  refine lv_aload_n hx hb dX6_endLast_32 rfl (lv_at hl 0 rfl) ?_
  refine va_get (D := (dC, dI)) (ci := 6) (v := .ref qdue) (C := RX6) (T := TX6) (N := 14) hx hb hts i_X6 hown hK hP 0 rfl rfl 9 (by decide) k_33 (fun _ h9 => h9) rfl dX6_endLast_33 ?_
  refine lv_aload_n hx hb dX6_endLast_36 rfl (lv_at hl 0 rfl) ?_
  refine va_get (D := (dC, dI)) (ci := 6) (v := .int (nI n)) (C := RX6) (T := TX6) (N := 14) hx hb hts i_X6 hown hK hP 0 rfl rfl 0 (by decide) k_48 (fun _ h9 => h9) rfl dX6_endLast_37 ?_
  refine lv_iconst (v := nI 1) hx hb dX6_endLast_40 (by decide) ?_
  refine xr_isub_n hx hb (by omega) dX6_endLast_41 ?_
  refine lv_iload_n hx hb dX6_endLast_42 rfl (lv_at hl 3 rfl) ?_
  refine xr_iast hx hb hK hP hD hS 3 0 rfl rfl (i := n - 1) (by omega) (by decide) dX6_endLast_43 (fun H locs hP hD hS => ?_)
  have hP : va_P (dC, dI) vwCl [(h0, .inr (6, [.int (nI n), h0_takes, h0_good, h0_wanted, .ref qgot, .ref qreplaced, h0_least, h0_accepts, h0_parts, .ref qdue, h0_day, h0_firstTake, h0_takeBatch, h0_takeUnits])), (qgot, .inl (cI, 30, .inl (upd got (n - 1) un))), (qreplaced, .inl (cI, 30, .inl (upd replaced (n - 1) su))), (qdue, .inl (cI, 30, .inl (upd due (n - 1) ce)))] H := hP
  have hD : va_D A [(h0, .inr (6, [.int (nI n), h0_takes, h0_good, h0_wanted, .ref qgot, .ref qreplaced, h0_least, h0_accepts, h0_parts, .ref qdue, h0_day, h0_firstTake, h0_takeBatch, h0_takeUnits])), (qgot, .inl (cI, 30, .inl (upd got (n - 1) un))), (qreplaced, .inl (cI, 30, .inl (upd replaced (n - 1) su))), (qdue, .inl (cI, 30, .inl (upd due (n - 1) ce)))] := hD
  have hP9 : va_P (dC, dI) vwCl [(h0, .inr (6, [.int (nI n), h0_takes, h0_good, h0_wanted, .ref qgot, .ref qreplaced, h0_least, h0_accepts, h0_parts, .ref qdue, h0_day, h0_firstTake, h0_takeBatch, h0_takeUnits])), (qgot, .inl (cI, 30, .inl (upd got (n - 1) un))), (qreplaced, .inl (cI, 30, .inl (upd replaced (n - 1) su))), (qdue, .inl (cI, 30, .inl (upd due (n - 1) ce)))] H := hP
  have hS9 : va_S (va_B [(h0, .inr (6, [.int (nI n), h0_takes, h0_good, h0_wanted, .ref qgot, .ref qreplaced, h0_least, h0_accepts, h0_parts, .ref qdue, h0_day, h0_firstTake, h0_takeBatch, h0_takeUnits])), (qgot, .inl (cI, 30, .inl got)), (qreplaced, .inl (cI, 30, .inl replaced)), (qdue, .inl (cI, 30, .inl due))]) s.heap H locs := by rw [← hA]; exact hS
  exact W.vret hx hb hr (fun t ht hW => ⟨⟨_, rfl, rfl, by rw [ht]; exact hP9⟩, hS9.X ht⟩) hS9.2.2 dX6_endLast_44
theorem hdV_X6_sum : yX6_sum.cls = RX6 ∧ yX6_sum.cls ≠ "java/lang/invoke/MethodHandle" ∧ yX6_sum.cls ≠ "java/lang/invoke/VarHandle" ∧ (parseMethodDescriptor yX6_sum.desc).map (fun d => d.parameters.length) = some 1 := by decide +kernel
set_option maxHeartbeats 4000000 in
set_option maxRecDepth 100000 in
theorem c_X6_sum (l : Launch) (dC : Nat → ClassId) (dI : Nat → Nat → Nat) (cI cF cC cZ cQ cS : ClassId) (h0 : Nat) (h0_takes : Value) (h0_good : Value) (h0_wanted : Value) (h0_got : Value) (h0_replaced : Value) (h0_least : Value) (h0_accepts : Value) (h0_parts : Value) (h0_due : Value) (h0_day : Value) (h0_firstTake : Value) (h0_takeBatch : Value) (h0_takeUnits : Value) (n : Nat) (ra : Nat) (row : Nat → Int32) (hn : n ≤ 30) : Met l yX6_sum wsX6_sum ({ frames := 0, cells := 0, slots := 0, locals := 0 }) (xPre (dC, dI) vwCl [.ref h0, .ref ra] (xtys cI cF cC cZ cQ cS) [(h0, .inr (6, [.int (nI n), h0_takes, h0_good, h0_wanted, h0_got, h0_replaced, h0_least, h0_accepts, h0_parts, h0_due, h0_day, h0_firstTake, h0_takeBatch, h0_takeUnits])), (ra, .inl (cI, 30, .inl row))]) (vp_Si (fun r0 => r0 = xsum row n)) 0 0 (fun _ => False) := by
  refine Met.ofW (cc := cX6_sum) (maxL := 4) (ret := (some .int)) (by decide) rfl ?_
  intro p e s m args below meth c s₁ B hml hv
  obtain ⟨rfl, hP, hK, hD0, hN⟩ := hv
  have hx := B.exec
  have hb := B.bytes
  have hr := B.returns
  have hts := atoms_spec (ws := wsX6_sum) B.pre
  have hown : s.vm.findClass RX6 = some m.cls := findClass_of_methodNamed B.named
  have hlocks := B.notSynchronized
  have k_48 := hts (Cond.fieldLink RX6 48 "ShelfStages$Orders" "size" "I") (by decide +kernel)
  have i_X6 : ∀ w ∈ wsX60, w ∈ wsX6_sum := by decide +kernel
  have hD := hD0
  have hl := lv_entry ([.ref h0, .ref ra]) (n := 4) (Nat.le_of_ble_eq_true rfl)
  rw [lg_entry_eq]
  generalize (lg_sl ([.ref h0, .ref ra]) ++ List.replicate (4 - (lg_sl ([.ref h0, .ref ra])).length) Slot.unset).toArray = ls at hl ⊢
  have hl : lv_has ls 4 [(0, .ref h0), (1, .ref ra)] := hl
  refine lv_iconst (v := nI 0) hx hb dX6_sum_0 (by decide) ?_
  refine lv_istore_n (lv' := [(2, .int (nI 0)), (0, .ref h0), (1, .ref ra)]) hx hb dX6_sum_1 rfl hl (by decide) rfl (fun ls hl => ?_)
  refine lv_iconst (v := nI 0) hx hb dX6_sum_2 (by decide) ?_
  refine lv_istore_n (lv' := [(3, .int (nI 0)), (2, .int (nI 0)), (0, .ref h0), (1, .ref ra)]) hx hb dX6_sum_3 rfl hl (by decide) rfl (fun ls hl => ?_)
  refine xr_loop (J := Nat) (fun n0 H locs g => ∃ (k : Nat) (acc : Int32) (ls : Array Slot), H = s.heap ∧ locs = [] ∧ n0 = n - k ∧ g = F0 m 4 ls [] ∧ lv_has ls 4 [(3, .int (nI k)), (2, .int acc), (0, .ref h0), (1, .ref ra)] ∧ (k ≤ n) ∧ (acc = xsum row k)) (fun n => n) ?_ (n - 0) (g := F0 m 4 ls []) ⟨0, (nI 0), ls, rfl, rfl, rfl, rfl, lv_sub hl [0, 1, 2, 3] rfl, (Nat.zero_le _), rfl⟩
  intro n0 ih_4 H locs g hp
  obtain ⟨k, acc, ls, rfl, rfl, rfl, rfl, hl, hk, hac⟩ := hp
  refine lv_iload_n hx hb dX6_sum_4 rfl (lv_at hl 0 rfl) ?_
  refine lv_aload_n hx hb dX6_sum_5 rfl (lv_at hl 2 rfl) ?_
  refine va_get (D := (dC, dI)) (ci := 6) (v := .int (nI n)) (C := RX6) (T := TX6) (N := 14) hx hb hts i_X6 hown hK hP 0 rfl rfl 0 (by decide) k_48 (fun _ h9 => h9) rfl dX6_sum_6 ?_
  refine xr_ge_n (tgt := 24) hx hb (by omega) (by omega) dX6_sum_9 (by decide) (fun c_1 => ?_) (fun c_1 => ?_)
  · skip
    refine lv_iload_n hx hb dX6_sum_24 rfl (lv_at hl 1 rfl) ?_
    exact W.iret (v := acc) hx hb hr (fun t ht hW => ⟨_, rfl, (show acc = xsum row n from (by rw [hac, show k = n from by omega])), ht⟩) (fun q h => by cases h) dX6_sum_25
  refine lv_iload_n hx hb dX6_sum_12 rfl (lv_at hl 1 rfl) ?_
  refine lv_aload_n hx hb dX6_sum_13 rfl (lv_at hl 3 rfl) ?_
  refine lv_iload_n hx hb dX6_sum_14 rfl (lv_at hl 0 rfl) ?_
  refine xr_iald hx hb hK hP 1 0 rfl rfl (i := k) (by omega) (by decide) dX6_sum_15 ?_
  refine lv_iadd hx hb dX6_sum_16 ?_
  refine lv_istore_n (lv' := [(2, .int (acc + (row k))), (3, .int (nI k)), (0, .ref h0), (1, .ref ra)]) hx hb dX6_sum_17 rfl hl (by decide) rfl (fun ls hl => ?_)
  refine lv_iinc (v := nI (k + 1)) (lv' := [(3, .int (nI (k + 1))), (2, .int (acc + (row k))), (0, .ref h0), (1, .ref ra)]) hx hb dX6_sum_18 hl (k := 1) rfl (nI_inc1 k) (by decide) rfl (fun ls hl => ?_)
  refine lv_goto (tgt := 4) hx hb dX6_sum_21 (by decide) ?_
  exact ih_4 (n - (k + 1)) _ _ _ (show n - (k + 1) < n - k from by omega) ⟨(k + 1), (acc + (row k)), ls, rfl, rfl, rfl, rfl, lv_sub hl [0, 1, 2, 3] rfl, (by omega), (by rw [hac]; rfl)⟩
theorem hdV_X6_gotForGood : yX6_gotForGood.cls = RX6 ∧ yX6_gotForGood.cls ≠ "java/lang/invoke/MethodHandle" ∧ yX6_gotForGood.cls ≠ "java/lang/invoke/VarHandle" ∧ (parseMethodDescriptor yX6_gotForGood.desc).map (fun d => d.parameters.length) = some 1 := by decide +kernel
set_option maxHeartbeats 4000000 in
set_option maxRecDepth 100000 in
theorem c_X6_gotForGood (l : Launch) (dC : Nat → ClassId) (dI : Nat → Nat → Nat) (cI cF cC cZ cQ cS : ClassId) (h0 : Nat) (h0_takes : Value) (qgood : Nat) (h0_wanted : Value) (qgot : Nat) (h0_replaced : Value) (h0_least : Value) (h0_accepts : Value) (h0_parts : Value) (h0_due : Value) (h0_day : Value) (h0_firstTake : Value) (h0_takeBatch : Value) (h0_takeUnits : Value) (good : Nat → Int32) (got : Nat → Int32) (n : Nat) (w : Int32) (hn : n ≤ 30) : Met l yX6_gotForGood wsX6_gotForGood ({ frames := 0, cells := 0, slots := 0, locals := 0 }) (xPre (dC, dI) vwCl [.ref h0, .int w] (xtys cI cF cC cZ cQ cS) [(h0, .inr (6, [.int (nI n), h0_takes, .ref qgood, h0_wanted, .ref qgot, h0_replaced, h0_least, h0_accepts, h0_parts, h0_due, h0_day, h0_firstTake, h0_takeBatch, h0_takeUnits])), (qgood, .inl (cI, 30, .inl good)), (qgot, .inl (cI, 30, .inl got))]) (vp_Si (fun r0 => r0 = xsumIf good w got n)) 0 0 (fun _ => False) := by
  refine Met.ofW (cc := cX6_gotForGood) (maxL := 4) (ret := (some .int)) (by decide) rfl ?_
  intro p e s m args below meth c s₁ B hml hv
  obtain ⟨rfl, hP, hK, hD0, hN⟩ := hv
  have hx := B.exec
  have hb := B.bytes
  have hr := B.returns
  have hts := atoms_spec (ws := wsX6_gotForGood) B.pre
  have hown : s.vm.findClass RX6 = some m.cls := findClass_of_methodNamed B.named
  have hlocks := B.notSynchronized
  have k_18 := hts (Cond.fieldLink RX6 18 "ShelfStages$Orders" "got" "[I") (by decide +kernel)
  have k_48 := hts (Cond.fieldLink RX6 48 "ShelfStages$Orders" "size" "I") (by decide +kernel)
  have k_9 := hts (Cond.fieldLink RX6 9 "ShelfStages$Orders" "good" "[I") (by decide +kernel)
  have i_X6 : ∀ w ∈ wsX60, w ∈ wsX6_gotForGood := by decide +kernel
  have hD := hD0
  have hl := lv_entry ([.ref h0, .int w]) (n := 4) (Nat.le_of_ble_eq_true rfl)
  rw [lg_entry_eq]
  generalize (lg_sl ([.ref h0, .int w]) ++ List.replicate (4 - (lg_sl ([.ref h0, .int w])).length) Slot.unset).toArray = ls at hl ⊢
  have hl : lv_has ls 4 [(0, .ref h0), (1, .int w)] := hl
  refine lv_iconst (v := nI 0) hx hb dX6_gotForGood_0 (by decide) ?_
  refine lv_istore_n (lv' := [(2, .int (nI 0)), (0, .ref h0), (1, .int w)]) hx hb dX6_gotForGood_1 rfl hl (by decide) rfl (fun ls hl => ?_)
  refine lv_iconst (v := nI 0) hx hb dX6_gotForGood_2 (by decide) ?_
  refine lv_istore_n (lv' := [(3, .int (nI 0)), (2, .int (nI 0)), (0, .ref h0), (1, .int w)]) hx hb dX6_gotForGood_3 rfl hl (by decide) rfl (fun ls hl => ?_)
  refine xr_loop (J := Nat) (fun n0 H locs g => ∃ (k : Nat) (acc : Int32) (ls : Array Slot), H = s.heap ∧ locs = [] ∧ n0 = n - k ∧ g = F0 m 4 ls [] ∧ lv_has ls 4 [(3, .int (nI k)), (2, .int acc), (0, .ref h0), (1, .int w)] ∧ (k ≤ n) ∧ (acc = xsumIf good w got k)) (fun n => n) ?_ (n - 0) (g := F0 m 4 ls []) ⟨0, (nI 0), ls, rfl, rfl, rfl, rfl, lv_sub hl [0, 1, 2, 3] rfl, (Nat.zero_le _), rfl⟩
  intro n0 ih_4 H locs g hp
  obtain ⟨k, acc, ls, rfl, rfl, rfl, rfl, hl, hk, hac⟩ := hp
  refine lv_iload_n hx hb dX6_gotForGood_4 rfl (lv_at hl 0 rfl) ?_
  refine lv_aload_n hx hb dX6_gotForGood_5 rfl (lv_at hl 2 rfl) ?_
  refine va_get (D := (dC, dI)) (ci := 6) (v := .int (nI n)) (C := RX6) (T := TX6) (N := 14) hx hb hts i_X6 hown hK hP 0 rfl rfl 0 (by decide) k_48 (fun _ h9 => h9) rfl dX6_gotForGood_6 ?_
  refine xr_ge_n (tgt := 37) hx hb (by omega) (by omega) dX6_gotForGood_9 (by decide) (fun c_1 => ?_) (fun c_1 => ?_)
  · skip
    refine lv_iload_n hx hb dX6_gotForGood_37 rfl (lv_at hl 1 rfl) ?_
    exact W.iret (v := acc) hx hb hr (fun t ht hW => ⟨_, rfl, (show acc = xsumIf good w got n from (by rw [hac, show k = n from by omega])), ht⟩) (fun q h => by cases h) dX6_gotForGood_38
  refine lv_aload_n hx hb dX6_gotForGood_12 rfl (lv_at hl 2 rfl) ?_
  refine va_get (D := (dC, dI)) (ci := 6) (v := .ref qgood) (C := RX6) (T := TX6) (N := 14) hx hb hts i_X6 hown hK hP 0 rfl rfl 2 (by decide) k_9 (fun _ h9 => h9) rfl dX6_gotForGood_13 ?_
  refine lv_iload_n hx hb dX6_gotForGood_16 rfl (lv_at hl 0 rfl) ?_
  refine xr_iald hx hb hK hP 1 0 rfl rfl (i := k) (by omega) (by decide) dX6_gotForGood_17 ?_
  refine lv_iload_n hx hb dX6_gotForGood_18 rfl (lv_at hl 3 rfl) ?_
  refine lv_icmp_ne (tgt := 31) hx hb dX6_gotForGood_19 (by decide) (fun c_2 => ?_) (fun c_2 => ?_)
  · skip
    refine lv_iinc (v := nI (k + 1)) (lv' := [(3, .int (nI (k + 1))), (2, .int acc), (0, .ref h0), (1, .int w)]) hx hb dX6_gotForGood_31 hl (k := 0) rfl (nI_inc1 k) (by decide) rfl (fun ls hl => ?_)
    refine lv_goto (tgt := 4) hx hb dX6_gotForGood_34 (by decide) ?_
    exact ih_4 (n - (k + 1)) _ _ _ (show n - (k + 1) < n - k from by omega) ⟨(k + 1), acc, ls, rfl, rfl, rfl, rfl, lv_sub hl [0, 1, 2, 3] rfl, (by omega), (by rw [hac]; exact (if_neg c_2).symm)⟩
  refine lv_iload_n hx hb dX6_gotForGood_22 rfl (lv_at hl 1 rfl) ?_
  refine lv_aload_n hx hb dX6_gotForGood_23 rfl (lv_at hl 2 rfl) ?_
  refine va_get (D := (dC, dI)) (ci := 6) (v := .ref qgot) (C := RX6) (T := TX6) (N := 14) hx hb hts i_X6 hown hK hP 0 rfl rfl 4 (by decide) k_18 (fun _ h9 => h9) rfl dX6_gotForGood_24 ?_
  refine lv_iload_n hx hb dX6_gotForGood_27 rfl (lv_at hl 0 rfl) ?_
  refine xr_iald hx hb hK hP 2 0 rfl rfl (i := k) (by omega) (by decide) dX6_gotForGood_28 ?_
  refine lv_iadd hx hb dX6_gotForGood_29 ?_
  refine lv_istore_n (lv' := [(2, .int (acc + (got k))), (3, .int (nI k)), (0, .ref h0), (1, .int w)]) hx hb dX6_gotForGood_30 rfl hl (by decide) rfl (fun ls hl => ?_)
  refine lv_iinc (v := nI (k + 1)) (lv' := [(3, .int (nI (k + 1))), (2, .int (acc + (got k))), (0, .ref h0), (1, .int w)]) hx hb dX6_gotForGood_31 hl (k := 1) rfl (nI_inc1 k) (by decide) rfl (fun ls hl => ?_)
  refine lv_goto (tgt := 4) hx hb dX6_gotForGood_34 (by decide) ?_
  exact ih_4 (n - (k + 1)) _ _ _ (show n - (k + 1) < n - k from by omega) ⟨(k + 1), (acc + (got k)), ls, rfl, rfl, rfl, rfl, lv_sub hl [0, 1, 2, 3] rfl, (by omega), (by rw [hac]; exact (if_pos c_2).symm)⟩
theorem hdV_X6_refused : yX6_refused.cls = RX6 ∧ yX6_refused.cls ≠ "java/lang/invoke/MethodHandle" ∧ yX6_refused.cls ≠ "java/lang/invoke/VarHandle" ∧ (parseMethodDescriptor yX6_refused.desc).map (fun d => d.parameters.length) = some 0 := by decide +kernel
set_option maxHeartbeats 4000000 in
set_option maxRecDepth 100000 in
theorem c_X6_refused (l : Launch) (dC : Nat → ClassId) (dI : Nat → Nat → Nat) (cI cF cC cZ cQ cS : ClassId) (h0 : Nat) (h0_takes : Value) (h0_good : Value) (h0_wanted : Value) (qgot : Nat) (h0_replaced : Value) (h0_least : Value) (h0_accepts : Value) (h0_parts : Value) (h0_due : Value) (h0_day : Value) (h0_firstTake : Value) (h0_takeBatch : Value) (h0_takeUnits : Value) (got : Nat → Int32) (n : Nat) (hn : n ≤ 30) : Met l yX6_refused wsX6_refused ({ frames := 0, cells := 0, slots := 0, locals := 0 }) (xPre (dC, dI) vwCl [.ref h0] (xtys cI cF cC cZ cQ cS) [(h0, .inr (6, [.int (nI n), h0_takes, h0_good, h0_wanted, .ref qgot, h0_replaced, h0_least, h0_accepts, h0_parts, h0_due, h0_day, h0_firstTake, h0_takeBatch, h0_takeUnits])), (qgot, .inl (cI, 30, .inl got))]) (vp_Si (fun r0 => r0 = xcnt got 0 n)) 0 0 (fun _ => False) := by
  refine Met.ofW (cc := cX6_refused) (maxL := 3) (ret := (some .int)) (by decide) rfl ?_
  intro p e s m args below meth c s₁ B hml hv
  obtain ⟨rfl, hP, hK, hD0, hN⟩ := hv
  have hx := B.exec
  have hb := B.bytes
  have hr := B.returns
  have hts := atoms_spec (ws := wsX6_refused) B.pre
  have hown : s.vm.findClass RX6 = some m.cls := findClass_of_methodNamed B.named
  have hlocks := B.notSynchronized
  have k_18 := hts (Cond.fieldLink RX6 18 "ShelfStages$Orders" "got" "[I") (by decide +kernel)
  have k_48 := hts (Cond.fieldLink RX6 48 "ShelfStages$Orders" "size" "I") (by decide +kernel)
  have i_X6 : ∀ w ∈ wsX60, w ∈ wsX6_refused := by decide +kernel
  have hD := hD0
  have hl := lv_entry ([.ref h0]) (n := 3) (Nat.le_of_ble_eq_true rfl)
  rw [lg_entry_eq]
  generalize (lg_sl ([.ref h0]) ++ List.replicate (3 - (lg_sl ([.ref h0])).length) Slot.unset).toArray = ls at hl ⊢
  have hl : lv_has ls 3 [(0, .ref h0)] := hl
  refine lv_iconst (v := nI 0) hx hb dX6_refused_0 (by decide) ?_
  refine lv_istore_n (lv' := [(1, .int (nI 0)), (0, .ref h0)]) hx hb dX6_refused_1 rfl hl (by decide) rfl (fun ls hl => ?_)
  refine lv_iconst (v := nI 0) hx hb dX6_refused_2 (by decide) ?_
  refine lv_istore_n (lv' := [(2, .int (nI 0)), (1, .int (nI 0)), (0, .ref h0)]) hx hb dX6_refused_3 rfl hl (by decide) rfl (fun ls hl => ?_)
  refine xr_loop (J := Nat) (fun n0 H locs g => ∃ (k : Nat) (acc : Int32) (ls : Array Slot), H = s.heap ∧ locs = [] ∧ n0 = n - k ∧ g = F0 m 4 ls [] ∧ lv_has ls 3 [(2, .int (nI k)), (1, .int acc), (0, .ref h0)] ∧ (k ≤ n) ∧ (acc = xcnt got 0 k)) (fun n => n) ?_ (n - 0) (g := F0 m 4 ls []) ⟨0, (nI 0), ls, rfl, rfl, rfl, rfl, lv_sub hl [0, 1, 2] rfl, (Nat.zero_le _), rfl⟩
  intro n0 ih_4 H locs g hp
  obtain ⟨k, acc, ls, rfl, rfl, rfl, rfl, hl, hk, hac⟩ := hp
  refine lv_iload_n hx hb dX6_refused_4 rfl (lv_at hl 0 rfl) ?_
  refine lv_aload_n hx hb dX6_refused_5 rfl (lv_at hl 2 rfl) ?_
  refine va_get (D := (dC, dI)) (ci := 6) (v := .int (nI n)) (C := RX6) (T := TX6) (N := 14) hx hb hts i_X6 hown hK hP 0 rfl rfl 0 (by decide) k_48 (fun _ h9 => h9) rfl dX6_refused_6 ?_
  refine xr_ge_n (tgt := 30) hx hb (by omega) (by omega) dX6_refused_9 (by decide) (fun c_1 => ?_) (fun c_1 => ?_)
  · skip
    refine lv_iload_n hx hb dX6_refused_30 rfl (lv_at hl 1 rfl) ?_
    exact W.iret (v := acc) hx hb hr (fun t ht hW => ⟨_, rfl, (show acc = xcnt got 0 n from (by rw [hac, show k = n from by omega])), ht⟩) (fun q h => by cases h) dX6_refused_31
  refine lv_aload_n hx hb dX6_refused_12 rfl (lv_at hl 2 rfl) ?_
  refine va_get (D := (dC, dI)) (ci := 6) (v := .ref qgot) (C := RX6) (T := TX6) (N := 14) hx hb hts i_X6 hown hK hP 0 rfl rfl 4 (by decide) k_18 (fun _ h9 => h9) rfl dX6_refused_13 ?_
  refine lv_iload_n hx hb dX6_refused_16 rfl (lv_at hl 0 rfl) ?_
  refine xr_iald hx hb hK hP 1 0 rfl rfl (i := k) (by omega) (by decide) dX6_refused_17 ?_
  refine lv_if_ne (tgt := 24) hx hb dX6_refused_18 (by decide) (fun c_2 => ?_) (fun c_2 => ?_)
  · skip
    refine lv_iinc (v := nI (k + 1)) (lv' := [(2, .int (nI (k + 1))), (1, .int acc), (0, .ref h0)]) hx hb dX6_refused_24 hl (k := 0) rfl (nI_inc1 k) (by decide) rfl (fun ls hl => ?_)
    refine lv_goto (tgt := 4) hx hb dX6_refused_27 (by decide) ?_
    exact ih_4 (n - (k + 1)) _ _ _ (show n - (k + 1) < n - k from by omega) ⟨(k + 1), acc, ls, rfl, rfl, rfl, rfl, lv_sub hl [0, 1, 2] rfl, (by omega), (by rw [hac]; exact (if_neg c_2).symm)⟩
  refine lv_iinc (v := acc + nI 1) (lv' := [(1, .int (acc + nI 1)), (2, .int (nI k)), (0, .ref h0)]) hx hb dX6_refused_21 hl (k := 1) rfl (xi_inc acc) (by decide) rfl (fun ls hl => ?_)
  refine lv_iinc (v := nI (k + 1)) (lv' := [(2, .int (nI (k + 1))), (1, .int (acc + nI 1)), (0, .ref h0)]) hx hb dX6_refused_24 hl (k := 1) rfl (nI_inc1 k) (by decide) rfl (fun ls hl => ?_)
  refine lv_goto (tgt := 4) hx hb dX6_refused_27 (by decide) ?_
  exact ih_4 (n - (k + 1)) _ _ _ (show n - (k + 1) < n - k from by omega) ⟨(k + 1), (acc + nI 1), ls, rfl, rfl, rfl, rfl, lv_sub hl [0, 1, 2] rfl, (by omega), (by rw [hac]; exact (if_pos c_2).symm)⟩
theorem hdV_X6_copyFrom : yX6_copyFrom.cls = RX6 ∧ yX6_copyFrom.cls ≠ "java/lang/invoke/MethodHandle" ∧ yX6_copyFrom.cls ≠ "java/lang/invoke/VarHandle" ∧ (parseMethodDescriptor yX6_copyFrom.desc).map (fun d => d.parameters.length) = some 1 := by decide +kernel
set_option maxHeartbeats 4000000 in
set_option maxRecDepth 100000 in
theorem c_X6_copyFrom (l : Launch) (dC : Nat → ClassId) (dI : Nat → Nat → Nat) (cI cF cC cZ cQ cS : ClassId) (n : Int32) (tk : Int32) (n9 : Int32) (tk9 : Int32) (h0 : Nat) (x0 : Nat) (x1 : Nat) (x2 : Nat) (x3 : Nat) (x4 : Nat) (x5 : Nat) (x6 : Nat) (x7 : Nat) (x8 : Nat) (x9 : Nat) (x10 : Nat) (x11 : Nat) (good : Nat → Int32) (wanted : Nat → Int32) (got : Nat → Int32) (replaced : Nat → Int32) (least : Nat → Int32) (accepts : Nat → Int32) (parts : Nat → Int32) (due : Nat → Int32) (day : Nat → Int32) (firstTake : Nat → Int32) (takeBatch : Nat → Int32) (takeUnits : Nat → Int32) (o0 : Nat) (y0 : Nat) (y1 : Nat) (y2 : Nat) (y3 : Nat) (y4 : Nat) (y5 : Nat) (y6 : Nat) (y7 : Nat) (y8 : Nat) (y9 : Nat) (y10 : Nat) (y11 : Nat) (good9 : Nat → Int32) (wanted9 : Nat → Int32) (got9 : Nat → Int32) (replaced9 : Nat → Int32) (least9 : Nat → Int32) (accepts9 : Nat → Int32) (parts9 : Nat → Int32) (due9 : Nat → Int32) (day9 : Nat → Int32) (firstTake9 : Nat → Int32) (takeBatch9 : Nat → Int32) (takeUnits9 : Nat → Int32) : Met l yX6_copyFrom wsX6_copyFrom ({ frames := 2, cells := 0, slots := 0, locals := 61 }) (xPre (dC, dI) vwCl [.ref h0, .ref o0] (xtys cI cF cC cZ cQ cS) [(h0, .inr (6, [.int n, .int tk, .ref x0, .ref x1, .ref x2, .ref x3, .ref x4, .ref x5, .ref x6, .ref x7, .ref x8, .ref x9, .ref x10, .ref x11])), (x0, .inl (cI, 30, .inl good)), (x1, .inl (cI, 30, .inl wanted)), (x2, .inl (cI, 30, .inl got)), (x3, .inl (cI, 30, .inl replaced)), (x4, .inl (cI, 30, .inl least)), (x5, .inl (cI, 30, .inl accepts)), (x6, .inl (cI, 30, .inl parts)), (x7, .inl (cI, 30, .inl due)), (x8, .inl (cI, 30, .inl day)), (x9, .inl (cI, 30, .inl firstTake)), (x10, .inl (cI, 70, .inl takeBatch)), (x11, .inl (cI, 70, .inl takeUnits)), (o0, .inr (6, [.int n9, .int tk9, .ref y0, .ref y1, .ref y2, .ref y3, .ref y4, .ref y5, .ref y6, .ref y7, .ref y8, .ref y9, .ref y10, .ref y11])), (y0, .inl (cI, 30, .inl good9)), (y1, .inl (cI, 30, .inl wanted9)), (y2, .inl (cI, 30, .inl got9)), (y3, .inl (cI, 30, .inl replaced9)), (y4, .inl (cI, 30, .inl least9)), (y5, .inl (cI, 30, .inl accepts9)), (y6, .inl (cI, 30, .inl parts9)), (y7, .inl (cI, 30, .inl due9)), (y8, .inl (cI, 30, .inl day9)), (y9, .inl (cI, 30, .inl firstTake9)), (y10, .inl (cI, 70, .inl takeBatch9)), (y11, .inl (cI, 70, .inl takeUnits9))]) (xWv (dC, dI) vwCl [(h0, .inr (6, [.int n, .int tk, .ref x0, .ref x1, .ref x2, .ref x3, .ref x4, .ref x5, .ref x6, .ref x7, .ref x8, .ref x9, .ref x10, .ref x11])), (x0, .inl (cI, 30, .inl good)), (x1, .inl (cI, 30, .inl wanted)), (x2, .inl (cI, 30, .inl got)), (x3, .inl (cI, 30, .inl replaced)), (x4, .inl (cI, 30, .inl least)), (x5, .inl (cI, 30, .inl accepts)), (x6, .inl (cI, 30, .inl parts)), (x7, .inl (cI, 30, .inl due)), (x8, .inl (cI, 30, .inl day)), (x9, .inl (cI, 30, .inl firstTake)), (x10, .inl (cI, 70, .inl takeBatch)), (x11, .inl (cI, 70, .inl takeUnits)), (o0, .inr (6, [.int n9, .int tk9, .ref y0, .ref y1, .ref y2, .ref y3, .ref y4, .ref y5, .ref y6, .ref y7, .ref y8, .ref y9, .ref y10, .ref y11])), (y0, .inl (cI, 30, .inl good9)), (y1, .inl (cI, 30, .inl wanted9)), (y2, .inl (cI, 30, .inl got9)), (y3, .inl (cI, 30, .inl replaced9)), (y4, .inl (cI, 30, .inl least9)), (y5, .inl (cI, 30, .inl accepts9)), (y6, .inl (cI, 30, .inl parts9)), (y7, .inl (cI, 30, .inl due9)), (y8, .inl (cI, 30, .inl day9)), (y9, .inl (cI, 30, .inl firstTake9)), (y10, .inl (cI, 70, .inl takeBatch9)), (y11, .inl (cI, 70, .inl takeUnits9))] (fun w0 => w0 = [(h0, .inr (6, [.int n9, .int tk9, .ref x0, .ref x1, .ref x2, .ref x3, .ref x4, .ref x5, .ref x6, .ref x7, .ref x8, .ref x9, .ref x10, .ref x11])), (x0, .inl (cI, 30, .inl good9)), (x1, .inl (cI, 30, .inl wanted9)), (x2, .inl (cI, 30, .inl got9)), (x3, .inl (cI, 30, .inl replaced9)), (x4, .inl (cI, 30, .inl least9)), (x5, .inl (cI, 30, .inl accepts9)), (x6, .inl (cI, 30, .inl parts9)), (x7, .inl (cI, 30, .inl due9)), (x8, .inl (cI, 30, .inl day9)), (x9, .inl (cI, 30, .inl firstTake9)), (x10, .inl (cI, 70, .inl takeBatch9)), (x11, .inl (cI, 70, .inl takeUnits9)), (o0, .inr (6, [.int n9, .int tk9, .ref y0, .ref y1, .ref y2, .ref y3, .ref y4, .ref y5, .ref y6, .ref y7, .ref y8, .ref y9, .ref y10, .ref y11])), (y0, .inl (cI, 30, .inl good9)), (y1, .inl (cI, 30, .inl wanted9)), (y2, .inl (cI, 30, .inl got9)), (y3, .inl (cI, 30, .inl replaced9)), (y4, .inl (cI, 30, .inl least9)), (y5, .inl (cI, 30, .inl accepts9)), (y6, .inl (cI, 30, .inl parts9)), (y7, .inl (cI, 30, .inl due9)), (y8, .inl (cI, 30, .inl day9)), (y9, .inl (cI, 30, .inl firstTake9)), (y10, .inl (cI, 70, .inl takeBatch9)), (y11, .inl (cI, 70, .inl takeUnits9))])) 0 0 (va_B [(h0, .inr (6, [.int n, .int tk, .ref x0, .ref x1, .ref x2, .ref x3, .ref x4, .ref x5, .ref x6, .ref x7, .ref x8, .ref x9, .ref x10, .ref x11])), (x0, .inl (cI, 30, .inl good)), (x1, .inl (cI, 30, .inl wanted)), (x2, .inl (cI, 30, .inl got)), (x3, .inl (cI, 30, .inl replaced)), (x4, .inl (cI, 30, .inl least)), (x5, .inl (cI, 30, .inl accepts)), (x6, .inl (cI, 30, .inl parts)), (x7, .inl (cI, 30, .inl due)), (x8, .inl (cI, 30, .inl day)), (x9, .inl (cI, 30, .inl firstTake)), (x10, .inl (cI, 70, .inl takeBatch)), (x11, .inl (cI, 70, .inl takeUnits)), (o0, .inr (6, [.int n9, .int tk9, .ref y0, .ref y1, .ref y2, .ref y3, .ref y4, .ref y5, .ref y6, .ref y7, .ref y8, .ref y9, .ref y10, .ref y11])), (y0, .inl (cI, 30, .inl good9)), (y1, .inl (cI, 30, .inl wanted9)), (y2, .inl (cI, 30, .inl got9)), (y3, .inl (cI, 30, .inl replaced9)), (y4, .inl (cI, 30, .inl least9)), (y5, .inl (cI, 30, .inl accepts9)), (y6, .inl (cI, 30, .inl parts9)), (y7, .inl (cI, 30, .inl due9)), (y8, .inl (cI, 30, .inl day9)), (y9, .inl (cI, 30, .inl firstTake9)), (y10, .inl (cI, 70, .inl takeBatch9)), (y11, .inl (cI, 70, .inl takeUnits9))]) := by
  refine Met.ofW (cc := cX6_copyFrom) (maxL := 2) (ret := none) (by decide) rfl ?_
  intro p e s m args below meth c s₁ B hml hv
  obtain ⟨rfl, hP, hK, hD0, hN⟩ := hv
  have hx := B.exec
  have hb := B.bytes
  have hr := B.returns
  have hts := atoms_spec (ws := wsX6_copyFrom) B.pre
  have hown : s.vm.findClass RX6 = some m.cls := findClass_of_methodNamed B.named
  have hlocks := B.notSynchronized
  have k_15 := hts (Cond.fieldLink RX6 15 "ShelfStages$Orders" "wanted" "[I") (by decide +kernel)
  have k_18 := hts (Cond.fieldLink RX6 18 "ShelfStages$Orders" "got" "[I") (by decide +kernel)
  have k_21 := hts (Cond.fieldLink RX6 21 "ShelfStages$Orders" "replaced" "[I") (by decide +kernel)
  have k_24 := hts (Cond.fieldLink RX6 24 "ShelfStages$Orders" "least" "[I") (by decide +kernel)
  have k_27 := hts (Cond.fieldLink RX6 27 "ShelfStages$Orders" "accepts" "[I") (by decide +kernel)
  have k_30 := hts (Cond.fieldLink RX6 30 "ShelfStages$Orders" "parts" "[I") (by decide +kernel)
  have k_33 := hts (Cond.fieldLink RX6 33 "ShelfStages$Orders" "due" "[I") (by decide +kernel)
  have k_36 := hts (Cond.fieldLink RX6 36 "ShelfStages$Orders" "day" "[I") (by decide +kernel)
  have k_39 := hts (Cond.fieldLink RX6 39 "ShelfStages$Orders" "firstTake" "[I") (by decide +kernel)
  have k_42 := hts (Cond.fieldLink RX6 42 "ShelfStages$Orders" "takeBatch" "[I") (by decide +kernel)
  have k_45 := hts (Cond.fieldLink RX6 45 "ShelfStages$Orders" "takeUnits" "[I") (by decide +kernel)
  have k_48 := hts (Cond.fieldLink RX6 48 "ShelfStages$Orders" "size" "I") (by decide +kernel)
  have k_52 := hts (Cond.fieldLink RX6 52 "ShelfStages$Orders" "takes" "I") (by decide +kernel)
  have k_9 := hts (Cond.fieldLink RX6 9 "ShelfStages$Orders" "good" "[I") (by decide +kernel)
  have ki_RX9 := hts (Cond.initialized RX9) (by decide +kernel)
  have ks_X9_copyRow := hts (Cond.static yX9_copyRow) (by decide +kernel)
  have i_X6 : ∀ w ∈ wsX60, w ∈ wsX6_copyFrom := by decide +kernel
  obtain ⟨A, hA⟩ : ∃ A, A = va_B [(h0, .inr (6, [.int n, .int tk, .ref x0, .ref x1, .ref x2, .ref x3, .ref x4, .ref x5, .ref x6, .ref x7, .ref x8, .ref x9, .ref x10, .ref x11])), (x0, .inl (cI, 30, .inl good)), (x1, .inl (cI, 30, .inl wanted)), (x2, .inl (cI, 30, .inl got)), (x3, .inl (cI, 30, .inl replaced)), (x4, .inl (cI, 30, .inl least)), (x5, .inl (cI, 30, .inl accepts)), (x6, .inl (cI, 30, .inl parts)), (x7, .inl (cI, 30, .inl due)), (x8, .inl (cI, 30, .inl day)), (x9, .inl (cI, 30, .inl firstTake)), (x10, .inl (cI, 70, .inl takeBatch)), (x11, .inl (cI, 70, .inl takeUnits)), (o0, .inr (6, [.int n9, .int tk9, .ref y0, .ref y1, .ref y2, .ref y3, .ref y4, .ref y5, .ref y6, .ref y7, .ref y8, .ref y9, .ref y10, .ref y11])), (y0, .inl (cI, 30, .inl good9)), (y1, .inl (cI, 30, .inl wanted9)), (y2, .inl (cI, 30, .inl got9)), (y3, .inl (cI, 30, .inl replaced9)), (y4, .inl (cI, 30, .inl least9)), (y5, .inl (cI, 30, .inl accepts9)), (y6, .inl (cI, 30, .inl parts9)), (y7, .inl (cI, 30, .inl due9)), (y8, .inl (cI, 30, .inl day9)), (y9, .inl (cI, 30, .inl firstTake9)), (y10, .inl (cI, 70, .inl takeBatch9)), (y11, .inl (cI, 70, .inl takeUnits9))] := ⟨_, rfl⟩
  have hD : va_D A [(h0, .inr (6, [.int n, .int tk, .ref x0, .ref x1, .ref x2, .ref x3, .ref x4, .ref x5, .ref x6, .ref x7, .ref x8, .ref x9, .ref x10, .ref x11])), (x0, .inl (cI, 30, .inl good)), (x1, .inl (cI, 30, .inl wanted)), (x2, .inl (cI, 30, .inl got)), (x3, .inl (cI, 30, .inl replaced)), (x4, .inl (cI, 30, .inl least)), (x5, .inl (cI, 30, .inl accepts)), (x6, .inl (cI, 30, .inl parts)), (x7, .inl (cI, 30, .inl due)), (x8, .inl (cI, 30, .inl day)), (x9, .inl (cI, 30, .inl firstTake)), (x10, .inl (cI, 70, .inl takeBatch)), (x11, .inl (cI, 70, .inl takeUnits)), (o0, .inr (6, [.int n9, .int tk9, .ref y0, .ref y1, .ref y2, .ref y3, .ref y4, .ref y5, .ref y6, .ref y7, .ref y8, .ref y9, .ref y10, .ref y11])), (y0, .inl (cI, 30, .inl good9)), (y1, .inl (cI, 30, .inl wanted9)), (y2, .inl (cI, 30, .inl got9)), (y3, .inl (cI, 30, .inl replaced9)), (y4, .inl (cI, 30, .inl least9)), (y5, .inl (cI, 30, .inl accepts9)), (y6, .inl (cI, 30, .inl parts9)), (y7, .inl (cI, 30, .inl due9)), (y8, .inl (cI, 30, .inl day9)), (y9, .inl (cI, 30, .inl firstTake9)), (y10, .inl (cI, 70, .inl takeBatch9)), (y11, .inl (cI, 70, .inl takeUnits9))] := hA ▸ hD0.own
  have hS : va_S A s.heap s.heap [] := va_S.rf
  have hl := lv_entry ([.ref h0, .ref o0]) (n := 2) (Nat.le_of_ble_eq_true rfl)
  rw [lg_entry_eq]
  generalize (lg_sl ([.ref h0, .ref o0]) ++ List.replicate (2 - (lg_sl ([.ref h0, .ref o0])).length) Slot.unset).toArray = ls at hl ⊢
  have hl : lv_has ls 2 [(0, .ref h0), (1, .ref o0)] := hl
  refine lv_aload_n hx hb dX6_copyFrom_0 rfl (lv_at hl 0 rfl) ?_
  refine lv_aload_n hx hb dX6_copyFrom_1 rfl (lv_at hl 1 rfl) ?_
  refine va_get (D := (dC, dI)) (ci := 6) (v := .int n9) (C := RX6) (T := TX6) (N := 14) hx hb hts i_X6 hown hK hP 13 rfl rfl 0 (by decide) k_48 (fun _ h9 => h9) rfl dX6_copyFrom_2 ?_
  refine va_put (D := (dC, dI)) (ci := 6) (v := .int n9) (ty := .int) (C := RX6) (T := TX6) (N := 14) hx hb hts i_X6 tyX6 tyX6_ok nmX6 hown hK hP hD hS 0 rfl rfl 0 (by decide) k_48 (fun _ h9 => h9) rfl (by decide +kernel) rfl rfl (Nat.le_of_ble_eq_true rfl) dX6_copyFrom_5 (fun H locs hP hD hS => ?_)
  have hP : va_P (dC, dI) vwCl [(h0, .inr (6, [.int n9, .int tk, .ref x0, .ref x1, .ref x2, .ref x3, .ref x4, .ref x5, .ref x6, .ref x7, .ref x8, .ref x9, .ref x10, .ref x11])), (x0, .inl (cI, 30, .inl good)), (x1, .inl (cI, 30, .inl wanted)), (x2, .inl (cI, 30, .inl got)), (x3, .inl (cI, 30, .inl replaced)), (x4, .inl (cI, 30, .inl least)), (x5, .inl (cI, 30, .inl accepts)), (x6, .inl (cI, 30, .inl parts)), (x7, .inl (cI, 30, .inl due)), (x8, .inl (cI, 30, .inl day)), (x9, .inl (cI, 30, .inl firstTake)), (x10, .inl (cI, 70, .inl takeBatch)), (x11, .inl (cI, 70, .inl takeUnits)), (o0, .inr (6, [.int n9, .int tk9, .ref y0, .ref y1, .ref y2, .ref y3, .ref y4, .ref y5, .ref y6, .ref y7, .ref y8, .ref y9, .ref y10, .ref y11])), (y0, .inl (cI, 30, .inl good9)), (y1, .inl (cI, 30, .inl wanted9)), (y2, .inl (cI, 30, .inl got9)), (y3, .inl (cI, 30, .inl replaced9)), (y4, .inl (cI, 30, .inl least9)), (y5, .inl (cI, 30, .inl accepts9)), (y6, .inl (cI, 30, .inl parts9)), (y7, .inl (cI, 30, .inl due9)), (y8, .inl (cI, 30, .inl day9)), (y9, .inl (cI, 30, .inl firstTake9)), (y10, .inl (cI, 70, .inl takeBatch9)), (y11, .inl (cI, 70, .inl takeUnits9))] H := hP
  have hD : va_D A [(h0, .inr (6, [.int n9, .int tk, .ref x0, .ref x1, .ref x2, .ref x3, .ref x4, .ref x5, .ref x6, .ref x7, .ref x8, .ref x9, .ref x10, .ref x11])), (x0, .inl (cI, 30, .inl good)), (x1, .inl (cI, 30, .inl wanted)), (x2, .inl (cI, 30, .inl got)), (x3, .inl (cI, 30, .inl replaced)), (x4, .inl (cI, 30, .inl least)), (x5, .inl (cI, 30, .inl accepts)), (x6, .inl (cI, 30, .inl parts)), (x7, .inl (cI, 30, .inl due)), (x8, .inl (cI, 30, .inl day)), (x9, .inl (cI, 30, .inl firstTake)), (x10, .inl (cI, 70, .inl takeBatch)), (x11, .inl (cI, 70, .inl takeUnits)), (o0, .inr (6, [.int n9, .int tk9, .ref y0, .ref y1, .ref y2, .ref y3, .ref y4, .ref y5, .ref y6, .ref y7, .ref y8, .ref y9, .ref y10, .ref y11])), (y0, .inl (cI, 30, .inl good9)), (y1, .inl (cI, 30, .inl wanted9)), (y2, .inl (cI, 30, .inl got9)), (y3, .inl (cI, 30, .inl replaced9)), (y4, .inl (cI, 30, .inl least9)), (y5, .inl (cI, 30, .inl accepts9)), (y6, .inl (cI, 30, .inl parts9)), (y7, .inl (cI, 30, .inl due9)), (y8, .inl (cI, 30, .inl day9)), (y9, .inl (cI, 30, .inl firstTake9)), (y10, .inl (cI, 70, .inl takeBatch9)), (y11, .inl (cI, 70, .inl takeUnits9))] := hD
  refine lv_aload_n hx hb dX6_copyFrom_8 rfl (lv_at hl 0 rfl) ?_
  refine lv_aload_n hx hb dX6_copyFrom_9 rfl (lv_at hl 1 rfl) ?_
  refine va_get (D := (dC, dI)) (ci := 6) (v := .int tk9) (C := RX6) (T := TX6) (N := 14) hx hb hts i_X6 hown hK hP 13 rfl rfl 1 (by decide) k_52 (fun _ h9 => h9) rfl dX6_copyFrom_10 ?_
  refine va_put (D := (dC, dI)) (ci := 6) (v := .int tk9) (ty := .int) (C := RX6) (T := TX6) (N := 14) hx hb hts i_X6 tyX6 tyX6_ok nmX6 hown hK hP hD hS 0 rfl rfl 1 (by decide) k_52 (fun _ h9 => h9) rfl (by decide +kernel) rfl rfl (Nat.le_of_ble_eq_true rfl) dX6_copyFrom_13 (fun H locs hP hD hS => ?_)
  have hP : va_P (dC, dI) vwCl [(h0, .inr (6, [.int n9, .int tk9, .ref x0, .ref x1, .ref x2, .ref x3, .ref x4, .ref x5, .ref x6, .ref x7, .ref x8, .ref x9, .ref x10, .ref x11])), (x0, .inl (cI, 30, .inl good)), (x1, .inl (cI, 30, .inl wanted)), (x2, .inl (cI, 30, .inl got)), (x3, .inl (cI, 30, .inl replaced)), (x4, .inl (cI, 30, .inl least)), (x5, .inl (cI, 30, .inl accepts)), (x6, .inl (cI, 30, .inl parts)), (x7, .inl (cI, 30, .inl due)), (x8, .inl (cI, 30, .inl day)), (x9, .inl (cI, 30, .inl firstTake)), (x10, .inl (cI, 70, .inl takeBatch)), (x11, .inl (cI, 70, .inl takeUnits)), (o0, .inr (6, [.int n9, .int tk9, .ref y0, .ref y1, .ref y2, .ref y3, .ref y4, .ref y5, .ref y6, .ref y7, .ref y8, .ref y9, .ref y10, .ref y11])), (y0, .inl (cI, 30, .inl good9)), (y1, .inl (cI, 30, .inl wanted9)), (y2, .inl (cI, 30, .inl got9)), (y3, .inl (cI, 30, .inl replaced9)), (y4, .inl (cI, 30, .inl least9)), (y5, .inl (cI, 30, .inl accepts9)), (y6, .inl (cI, 30, .inl parts9)), (y7, .inl (cI, 30, .inl due9)), (y8, .inl (cI, 30, .inl day9)), (y9, .inl (cI, 30, .inl firstTake9)), (y10, .inl (cI, 70, .inl takeBatch9)), (y11, .inl (cI, 70, .inl takeUnits9))] H := hP
  have hD : va_D A [(h0, .inr (6, [.int n9, .int tk9, .ref x0, .ref x1, .ref x2, .ref x3, .ref x4, .ref x5, .ref x6, .ref x7, .ref x8, .ref x9, .ref x10, .ref x11])), (x0, .inl (cI, 30, .inl good)), (x1, .inl (cI, 30, .inl wanted)), (x2, .inl (cI, 30, .inl got)), (x3, .inl (cI, 30, .inl replaced)), (x4, .inl (cI, 30, .inl least)), (x5, .inl (cI, 30, .inl accepts)), (x6, .inl (cI, 30, .inl parts)), (x7, .inl (cI, 30, .inl due)), (x8, .inl (cI, 30, .inl day)), (x9, .inl (cI, 30, .inl firstTake)), (x10, .inl (cI, 70, .inl takeBatch)), (x11, .inl (cI, 70, .inl takeUnits)), (o0, .inr (6, [.int n9, .int tk9, .ref y0, .ref y1, .ref y2, .ref y3, .ref y4, .ref y5, .ref y6, .ref y7, .ref y8, .ref y9, .ref y10, .ref y11])), (y0, .inl (cI, 30, .inl good9)), (y1, .inl (cI, 30, .inl wanted9)), (y2, .inl (cI, 30, .inl got9)), (y3, .inl (cI, 30, .inl replaced9)), (y4, .inl (cI, 30, .inl least9)), (y5, .inl (cI, 30, .inl accepts9)), (y6, .inl (cI, 30, .inl parts9)), (y7, .inl (cI, 30, .inl due9)), (y8, .inl (cI, 30, .inl day9)), (y9, .inl (cI, 30, .inl firstTake9)), (y10, .inl (cI, 70, .inl takeBatch9)), (y11, .inl (cI, 70, .inl takeUnits9))] := hD
  refine lv_aload_n hx hb dX6_copyFrom_16 rfl (lv_at hl 1 rfl) ?_
  refine va_get (D := (dC, dI)) (ci := 6) (v := .ref y0) (C := RX6) (T := TX6) (N := 14) hx hb hts i_X6 hown hK hP 13 rfl rfl 2 (by decide) k_9 (fun _ h9 => h9) rfl dX6_copyFrom_17 ?_
  refine lv_aload_n hx hb dX6_copyFrom_20 rfl (lv_at hl 0 rfl) ?_
  refine va_get (D := (dC, dI)) (ci := 6) (v := .ref x0) (C := RX6) (T := TX6) (N := 14) hx hb hts i_X6 hown hK hP 0 rfl rfl 2 (by decide) k_9 (fun _ h9 => h9) rfl dX6_copyFrom_21 ?_
  refine xkV2 (xSN (As := [.ref y0, .ref x0]) (rest := []) (wc := [(y0, .inl (cI, 30, .inl good9)), (x0, .inl (cI, 30, .inl good))]) hx hb hml hown hts (c_X9_copyRow l dC dI cI cF cC cZ cQ cS y0 good9 x0 good 30 (by omega)) 2 gX6_copyFrom_X9_copyRow_n55 rfl rfl rfl (hN (RX6, 55, yX9_copyRow) (List.mem_of_getElem? (i := 11) rfl)) ki_RX9 ks_X9_copyRow hdN_X9_copyRow ⟨Nat.le_of_ble_eq_true rfl, Nat.le_of_ble_eq_true rfl⟩ hN hK hP hD [14, 1] rfl rfl rfl hl.1 rfl (Nat.le_of_ble_eq_true rfl) dX6_copyFrom_24 ⟨Nat.zero_le _, Nat.zero_le _⟩) hP hD hS [14, 1] [0, 1, 2, 3, 4, 5, 6, 7, 8, 9, 10, 11, 12, 13, 14, 15, 16, 17, 18, 19, 20, 21, 22, 23, 24, 25] rfl rfl 26 rfl (by decide +kernel) (fun H locs hP hD hS => ?_)
  have hP : va_P (dC, dI) vwCl [(h0, .inr (6, [.int n9, .int tk9, .ref x0, .ref x1, .ref x2, .ref x3, .ref x4, .ref x5, .ref x6, .ref x7, .ref x8, .ref x9, .ref x10, .ref x11])), (x0, .inl (cI, 30, .inl good9)), (x1, .inl (cI, 30, .inl wanted)), (x2, .inl (cI, 30, .inl got)), (x3, .inl (cI, 30, .inl replaced)), (x4, .inl (cI, 30, .inl least)), (x5, .inl (cI, 30, .inl accepts)), (x6, .inl (cI, 30, .inl parts)), (x7, .inl (cI, 30, .inl due)), (x8, .inl (cI, 30, .inl day)), (x9, .inl (cI, 30, .inl firstTake)), (x10, .inl (cI, 70, .inl takeBatch)), (x11, .inl (cI, 70, .inl takeUnits)), (o0, .inr (6, [.int n9, .int tk9, .ref y0, .ref y1, .ref y2, .ref y3, .ref y4, .ref y5, .ref y6, .ref y7, .ref y8, .ref y9, .ref y10, .ref y11])), (y0, .inl (cI, 30, .inl good9)), (y1, .inl (cI, 30, .inl wanted9)), (y2, .inl (cI, 30, .inl got9)), (y3, .inl (cI, 30, .inl replaced9)), (y4, .inl (cI, 30, .inl least9)), (y5, .inl (cI, 30, .inl accepts9)), (y6, .inl (cI, 30, .inl parts9)), (y7, .inl (cI, 30, .inl due9)), (y8, .inl (cI, 30, .inl day9)), (y9, .inl (cI, 30, .inl firstTake9)), (y10, .inl (cI, 70, .inl takeBatch9)), (y11, .inl (cI, 70, .inl takeUnits9))] H := hP
  have hD : va_D A [(h0, .inr (6, [.int n9, .int tk9, .ref x0, .ref x1, .ref x2, .ref x3, .ref x4, .ref x5, .ref x6, .ref x7, .ref x8, .ref x9, .ref x10, .ref x11])), (x0, .inl (cI, 30, .inl good9)), (x1, .inl (cI, 30, .inl wanted)), (x2, .inl (cI, 30, .inl got)), (x3, .inl (cI, 30, .inl replaced)), (x4, .inl (cI, 30, .inl least)), (x5, .inl (cI, 30, .inl accepts)), (x6, .inl (cI, 30, .inl parts)), (x7, .inl (cI, 30, .inl due)), (x8, .inl (cI, 30, .inl day)), (x9, .inl (cI, 30, .inl firstTake)), (x10, .inl (cI, 70, .inl takeBatch)), (x11, .inl (cI, 70, .inl takeUnits)), (o0, .inr (6, [.int n9, .int tk9, .ref y0, .ref y1, .ref y2, .ref y3, .ref y4, .ref y5, .ref y6, .ref y7, .ref y8, .ref y9, .ref y10, .ref y11])), (y0, .inl (cI, 30, .inl good9)), (y1, .inl (cI, 30, .inl wanted9)), (y2, .inl (cI, 30, .inl got9)), (y3, .inl (cI, 30, .inl replaced9)), (y4, .inl (cI, 30, .inl least9)), (y5, .inl (cI, 30, .inl accepts9)), (y6, .inl (cI, 30, .inl parts9)), (y7, .inl (cI, 30, .inl due9)), (y8, .inl (cI, 30, .inl day9)), (y9, .inl (cI, 30, .inl firstTake9)), (y10, .inl (cI, 70, .inl takeBatch9)), (y11, .inl (cI, 70, .inl takeUnits9))] := hD
  refine lv_aload_n hx hb dX6_copyFrom_27 rfl (lv_at hl 1 rfl) ?_
  refine va_get (D := (dC, dI)) (ci := 6) (v := .ref y1) (C := RX6) (T := TX6) (N := 14) hx hb hts i_X6 hown hK hP 13 rfl rfl 3 (by decide) k_15 (fun _ h9 => h9) rfl dX6_copyFrom_28 ?_
  refine lv_aload_n hx hb dX6_copyFrom_31 rfl (lv_at hl 0 rfl) ?_
  refine va_get (D := (dC, dI)) (ci := 6) (v := .ref x1) (C := RX6) (T := TX6) (N := 14) hx hb hts i_X6 hown hK hP 0 rfl rfl 3 (by decide) k_15 (fun _ h9 => h9) rfl dX6_copyFrom_32 ?_
  refine xkV2 (xSN (As := [.ref y1, .ref x1]) (rest := []) (wc := [(y1, .inl (cI, 30, .inl wanted9)), (x1, .inl (cI, 30, .inl wanted))]) hx hb hml hown hts (c_X9_copyRow l dC dI cI cF cC cZ cQ cS y1 wanted9 x1 wanted 30 (by omega)) 2 gX6_copyFrom_X9_copyRow_n55 rfl rfl rfl (hN (RX6, 55, yX9_copyRow) (List.mem_of_getElem? (i := 11) rfl)) ki_RX9 ks_X9_copyRow hdN_X9_copyRow ⟨Nat.le_of_ble_eq_true rfl, Nat.le_of_ble_eq_true rfl⟩ hN hK hP hD [15, 2] rfl rfl rfl hl.1 rfl (Nat.le_of_ble_eq_true rfl) dX6_copyFrom_35 ⟨Nat.zero_le _, Nat.zero_le _⟩) hP hD hS [15, 2] [0, 1, 2, 3, 4, 5, 6, 7, 8, 9, 10, 11, 12, 13, 14, 15, 16, 17, 18, 19, 20, 21, 22, 23, 24, 25] rfl rfl 26 rfl (by decide +kernel) (fun H locs hP hD hS => ?_)
  have hP : va_P (dC, dI) vwCl [(h0, .inr (6, [.int n9, .int tk9, .ref x0, .ref x1, .ref x2, .ref x3, .ref x4, .ref x5, .ref x6, .ref x7, .ref x8, .ref x9, .ref x10, .ref x11])), (x0, .inl (cI, 30, .inl good9)), (x1, .inl (cI, 30, .inl wanted9)), (x2, .inl (cI, 30, .inl got)), (x3, .inl (cI, 30, .inl replaced)), (x4, .inl (cI, 30, .inl least)), (x5, .inl (cI, 30, .inl accepts)), (x6, .inl (cI, 30, .inl parts)), (x7, .inl (cI, 30, .inl due)), (x8, .inl (cI, 30, .inl day)), (x9, .inl (cI, 30, .inl firstTake)), (x10, .inl (cI, 70, .inl takeBatch)), (x11, .inl (cI, 70, .inl takeUnits)), (o0, .inr (6, [.int n9, .int tk9, .ref y0, .ref y1, .ref y2, .ref y3, .ref y4, .ref y5, .ref y6, .ref y7, .ref y8, .ref y9, .ref y10, .ref y11])), (y0, .inl (cI, 30, .inl good9)), (y1, .inl (cI, 30, .inl wanted9)), (y2, .inl (cI, 30, .inl got9)), (y3, .inl (cI, 30, .inl replaced9)), (y4, .inl (cI, 30, .inl least9)), (y5, .inl (cI, 30, .inl accepts9)), (y6, .inl (cI, 30, .inl parts9)), (y7, .inl (cI, 30, .inl due9)), (y8, .inl (cI, 30, .inl day9)), (y9, .inl (cI, 30, .inl firstTake9)), (y10, .inl (cI, 70, .inl takeBatch9)), (y11, .inl (cI, 70, .inl takeUnits9))] H := hP
  have hD : va_D A [(h0, .inr (6, [.int n9, .int tk9, .ref x0, .ref x1, .ref x2, .ref x3, .ref x4, .ref x5, .ref x6, .ref x7, .ref x8, .ref x9, .ref x10, .ref x11])), (x0, .inl (cI, 30, .inl good9)), (x1, .inl (cI, 30, .inl wanted9)), (x2, .inl (cI, 30, .inl got)), (x3, .inl (cI, 30, .inl replaced)), (x4, .inl (cI, 30, .inl least)), (x5, .inl (cI, 30, .inl accepts)), (x6, .inl (cI, 30, .inl parts)), (x7, .inl (cI, 30, .inl due)), (x8, .inl (cI, 30, .inl day)), (x9, .inl (cI, 30, .inl firstTake)), (x10, .inl (cI, 70, .inl takeBatch)), (x11, .inl (cI, 70, .inl takeUnits)), (o0, .inr (6, [.int n9, .int tk9, .ref y0, .ref y1, .ref y2, .ref y3, .ref y4, .ref y5, .ref y6, .ref y7, .ref y8, .ref y9, .ref y10, .ref y11])), (y0, .inl (cI, 30, .inl good9)), (y1, .inl (cI, 30, .inl wanted9)), (y2, .inl (cI, 30, .inl got9)), (y3, .inl (cI, 30, .inl replaced9)), (y4, .inl (cI, 30, .inl least9)), (y5, .inl (cI, 30, .inl accepts9)), (y6, .inl (cI, 30, .inl parts9)), (y7, .inl (cI, 30, .inl due9)), (y8, .inl (cI, 30, .inl day9)), (y9, .inl (cI, 30, .inl firstTake9)), (y10, .inl (cI, 70, .inl takeBatch9)), (y11, .inl (cI, 70, .inl takeUnits9))] := hD
  refine lv_aload_n hx hb dX6_copyFrom_38 rfl (lv_at hl 1 rfl) ?_
  refine va_get (D := (dC, dI)) (ci := 6) (v := .ref y2) (C := RX6) (T := TX6) (N := 14) hx hb hts i_X6 hown hK hP 13 rfl rfl 4 (by decide) k_18 (fun _ h9 => h9) rfl dX6_copyFrom_39 ?_
  refine lv_aload_n hx hb dX6_copyFrom_42 rfl (lv_at hl 0 rfl) ?_
  refine va_get (D := (dC, dI)) (ci := 6) (v := .ref x2) (C := RX6) (T := TX6) (N := 14) hx hb hts i_X6 hown hK hP 0 rfl rfl 4 (by decide) k_18 (fun _ h9 => h9) rfl dX6_copyFrom_43 ?_
  refine xkV2 (xSN (As := [.ref y2, .ref x2]) (rest := []) (wc := [(y2, .inl (cI, 30, .inl got9)), (x2, .inl (cI, 30, .inl got))]) hx hb hml hown hts (c_X9_copyRow l dC dI cI cF cC cZ cQ cS y2 got9 x2 got 30 (by omega)) 2 gX6_copyFrom_X9_copyRow_n55 rfl rfl rfl (hN (RX6, 55, yX9_copyRow) (List.mem_of_getElem? (i := 11) rfl)) ki_RX9 ks_X9_copyRow hdN_X9_copyRow ⟨Nat.le_of_ble_eq_true rfl, Nat.le_of_ble_eq_true rfl⟩ hN hK hP hD [16, 3] rfl rfl rfl hl.1 rfl (Nat.le_of_ble_eq_true rfl) dX6_copyFrom_46 ⟨Nat.zero_le _, Nat.zero_le _⟩) hP hD hS [16, 3] [0, 1, 2, 3, 4, 5, 6, 7, 8, 9, 10, 11, 12, 13, 14, 15, 16, 17, 18, 19, 20, 21, 22, 23, 24, 25] rfl rfl 26 rfl (by decide +kernel) (fun H locs hP hD hS => ?_)
  have hP : va_P (dC, dI) vwCl [(h0, .inr (6, [.int n9, .int tk9, .ref x0, .ref x1, .ref x2, .ref x3, .ref x4, .ref x5, .ref x6, .ref x7, .ref x8, .ref x9, .ref x10, .ref x11])), (x0, .inl (cI, 30, .inl good9)), (x1, .inl (cI, 30, .inl wanted9)), (x2, .inl (cI, 30, .inl got9)), (x3, .inl (cI, 30, .inl replaced)), (x4, .inl (cI, 30, .inl least)), (x5, .inl (cI, 30, .inl accepts)), (x6, .inl (cI, 30, .inl parts)), (x7, .inl (cI, 30, .inl due)), (x8, .inl (cI, 30, .inl day)), (x9, .inl (cI, 30, .inl firstTake)), (x10, .inl (cI, 70, .inl takeBatch)), (x11, .inl (cI, 70, .inl takeUnits)), (o0, .inr (6, [.int n9, .int tk9, .ref y0, .ref y1, .ref y2, .ref y3, .ref y4, .ref y5, .ref y6, .ref y7, .ref y8, .ref y9, .ref y10, .ref y11])), (y0, .inl (cI, 30, .inl good9)), (y1, .inl (cI, 30, .inl wanted9)), (y2, .inl (cI, 30, .inl got9)), (y3, .inl (cI, 30, .inl replaced9)), (y4, .inl (cI, 30, .inl least9)), (y5, .inl (cI, 30, .inl accepts9)), (y6, .inl (cI, 30, .inl parts9)), (y7, .inl (cI, 30, .inl due9)), (y8, .inl (cI, 30, .inl day9)), (y9, .inl (cI, 30, .inl firstTake9)), (y10, .inl (cI, 70, .inl takeBatch9)), (y11, .inl (cI, 70, .inl takeUnits9))] H := hP
  have hD : va_D A [(h0, .inr (6, [.int n9, .int tk9, .ref x0, .ref x1, .ref x2, .ref x3, .ref x4, .ref x5, .ref x6, .ref x7, .ref x8, .ref x9, .ref x10, .ref x11])), (x0, .inl (cI, 30, .inl good9)), (x1, .inl (cI, 30, .inl wanted9)), (x2, .inl (cI, 30, .inl got9)), (x3, .inl (cI, 30, .inl replaced)), (x4, .inl (cI, 30, .inl least)), (x5, .inl (cI, 30, .inl accepts)), (x6, .inl (cI, 30, .inl parts)), (x7, .inl (cI, 30, .inl due)), (x8, .inl (cI, 30, .inl day)), (x9, .inl (cI, 30, .inl firstTake)), (x10, .inl (cI, 70, .inl takeBatch)), (x11, .inl (cI, 70, .inl takeUnits)), (o0, .inr (6, [.int n9, .int tk9, .ref y0, .ref y1, .ref y2, .ref y3, .ref y4, .ref y5, .ref y6, .ref y7, .ref y8, .ref y9, .ref y10, .ref y11])), (y0, .inl (cI, 30, .inl good9)), (y1, .inl (cI, 30, .inl wanted9)), (y2, .inl (cI, 30, .inl got9)), (y3, .inl (cI, 30, .inl replaced9)), (y4, .inl (cI, 30, .inl least9)), (y5, .inl (cI, 30, .inl accepts9)), (y6, .inl (cI, 30, .inl parts9)), (y7, .inl (cI, 30, .inl due9)), (y8, .inl (cI, 30, .inl day9)), (y9, .inl (cI, 30, .inl firstTake9)), (y10, .inl (cI, 70, .inl takeBatch9)), (y11, .inl (cI, 70, .inl takeUnits9))] := hD
  refine lv_aload_n hx hb dX6_copyFrom_49 rfl (lv_at hl 1 rfl) ?_
  refine va_get (D := (dC, dI)) (ci := 6) (v := .ref y3) (C := RX6) (T := TX6) (N := 14) hx hb hts i_X6 hown hK hP 13 rfl rfl 5 (by decide) k_21 (fun _ h9 => h9) rfl dX6_copyFrom_50 ?_
  refine lv_aload_n hx hb dX6_copyFrom_53 rfl (lv_at hl 0 rfl) ?_
  refine va_get (D := (dC, dI)) (ci := 6) (v := .ref x3) (C := RX6) (T := TX6) (N := 14) hx hb hts i_X6 hown hK hP 0 rfl rfl 5 (by decide) k_21 (fun _ h9 => h9) rfl dX6_copyFrom_54 ?_
  refine xkV2 (xSN (As := [.ref y3, .ref x3]) (rest := []) (wc := [(y3, .inl (cI, 30, .inl replaced9)), (x3, .inl (cI, 30, .inl replaced))]) hx hb hml hown hts (c_X9_copyRow l dC dI cI cF cC cZ cQ cS y3 replaced9 x3 replaced 30 (by omega)) 2 gX6_copyFrom_X9_copyRow_n55 rfl rfl rfl (hN (RX6, 55, yX9_copyRow) (List.mem_of_getElem? (i := 11) rfl)) ki_RX9 ks_X9_copyRow hdN_X9_copyRow ⟨Nat.le_of_ble_eq_true rfl, Nat.le_of_ble_eq_true rfl⟩ hN hK hP hD [17, 4] rfl rfl rfl hl.1 rfl (Nat.le_of_ble_eq_true rfl) dX6_copyFrom_57 ⟨Nat.zero_le _, Nat.zero_le _⟩) hP hD hS [17, 4] [0, 1, 2, 3, 4, 5, 6, 7, 8, 9, 10, 11, 12, 13, 14, 15, 16, 17, 18, 19, 20, 21, 22, 23, 24, 25] rfl rfl 26 rfl (by decide +kernel) (fun H locs hP hD hS => ?_)
  have hP : va_P (dC, dI) vwCl [(h0, .inr (6, [.int n9, .int tk9, .ref x0, .ref x1, .ref x2, .ref x3, .ref x4, .ref x5, .ref x6, .ref x7, .ref x8, .ref x9, .ref x10, .ref x11])), (x0, .inl (cI, 30, .inl good9)), (x1, .inl (cI, 30, .inl wanted9)), (x2, .inl (cI, 30, .inl got9)), (x3, .inl (cI, 30, .inl replaced9)), (x4, .inl (cI, 30, .inl least)), (x5, .inl (cI, 30, .inl accepts)), (x6, .inl (cI, 30, .inl parts)), (x7, .inl (cI, 30, .inl due)), (x8, .inl (cI, 30, .inl day)), (x9, .inl (cI, 30, .inl firstTake)), (x10, .inl (cI, 70, .inl takeBatch)), (x11, .inl (cI, 70, .inl takeUnits)), (o0, .inr (6, [.int n9, .int tk9, .ref y0, .ref y1, .ref y2, .ref y3, .ref y4, .ref y5, .ref y6, .ref y7, .ref y8, .ref y9, .ref y10, .ref y11])), (y0, .inl (cI, 30, .inl good9)), (y1, .inl (cI, 30, .inl wanted9)), (y2, .inl (cI, 30, .inl got9)), (y3, .inl (cI, 30, .inl replaced9)), (y4, .inl (cI, 30, .inl least9)), (y5, .inl (cI, 30, .inl accepts9)), (y6, .inl (cI, 30, .inl parts9)), (y7, .inl (cI, 30, .inl due9)), (y8, .inl (cI, 30, .inl day9)), (y9, .inl (cI, 30, .inl firstTake9)), (y10, .inl (cI, 70, .inl takeBatch9)), (y11, .inl (cI, 70, .inl takeUnits9))] H := hP
  have hD : va_D A [(h0, .inr (6, [.int n9, .int tk9, .ref x0, .ref x1, .ref x2, .ref x3, .ref x4, .ref x5, .ref x6, .ref x7, .ref x8, .ref x9, .ref x10, .ref x11])), (x0, .inl (cI, 30, .inl good9)), (x1, .inl (cI, 30, .inl wanted9)), (x2, .inl (cI, 30, .inl got9)), (x3, .inl (cI, 30, .inl replaced9)), (x4, .inl (cI, 30, .inl least)), (x5, .inl (cI, 30, .inl accepts)), (x6, .inl (cI, 30, .inl parts)), (x7, .inl (cI, 30, .inl due)), (x8, .inl (cI, 30, .inl day)), (x9, .inl (cI, 30, .inl firstTake)), (x10, .inl (cI, 70, .inl takeBatch)), (x11, .inl (cI, 70, .inl takeUnits)), (o0, .inr (6, [.int n9, .int tk9, .ref y0, .ref y1, .ref y2, .ref y3, .ref y4, .ref y5, .ref y6, .ref y7, .ref y8, .ref y9, .ref y10, .ref y11])), (y0, .inl (cI, 30, .inl good9)), (y1, .inl (cI, 30, .inl wanted9)), (y2, .inl (cI, 30, .inl got9)), (y3, .inl (cI, 30, .inl replaced9)), (y4, .inl (cI, 30, .inl least9)), (y5, .inl (cI, 30, .inl accepts9)), (y6, .inl (cI, 30, .inl parts9)), (y7, .inl (cI, 30, .inl due9)), (y8, .inl (cI, 30, .inl day9)), (y9, .inl (cI, 30, .inl firstTake9)), (y10, .inl (cI, 70, .inl takeBatch9)), (y11, .inl (cI, 70, .inl takeUnits9))] := hD
  refine lv_aload_n hx hb dX6_copyFrom_60 rfl (lv_at hl 1 rfl) ?_
  refine va_get (D := (dC, dI)) (ci := 6) (v := .ref y4) (C := RX6) (T := TX6) (N := 14) hx hb hts i_X6 hown hK hP 13 rfl rfl 6 (by decide) k_24 (fun _ h9 => h9) rfl dX6_copyFrom_61 ?_
  refine lv_aload_n hx hb dX6_copyFrom_64 rfl (lv_at hl 0 rfl) ?_
  refine va_get (D := (dC, dI)) (ci := 6) (v := .ref x4) (C := RX6) (T := TX6) (N := 14) hx hb hts i_X6 hown hK hP 0 rfl rfl 6 (by decide) k_24 (fun _ h9 => h9) rfl dX6_copyFrom_65 ?_
  refine xkV2 (xSN (As := [.ref y4, .ref x4]) (rest := []) (wc := [(y4, .inl (cI, 30, .inl least9)), (x4, .inl (cI, 30, .inl least))]) hx hb hml hown hts (c_X9_copyRow l dC dI cI cF cC cZ cQ cS y4 least9 x4 least 30 (by omega)) 2 gX6_copyFrom_X9_copyRow_n55 rfl rfl rfl (hN (RX6, 55, yX9_copyRow) (List.mem_of_getElem? (i := 11) rfl)) ki_RX9 ks_X9_copyRow hdN_X9_copyRow ⟨Nat.le_of_ble_eq_true rfl, Nat.le_of_ble_eq_true rfl⟩ hN hK hP hD [18, 5] rfl rfl rfl hl.1 rfl (Nat.le_of_ble_eq_true rfl) dX6_copyFrom_68 ⟨Nat.zero_le _, Nat.zero_le _⟩) hP hD hS [18, 5] [0, 1, 2, 3, 4, 5, 6, 7, 8, 9, 10, 11, 12, 13, 14, 15, 16, 17, 18, 19, 20, 21, 22, 23, 24, 25] rfl rfl 26 rfl (by decide +kernel) (fun H locs hP hD hS => ?_)
  have hP : va_P (dC, dI) vwCl [(h0, .inr (6, [.int n9, .int tk9, .ref x0, .ref x1, .ref x2, .ref x3, .ref x4, .ref x5, .ref x6, .ref x7, .ref x8, .ref x9, .ref x10, .ref x11])), (x0, .inl (cI, 30, .inl good9)), (x1, .inl (cI, 30, .inl wanted9)), (x2, .inl (cI, 30, .inl got9)), (x3, .inl (cI, 30, .inl replaced9)), (x4, .inl (cI, 30, .inl least9)), (x5, .inl (cI, 30, .inl accepts)), (x6, .inl (cI, 30, .inl parts)), (x7, .inl (cI, 30, .inl due)), (x8, .inl (cI, 30, .inl day)), (x9, .inl (cI, 30, .inl firstTake)), (x10, .inl (cI, 70, .inl takeBatch)), (x11, .inl (cI, 70, .inl takeUnits)), (o0, .inr (6, [.int n9, .int tk9, .ref y0, .ref y1, .ref y2, .ref y3, .ref y4, .ref y5, .ref y6, .ref y7, .ref y8, .ref y9, .ref y10, .ref y11])), (y0, .inl (cI, 30, .inl good9)), (y1, .inl (cI, 30, .inl wanted9)), (y2, .inl (cI, 30, .inl got9)), (y3, .inl (cI, 30, .inl replaced9)), (y4, .inl (cI, 30, .inl least9)), (y5, .inl (cI, 30, .inl accepts9)), (y6, .inl (cI, 30, .inl parts9)), (y7, .inl (cI, 30, .inl due9)), (y8, .inl (cI, 30, .inl day9)), (y9, .inl (cI, 30, .inl firstTake9)), (y10, .inl (cI, 70, .inl takeBatch9)), (y11, .inl (cI, 70, .inl takeUnits9))] H := hP
  have hD : va_D A [(h0, .inr (6, [.int n9, .int tk9, .ref x0, .ref x1, .ref x2, .ref x3, .ref x4, .ref x5, .ref x6, .ref x7, .ref x8, .ref x9, .ref x10, .ref x11])), (x0, .inl (cI, 30, .inl good9)), (x1, .inl (cI, 30, .inl wanted9)), (x2, .inl (cI, 30, .inl got9)), (x3, .inl (cI, 30, .inl replaced9)), (x4, .inl (cI, 30, .inl least9)), (x5, .inl (cI, 30, .inl accepts)), (x6, .inl (cI, 30, .inl parts)), (x7, .inl (cI, 30, .inl due)), (x8, .inl (cI, 30, .inl day)), (x9, .inl (cI, 30, .inl firstTake)), (x10, .inl (cI, 70, .inl takeBatch)), (x11, .inl (cI, 70, .inl takeUnits)), (o0, .inr (6, [.int n9, .int tk9, .ref y0, .ref y1, .ref y2, .ref y3, .ref y4, .ref y5, .ref y6, .ref y7, .ref y8, .ref y9, .ref y10, .ref y11])), (y0, .inl (cI, 30, .inl good9)), (y1, .inl (cI, 30, .inl wanted9)), (y2, .inl (cI, 30, .inl got9)), (y3, .inl (cI, 30, .inl replaced9)), (y4, .inl (cI, 30, .inl least9)), (y5, .inl (cI, 30, .inl accepts9)), (y6, .inl (cI, 30, .inl parts9)), (y7, .inl (cI, 30, .inl due9)), (y8, .inl (cI, 30, .inl day9)), (y9, .inl (cI, 30, .inl firstTake9)), (y10, .inl (cI, 70, .inl takeBatch9)), (y11, .inl (cI, 70, .inl takeUnits9))] := hD
  refine lv_aload_n hx hb dX6_copyFrom_71 rfl (lv_at hl 1 rfl) ?_
  refine va_get (D := (dC, dI)) (ci := 6) (v := .ref y5) (C := RX6) (T := TX6) (N := 14) hx hb hts i_X6 hown hK hP 13 rfl rfl 7 (by decide) k_27 (fun _ h9 => h9) rfl dX6_copyFrom_72 ?_
  refine lv_aload_n hx hb dX6_copyFrom_75 rfl (lv_at hl 0 rfl) ?_
  refine va_get (D := (dC, dI)) (ci := 6) (v := .ref x5) (C := RX6) (T := TX6) (N := 14) hx hb hts i_X6 hown hK hP 0 rfl rfl 7 (by decide) k_27 (fun _ h9 => h9) rfl dX6_copyFrom_76 ?_
  refine xkV2 (xSN (As := [.ref y5, .ref x5]) (rest := []) (wc := [(y5, .inl (cI, 30, .inl accepts9)), (x5, .inl (cI, 30, .inl accepts))]) hx hb hml hown hts (c_X9_copyRow l dC dI cI cF cC cZ cQ cS y5 accepts9 x5 accepts 30 (by omega)) 2 gX6_copyFrom_X9_copyRow_n55 rfl rfl rfl (hN (RX6, 55, yX9_copyRow) (List.mem_of_getElem? (i := 11) rfl)) ki_RX9 ks_X9_copyRow hdN_X9_copyRow ⟨Nat.le_of_ble_eq_true rfl, Nat.le_of_ble_eq_true rfl⟩ hN hK hP hD [19, 6] rfl rfl rfl hl.1 rfl (Nat.le_of_ble_eq_true rfl) dX6_copyFrom_79 ⟨Nat.zero_le _, Nat.zero_le _⟩) hP hD hS [19, 6] [0, 1, 2, 3, 4, 5, 6, 7, 8, 9, 10, 11, 12, 13, 14, 15, 16, 17, 18, 19, 20, 21, 22, 23, 24, 25] rfl rfl 26 rfl (by decide +kernel) (fun H locs hP hD hS => ?_)
  have hP : va_P (dC, dI) vwCl [(h0, .inr (6, [.int n9, .int tk9, .ref x0, .ref x1, .ref x2, .ref x3, .ref x4, .ref x5, .ref x6, .ref x7, .ref x8, .ref x9, .ref x10, .ref x11])), (x0, .inl (cI, 30, .inl good9)), (x1, .inl (cI, 30, .inl wanted9)), (x2, .inl (cI, 30, .inl got9)), (x3, .inl (cI, 30, .inl replaced9)), (x4, .inl (cI, 30, .inl least9)), (x5, .inl (cI, 30, .inl accepts9)), (x6, .inl (cI, 30, .inl parts)), (x7, .inl (cI, 30, .inl due)), (x8, .inl (cI, 30, .inl day)), (x9, .inl (cI, 30, .inl firstTake)), (x10, .inl (cI, 70, .inl takeBatch)), (x11, .inl (cI, 70, .inl takeUnits)), (o0, .inr (6, [.int n9, .int tk9, .ref y0, .ref y1, .ref y2, .ref y3, .ref y4, .ref y5, .ref y6, .ref y7, .ref y8, .ref y9, .ref y10, .ref y11])), (y0, .inl (cI, 30, .inl good9)), (y1, .inl (cI, 30, .inl wanted9)), (y2, .inl (cI, 30, .inl got9)), (y3, .inl (cI, 30, .inl replaced9)), (y4, .inl (cI, 30, .inl least9)), (y5, .inl (cI, 30, .inl accepts9)), (y6, .inl (cI, 30, .inl parts9)), (y7, .inl (cI, 30, .inl due9)), (y8, .inl (cI, 30, .inl day9)), (y9, .inl (cI, 30, .inl firstTake9)), (y10, .inl (cI, 70, .inl takeBatch9)), (y11, .inl (cI, 70, .inl takeUnits9))] H := hP
  have hD : va_D A [(h0, .inr (6, [.int n9, .int tk9, .ref x0, .ref x1, .ref x2, .ref x3, .ref x4, .ref x5, .ref x6, .ref x7, .ref x8, .ref x9, .ref x10, .ref x11])), (x0, .inl (cI, 30, .inl good9)), (x1, .inl (cI, 30, .inl wanted9)), (x2, .inl (cI, 30, .inl got9)), (x3, .inl (cI, 30, .inl replaced9)), (x4, .inl (cI, 30, .inl least9)), (x5, .inl (cI, 30, .inl accepts9)), (x6, .inl (cI, 30, .inl parts)), (x7, .inl (cI, 30, .inl due)), (x8, .inl (cI, 30, .inl day)), (x9, .inl (cI, 30, .inl firstTake)), (x10, .inl (cI, 70, .inl takeBatch)), (x11, .inl (cI, 70, .inl takeUnits)), (o0, .inr (6, [.int n9, .int tk9, .ref y0, .ref y1, .ref y2, .ref y3, .ref y4, .ref y5, .ref y6, .ref y7, .ref y8, .ref y9, .ref y10, .ref y11])), (y0, .inl (cI, 30, .inl good9)), (y1, .inl (cI, 30, .inl wanted9)), (y2, .inl (cI, 30, .inl got9)), (y3, .inl (cI, 30, .inl replaced9)), (y4, .inl (cI, 30, .inl least9)), (y5, .inl (cI, 30, .inl accepts9)), (y6, .inl (cI, 30, .inl parts9)), (y7, .inl (cI, 30, .inl due9)), (y8, .inl (cI, 30, .inl day9)), (y9, .inl (cI, 30, .inl firstTake9)), (y10, .inl (cI, 70, .inl takeBatch9)), (y11, .inl (cI, 70, .inl takeUnits9))] := hD
  refine lv_aload_n hx hb dX6_copyFrom_82 rfl (lv_at hl 1 rfl) ?_
  refine va_get (D := (dC, dI)) (ci := 6) (v := .ref y6) (C := RX6) (T := TX6) (N := 14) hx hb hts i_X6 hown hK hP 13 rfl rfl 8 (by decide) k_30 (fun _ h9 => h9) rfl dX6_copyFrom_83 ?_
  refine lv_aload_n hx hb dX6_copyFrom_86 rfl (lv_at hl 0 rfl) ?_
  refine va_get (D := (dC, dI)) (ci := 6) (v := .ref x6) (C := RX6) (T := TX6) (N := 14) hx hb hts i_X6 hown hK hP 0 rfl rfl 8 (by decide) k_30 (fun _ h9 => h9) rfl dX6_copyFrom_87 ?_
  refine xkV2 (xSN (As := [.ref y6, .ref x6]) (rest := []) (wc := [(y6, .inl (cI, 30, .inl parts9)), (x6, .inl (cI, 30, .inl parts))]) hx hb hml hown hts (c_X9_copyRow l dC dI cI cF cC cZ cQ cS y6 parts9 x6 parts 30 (by omega)) 2 gX6_copyFrom_X9_copyRow_n55 rfl rfl rfl (hN (RX6, 55, yX9_copyRow) (List.mem_of_getElem? (i := 11) rfl)) ki_RX9 ks_X9_copyRow hdN_X9_copyRow ⟨Nat.le_of_ble_eq_true rfl, Nat.le_of_ble_eq_true rfl⟩ hN hK hP hD [20, 7] rfl rfl rfl hl.1 rfl (Nat.le_of_ble_eq_true rfl) dX6_copyFrom_90 ⟨Nat.zero_le _, Nat.zero_le _⟩) hP hD hS [20, 7] [0, 1, 2, 3, 4, 5, 6, 7, 8, 9, 10, 11, 12, 13, 14, 15, 16, 17, 18, 19, 20, 21, 22, 23, 24, 25] rfl rfl 26 rfl (by decide +kernel) (fun H locs hP hD hS => ?_)
  have hP : va_P (dC, dI) vwCl [(h0, .inr (6, [.int n9, .int tk9, .ref x0, .ref x1, .ref x2, .ref x3, .ref x4, .ref x5, .ref x6, .ref x7, .ref x8, .ref x9, .ref x10, .ref x11])), (x0, .inl (cI, 30, .inl good9)), (x1, .inl (cI, 30, .inl wanted9)), (x2, .inl (cI, 30, .inl got9)), (x3, .inl (cI, 30, .inl replaced9)), (x4, .inl (cI, 30, .inl least9)), (x5, .inl (cI, 30, .inl accepts9)), (x6, .inl (cI, 30, .inl parts9)), (x7, .inl (cI, 30, .inl due)), (x8, .inl (cI, 30, .inl day)), (x9, .inl (cI, 30, .inl firstTake)), (x10, .inl (cI, 70, .inl takeBatch)), (x11, .inl (cI, 70, .inl takeUnits)), (o0, .inr (6, [.int n9, .int tk9, .ref y0, .ref y1, .ref y2, .ref y3, .ref y4, .ref y5, .ref y6, .ref y7, .ref y8, .ref y9, .ref y10, .ref y11])), (y0, .inl (cI, 30, .inl good9)), (y1, .inl (cI, 30, .inl wanted9)), (y2, .inl (cI, 30, .inl got9)), (y3, .inl (cI, 30, .inl replaced9)), (y4, .inl (cI, 30, .inl least9)), (y5, .inl (cI, 30, .inl accepts9)), (y6, .inl (cI, 30, .inl parts9)), (y7, .inl (cI, 30, .inl due9)), (y8, .inl (cI, 30, .inl day9)), (y9, .inl (cI, 30, .inl firstTake9)), (y10, .inl (cI, 70, .inl takeBatch9)), (y11, .inl (cI, 70, .inl takeUnits9))] H := hP
  have hD : va_D A [(h0, .inr (6, [.int n9, .int tk9, .ref x0, .ref x1, .ref x2, .ref x3, .ref x4, .ref x5, .ref x6, .ref x7, .ref x8, .ref x9, .ref x10, .ref x11])), (x0, .inl (cI, 30, .inl good9)), (x1, .inl (cI, 30, .inl wanted9)), (x2, .inl (cI, 30, .inl got9)), (x3, .inl (cI, 30, .inl replaced9)), (x4, .inl (cI, 30, .inl least9)), (x5, .inl (cI, 30, .inl accepts9)), (x6, .inl (cI, 30, .inl parts9)), (x7, .inl (cI, 30, .inl due)), (x8, .inl (cI, 30, .inl day)), (x9, .inl (cI, 30, .inl firstTake)), (x10, .inl (cI, 70, .inl takeBatch)), (x11, .inl (cI, 70, .inl takeUnits)), (o0, .inr (6, [.int n9, .int tk9, .ref y0, .ref y1, .ref y2, .ref y3, .ref y4, .ref y5, .ref y6, .ref y7, .ref y8, .ref y9, .ref y10, .ref y11])), (y0, .inl (cI, 30, .inl good9)), (y1, .inl (cI, 30, .inl wanted9)), (y2, .inl (cI, 30, .inl got9)), (y3, .inl (cI, 30, .inl replaced9)), (y4, .inl (cI, 30, .inl least9)), (y5, .inl (cI, 30, .inl accepts9)), (y6, .inl (cI, 30, .inl parts9)), (y7, .inl (cI, 30, .inl due9)), (y8, .inl (cI, 30, .inl day9)), (y9, .inl (cI, 30, .inl firstTake9)), (y10, .inl (cI, 70, .inl takeBatch9)), (y11, .inl (cI, 70, .inl takeUnits9))] := hD
  refine lv_aload_n hx hb dX6_copyFrom_93 rfl (lv_at hl 1 rfl) ?_
  refine va_get (D := (dC, dI)) (ci := 6) (v := .ref y7) (C := RX6) (T := TX6) (N := 14) hx hb hts i_X6 hown hK hP 13 rfl rfl 9 (by decide) k_33 (fun _ h9 => h9) rfl dX6_copyFrom_94 ?_
  refine lv_aload_n hx hb dX6_copyFrom_97 rfl (lv_at hl 0 rfl) ?_
  refine va_get (D := (dC, dI)) (ci := 6) (v := .ref x7) (C := RX6) (T := TX6) (N := 14) hx hb hts i_X6 hown hK hP 0 rfl rfl 9 (by decide) k_33 (fun _ h9 => h9) rfl dX6_copyFrom_98 ?_
  refine xkV2 (xSN (As := [.ref y7, .ref x7]) (rest := []) (wc := [(y7, .inl (cI, 30, .inl due9)), (x7, .inl (cI, 30, .inl due))]) hx hb hml hown hts (c_X9_copyRow l dC dI cI cF cC cZ cQ cS y7 due9 x7 due 30 (by omega)) 2 gX6_copyFrom_X9_copyRow_n55 rfl rfl rfl (hN (RX6, 55, yX9_copyRow) (List.mem_of_getElem? (i := 11) rfl)) ki_RX9 ks_X9_copyRow hdN_X9_copyRow ⟨Nat.le_of_ble_eq_true rfl, Nat.le_of_ble_eq_true rfl⟩ hN hK hP hD [21, 8] rfl rfl rfl hl.1 rfl (Nat.le_of_ble_eq_true rfl) dX6_copyFrom_101 ⟨Nat.zero_le _, Nat.zero_le _⟩) hP hD hS [21, 8] [0, 1, 2, 3, 4, 5, 6, 7, 8, 9, 10, 11, 12, 13, 14, 15, 16, 17, 18, 19, 20, 21, 22, 23, 24, 25] rfl rfl 26 rfl (by decide +kernel) (fun H locs hP hD hS => ?_)
  have hP : va_P (dC, dI) vwCl [(h0, .inr (6, [.int n9, .int tk9, .ref x0, .ref x1, .ref x2, .ref x3, .ref x4, .ref x5, .ref x6, .ref x7, .ref x8, .ref x9, .ref x10, .ref x11])), (x0, .inl (cI, 30, .inl good9)), (x1, .inl (cI, 30, .inl wanted9)), (x2, .inl (cI, 30, .inl got9)), (x3, .inl (cI, 30, .inl replaced9)), (x4, .inl (cI, 30, .inl least9)), (x5, .inl (cI, 30, .inl accepts9)), (x6, .inl (cI, 30, .inl parts9)), (x7, .inl (cI, 30, .inl due9)), (x8, .inl (cI, 30, .inl day)), (x9, .inl (cI, 30, .inl firstTake)), (x10, .inl (cI, 70, .inl takeBatch)), (x11, .inl (cI, 70, .inl takeUnits)), (o0, .inr (6, [.int n9, .int tk9, .ref y0, .ref y1, .ref y2, .ref y3, .ref y4, .ref y5, .ref y6, .ref y7, .ref y8, .ref y9, .ref y10, .ref y11])), (y0, .inl (cI, 30, .inl good9)), (y1, .inl (cI, 30, .inl wanted9)), (y2, .inl (cI, 30, .inl got9)), (y3, .inl (cI, 30, .inl replaced9)), (y4, .inl (cI, 30, .inl least9)), (y5, .inl (cI, 30, .inl accepts9)), (y6, .inl (cI, 30, .inl parts9)), (y7, .inl (cI, 30, .inl due9)), (y8, .inl (cI, 30, .inl day9)), (y9, .inl (cI, 30, .inl firstTake9)), (y10, .inl (cI, 70, .inl takeBatch9)), (y11, .inl (cI, 70, .inl takeUnits9))] H := hP
  have hD : va_D A [(h0, .inr (6, [.int n9, .int tk9, .ref x0, .ref x1, .ref x2, .ref x3, .ref x4, .ref x5, .ref x6, .ref x7, .ref x8, .ref x9, .ref x10, .ref x11])), (x0, .inl (cI, 30, .inl good9)), (x1, .inl (cI, 30, .inl wanted9)), (x2, .inl (cI, 30, .inl got9)), (x3, .inl (cI, 30, .inl replaced9)), (x4, .inl (cI, 30, .inl least9)), (x5, .inl (cI, 30, .inl accepts9)), (x6, .inl (cI, 30, .inl parts9)), (x7, .inl (cI, 30, .inl due9)), (x8, .inl (cI, 30, .inl day)), (x9, .inl (cI, 30, .inl firstTake)), (x10, .inl (cI, 70, .inl takeBatch)), (x11, .inl (cI, 70, .inl takeUnits)), (o0, .inr (6, [.int n9, .int tk9, .ref y0, .ref y1, .ref y2, .ref y3, .ref y4, .ref y5, .ref y6, .ref y7, .ref y8, .ref y9, .ref y10, .ref y11])), (y0, .inl (cI, 30, .inl good9)), (y1, .inl (cI, 30, .inl wanted9)), (y2, .inl (cI, 30, .inl got9)), (y3, .inl (cI, 30, .inl replaced9)), (y4, .inl (cI, 30, .inl least9)), (y5, .inl (cI, 30, .inl accepts9)), (y6, .inl (cI, 30, .inl parts9)), (y7, .inl (cI, 30, .inl due9)), (y8, .inl (cI, 30, .inl day9)), (y9, .inl (cI, 30, .inl firstTake9)), (y10, .inl (cI, 70, .inl takeBatch9)), (y11, .inl (cI, 70, .inl takeUnits9))] := hD
  refine lv_aload_n hx hb dX6_copyFrom_104 rfl (lv_at hl 1 rfl) ?_
  refine va_get (D := (dC, dI)) (ci := 6) (v := .ref y8) (C := RX6) (T := TX6) (N := 14) hx hb hts i_X6 hown hK hP 13 rfl rfl 10 (by decide) k_36 (fun _ h9 => h9) rfl dX6_copyFrom_105 ?_
  refine lv_aload_n hx hb dX6_copyFrom_108 rfl (lv_at hl 0 rfl) ?_
  refine va_get (D := (dC, dI)) (ci := 6) (v := .ref x8) (C := RX6) (T := TX6) (N := 14) hx hb hts i_X6 hown hK hP 0 rfl rfl 10 (by decide) k_36 (fun _ h9 => h9) rfl dX6_copyFrom_109 ?_
  refine xkV2 (xSN (As := [.ref y8, .ref x8]) (rest := []) (wc := [(y8, .inl (cI, 30, .inl day9)), (x8, .inl (cI, 30, .inl day))]) hx hb hml hown hts (c_X9_copyRow l dC dI cI cF cC cZ cQ cS y8 day9 x8 day 30 (by omega)) 2 gX6_copyFrom_X9_copyRow_n55 rfl rfl rfl (hN (RX6, 55, yX9_copyRow) (List.mem_of_getElem? (i := 11) rfl)) ki_RX9 ks_X9_copyRow hdN_X9_copyRow ⟨Nat.le_of_ble_eq_true rfl, Nat.le_of_ble_eq_true rfl⟩ hN hK hP hD [22, 9] rfl rfl rfl hl.1 rfl (Nat.le_of_ble_eq_true rfl) dX6_copyFrom_112 ⟨Nat.zero_le _, Nat.zero_le _⟩) hP hD hS [22, 9] [0, 1, 2, 3, 4, 5, 6, 7, 8, 9, 10, 11, 12, 13, 14, 15, 16, 17, 18, 19, 20, 21, 22, 23, 24, 25] rfl rfl 26 rfl (by decide +kernel) (fun H locs hP hD hS => ?_)
  have hP : va_P (dC, dI) vwCl [(h0, .inr (6, [.int n9, .int tk9, .ref x0, .ref x1, .ref x2, .ref x3, .ref x4, .ref x5, .ref x6, .ref x7, .ref x8, .ref x9, .ref x10, .ref x11])), (x0, .inl (cI, 30, .inl good9)), (x1, .inl (cI, 30, .inl wanted9)), (x2, .inl (cI, 30, .inl got9)), (x3, .inl (cI, 30, .inl replaced9)), (x4, .inl (cI, 30, .inl least9)), (x5, .inl (cI, 30, .inl accepts9)), (x6, .inl (cI, 30, .inl parts9)), (x7, .inl (cI, 30, .inl due9)), (x8, .inl (cI, 30, .inl day9)), (x9, .inl (cI, 30, .inl firstTake)), (x10, .inl (cI, 70, .inl takeBatch)), (x11, .inl (cI, 70, .inl takeUnits)), (o0, .inr (6, [.int n9, .int tk9, .ref y0, .ref y1, .ref y2, .ref y3, .ref y4, .ref y5, .ref y6, .ref y7, .ref y8, .ref y9, .ref y10, .ref y11])), (y0, .inl (cI, 30, .inl good9)), (y1, .inl (cI, 30, .inl wanted9)), (y2, .inl (cI, 30, .inl got9)), (y3, .inl (cI, 30, .inl replaced9)), (y4, .inl (cI, 30, .inl least9)), (y5, .inl (cI, 30, .inl accepts9)), (y6, .inl (cI, 30, .inl parts9)), (y7, .inl (cI, 30, .inl due9)), (y8, .inl (cI, 30, .inl day9)), (y9, .inl (cI, 30, .inl firstTake9)), (y10, .inl (cI, 70, .inl takeBatch9)), (y11, .inl (cI, 70, .inl takeUnits9))] H := hP
  have hD : va_D A [(h0, .inr (6, [.int n9, .int tk9, .ref x0, .ref x1, .ref x2, .ref x3, .ref x4, .ref x5, .ref x6, .ref x7, .ref x8, .ref x9, .ref x10, .ref x11])), (x0, .inl (cI, 30, .inl good9)), (x1, .inl (cI, 30, .inl wanted9)), (x2, .inl (cI, 30, .inl got9)), (x3, .inl (cI, 30, .inl replaced9)), (x4, .inl (cI, 30, .inl least9)), (x5, .inl (cI, 30, .inl accepts9)), (x6, .inl (cI, 30, .inl parts9)), (x7, .inl (cI, 30, .inl due9)), (x8, .inl (cI, 30, .inl day9)), (x9, .inl (cI, 30, .inl firstTake)), (x10, .inl (cI, 70, .inl takeBatch)), (x11, .inl (cI, 70, .inl takeUnits)), (o0, .inr (6, [.int n9, .int tk9, .ref y0, .ref y1, .ref y2, .ref y3, .ref y4, .ref y5, .ref y6, .ref y7, .ref y8, .ref y9, .ref y10, .ref y11])), (y0, .inl (cI, 30, .inl good9)), (y1, .inl (cI, 30, .inl wanted9)), (y2, .inl (cI, 30, .inl got9)), (y3, .inl (cI, 30, .inl replaced9)), (y4, .inl (cI, 30, .inl least9)), (y5, .inl (cI, 30, .inl accepts9)), (y6, .inl (cI, 30, .inl parts9)), (y7, .inl (cI, 30, .inl due9)), (y8, .inl (cI, 30, .inl day9)), (y9, .inl (cI, 30, .inl firstTake9)), (y10, .inl (cI, 70, .inl takeBatch9)), (y11, .inl (cI, 70, .inl takeUnits9))] := hD
  refine lv_aload_n hx hb dX6_copyFrom_115 rfl (lv_at hl 1 rfl) ?_
  refine va_get (D := (dC, dI)) (ci := 6) (v := .ref y9) (C := RX6) (T := TX6) (N := 14) hx hb hts i_X6 hown hK hP 13 rfl rfl 11 (by decide) k_39 (fun _ h9 => h9) rfl dX6_copyFrom_116 ?_
  refine lv_aload_n hx hb dX6_copyFrom_119 rfl (lv_at hl 0 rfl) ?_
  refine va_get (D := (dC, dI)) (ci := 6) (v := .ref x9) (C := RX6) (T := TX6) (N := 14) hx hb hts i_X6 hown hK hP 0 rfl rfl 11 (by decide) k_39 (fun _ h9 => h9) rfl dX6_copyFrom_120 ?_
  refine xkV2 (xSN (As := [.ref y9, .ref x9]) (rest := []) (wc := [(y9, .inl (cI, 30, .inl firstTake9)), (x9, .inl (cI, 30, .inl firstTake))]) hx hb hml hown hts (c_X9_copyRow l dC dI cI cF cC cZ cQ cS y9 firstTake9 x9 firstTake 30 (by omega)) 2 gX6_copyFrom_X9_copyRow_n55 rfl rfl rfl (hN (RX6, 55, yX9_copyRow) (List.mem_of_getElem? (i := 11) rfl)) ki_RX9 ks_X9_copyRow hdN_X9_copyRow ⟨Nat.le_of_ble_eq_true rfl, Nat.le_of_ble_eq_true rfl⟩ hN hK hP hD [23, 10] rfl rfl rfl hl.1 rfl (Nat.le_of_ble_eq_true rfl) dX6_copyFrom_123 ⟨Nat.zero_le _, Nat.zero_le _⟩) hP hD hS [23, 10] [0, 1, 2, 3, 4, 5, 6, 7, 8, 9, 10, 11, 12, 13, 14, 15, 16, 17, 18, 19, 20, 21, 22, 23, 24, 25] rfl rfl 26 rfl (by decide +kernel) (fun H locs hP hD hS => ?_)
  have hP : va_P (dC, dI) vwCl [(h0, .inr (6, [.int n9, .int tk9, .ref x0, .ref x1, .ref x2, .ref x3, .ref x4, .ref x5, .ref x6, .ref x7, .ref x8, .ref x9, .ref x10, .ref x11])), (x0, .inl (cI, 30, .inl good9)), (x1, .inl (cI, 30, .inl wanted9)), (x2, .inl (cI, 30, .inl got9)), (x3, .inl (cI, 30, .inl replaced9)), (x4, .inl (cI, 30, .inl least9)), (x5, .inl (cI, 30, .inl accepts9)), (x6, .inl (cI, 30, .inl parts9)), (x7, .inl (cI, 30, .inl due9)), (x8, .inl (cI, 30, .inl day9)), (x9, .inl (cI, 30, .inl firstTake9)), (x10, .inl (cI, 70, .inl takeBatch)), (x11, .inl (cI, 70, .inl takeUnits)), (o0, .inr (6, [.int n9, .int tk9, .ref y0, .ref y1, .ref y2, .ref y3, .ref y4, .ref y5, .ref y6, .ref y7, .ref y8, .ref y9, .ref y10, .ref y11])), (y0, .inl (cI, 30, .inl good9)), (y1, .inl (cI, 30, .inl wanted9)), (y2, .inl (cI, 30, .inl got9)), (y3, .inl (cI, 30, .inl replaced9)), (y4, .inl (cI, 30, .inl least9)), (y5, .inl (cI, 30, .inl accepts9)), (y6, .inl (cI, 30, .inl parts9)), (y7, .inl (cI, 30, .inl due9)), (y8, .inl (cI, 30, .inl day9)), (y9, .inl (cI, 30, .inl firstTake9)), (y10, .inl (cI, 70, .inl takeBatch9)), (y11, .inl (cI, 70, .inl takeUnits9))] H := hP
  have hD : va_D A [(h0, .inr (6, [.int n9, .int tk9, .ref x0, .ref x1, .ref x2, .ref x3, .ref x4, .ref x5, .ref x6, .ref x7, .ref x8, .ref x9, .ref x10, .ref x11])), (x0, .inl (cI, 30, .inl good9)), (x1, .inl (cI, 30, .inl wanted9)), (x2, .inl (cI, 30, .inl got9)), (x3, .inl (cI, 30, .inl replaced9)), (x4, .inl (cI, 30, .inl least9)), (x5, .inl (cI, 30, .inl accepts9)), (x6, .inl (cI, 30, .inl parts9)), (x7, .inl (cI, 30, .inl due9)), (x8, .inl (cI, 30, .inl day9)), (x9, .inl (cI, 30, .inl firstTake9)), (x10, .inl (cI, 70, .inl takeBatch)), (x11, .inl (cI, 70, .inl takeUnits)), (o0, .inr (6, [.int n9, .int tk9, .ref y0, .ref y1, .ref y2, .ref y3, .ref y4, .ref y5, .ref y6, .ref y7, .ref y8, .ref y9, .ref y10, .ref y11])), (y0, .inl (cI, 30, .inl good9)), (y1, .inl (cI, 30, .inl wanted9)), (y2, .inl (cI, 30, .inl got9)), (y3, .inl (cI, 30, .inl replaced9)), (y4, .inl (cI, 30, .inl least9)), (y5, .inl (cI, 30, .inl accepts9)), (y6, .inl (cI, 30, .inl parts9)), (y7, .inl (cI, 30, .inl due9)), (y8, .inl (cI, 30, .inl day9)), (y9, .inl (cI, 30, .inl firstTake9)), (y10, .inl (cI, 70, .inl takeBatch9)), (y11, .inl (cI, 70, .inl takeUnits9))] := hD
  refine lv_aload_n hx hb dX6_copyFrom_126 rfl (lv_at hl 1 rfl) ?_
  refine va_get (D := (dC, dI)) (ci := 6) (v := .ref y10) (C := RX6) (T := TX6) (N := 14) hx hb hts i_X6 hown hK hP 13 rfl rfl 12 (by decide) k_42 (fun _ h9 => h9) rfl dX6_copyFrom_127 ?_
  refine lv_aload_n hx hb dX6_copyFrom_130 rfl (lv_at hl 0 rfl) ?_
  refine va_get (D := (dC, dI)) (ci := 6) (v := .ref x10) (C := RX6) (T := TX6) (N := 14) hx hb hts i_X6 hown hK hP 0 rfl rfl 12 (by decide) k_42 (fun _ h9 => h9) rfl dX6_copyFrom_131 ?_
  refine xkV2 (xSN (As := [.ref y10, .ref x10]) (rest := []) (wc := [(y10, .inl (cI, 70, .inl takeBatch9)), (x10, .inl (cI, 70, .inl takeBatch))]) hx hb hml hown hts (c_X9_copyRow l dC dI cI cF cC cZ cQ cS y10 takeBatch9 x10 takeBatch 70 (by omega)) 2 gX6_copyFrom_X9_copyRow_n55 rfl rfl rfl (hN (RX6, 55, yX9_copyRow) (List.mem_of_getElem? (i := 11) rfl)) ki_RX9 ks_X9_copyRow hdN_X9_copyRow ⟨Nat.le_of_ble_eq_true rfl, Nat.le_of_ble_eq_true rfl⟩ hN hK hP hD [24, 11] rfl rfl rfl hl.1 rfl (Nat.le_of_ble_eq_true rfl) dX6_copyFrom_134 ⟨Nat.zero_le _, Nat.zero_le _⟩) hP hD hS [24, 11] [0, 1, 2, 3, 4, 5, 6, 7, 8, 9, 10, 11, 12, 13, 14, 15, 16, 17, 18, 19, 20, 21, 22, 23, 24, 25] rfl rfl 26 rfl (by decide +kernel) (fun H locs hP hD hS => ?_)
  have hP : va_P (dC, dI) vwCl [(h0, .inr (6, [.int n9, .int tk9, .ref x0, .ref x1, .ref x2, .ref x3, .ref x4, .ref x5, .ref x6, .ref x7, .ref x8, .ref x9, .ref x10, .ref x11])), (x0, .inl (cI, 30, .inl good9)), (x1, .inl (cI, 30, .inl wanted9)), (x2, .inl (cI, 30, .inl got9)), (x3, .inl (cI, 30, .inl replaced9)), (x4, .inl (cI, 30, .inl least9)), (x5, .inl (cI, 30, .inl accepts9)), (x6, .inl (cI, 30, .inl parts9)), (x7, .inl (cI, 30, .inl due9)), (x8, .inl (cI, 30, .inl day9)), (x9, .inl (cI, 30, .inl firstTake9)), (x10, .inl (cI, 70, .inl takeBatch9)), (x11, .inl (cI, 70, .inl takeUnits)), (o0, .inr (6, [.int n9, .int tk9, .ref y0, .ref y1, .ref y2, .ref y3, .ref y4, .ref y5, .ref y6, .ref y7, .ref y8, .ref y9, .ref y10, .ref y11])), (y0, .inl (cI, 30, .inl good9)), (y1, .inl (cI, 30, .inl wanted9)), (y2, .inl (cI, 30, .inl got9)), (y3, .inl (cI, 30, .inl replaced9)), (y4, .inl (cI, 30, .inl least9)), (y5, .inl (cI, 30, .inl accepts9)), (y6, .inl (cI, 30, .inl parts9)), (y7, .inl (cI, 30, .inl due9)), (y8, .inl (cI, 30, .inl day9)), (y9, .inl (cI, 30, .inl firstTake9)), (y10, .inl (cI, 70, .inl takeBatch9)), (y11, .inl (cI, 70, .inl takeUnits9))] H := hP
  have hD : va_D A [(h0, .inr (6, [.int n9, .int tk9, .ref x0, .ref x1, .ref x2, .ref x3, .ref x4, .ref x5, .ref x6, .ref x7, .ref x8, .ref x9, .ref x10, .ref x11])), (x0, .inl (cI, 30, .inl good9)), (x1, .inl (cI, 30, .inl wanted9)), (x2, .inl (cI, 30, .inl got9)), (x3, .inl (cI, 30, .inl replaced9)), (x4, .inl (cI, 30, .inl least9)), (x5, .inl (cI, 30, .inl accepts9)), (x6, .inl (cI, 30, .inl parts9)), (x7, .inl (cI, 30, .inl due9)), (x8, .inl (cI, 30, .inl day9)), (x9, .inl (cI, 30, .inl firstTake9)), (x10, .inl (cI, 70, .inl takeBatch9)), (x11, .inl (cI, 70, .inl takeUnits)), (o0, .inr (6, [.int n9, .int tk9, .ref y0, .ref y1, .ref y2, .ref y3, .ref y4, .ref y5, .ref y6, .ref y7, .ref y8, .ref y9, .ref y10, .ref y11])), (y0, .inl (cI, 30, .inl good9)), (y1, .inl (cI, 30, .inl wanted9)), (y2, .inl (cI, 30, .inl got9)), (y3, .inl (cI, 30, .inl replaced9)), (y4, .inl (cI, 30, .inl least9)), (y5, .inl (cI, 30, .inl accepts9)), (y6, .inl (cI, 30, .inl parts9)), (y7, .inl (cI, 30, .inl due9)), (y8, .inl (cI, 30, .inl day9)), (y9, .inl (cI, 30, .inl firstTake9)), (y10, .inl (cI, 70, .inl takeBatch9)), (y11, .inl (cI, 70, .inl takeUnits9))] := hD
  refine lv_aload_n hx hb dX6_copyFrom_137 rfl (lv_at hl 1 rfl) ?_
  refine va_get (D := (dC, dI)) (ci := 6) (v := .ref y11) (C := RX6) (T := TX6) (N := 14) hx hb hts i_X6 hown hK hP 13 rfl rfl 13 (by decide) k_45 (fun _ h9 => h9) rfl dX6_copyFrom_138 ?_
  refine lv_aload_n hx hb dX6_copyFrom_141 rfl (lv_at hl 0 rfl) ?_
  refine va_get (D := (dC, dI)) (ci := 6) (v := .ref x11) (C := RX6) (T := TX6) (N := 14) hx hb hts i_X6 hown hK hP 0 rfl rfl 13 (by decide) k_45 (fun _ h9 => h9) rfl dX6_copyFrom_142 ?_
  refine xkV2 (xSN (As := [.ref y11, .ref x11]) (rest := []) (wc := [(y11, .inl (cI, 70, .inl takeUnits9)), (x11, .inl (cI, 70, .inl takeUnits))]) hx hb hml hown hts (c_X9_copyRow l dC dI cI cF cC cZ cQ cS y11 takeUnits9 x11 takeUnits 70 (by omega)) 2 gX6_copyFrom_X9_copyRow_n55 rfl rfl rfl (hN (RX6, 55, yX9_copyRow) (List.mem_of_getElem? (i := 11) rfl)) ki_RX9 ks_X9_copyRow hdN_X9_copyRow ⟨Nat.le_of_ble_eq_true rfl, Nat.le_of_ble_eq_true rfl⟩ hN hK hP hD [25, 12] rfl rfl rfl hl.1 rfl (Nat.le_of_ble_eq_true rfl) dX6_copyFrom_145 ⟨Nat.zero_le _, Nat.zero_le _⟩) hP hD hS [25, 12] [0, 1, 2, 3, 4, 5, 6, 7, 8, 9, 10, 11, 12, 13, 14, 15, 16, 17, 18, 19, 20, 21, 22, 23, 24, 25] rfl rfl 26 rfl (by decide +kernel) (fun H locs hP hD hS => ?_)
  have hP : va_P (dC, dI) vwCl [(h0, .inr (6, [.int n9, .int tk9, .ref x0, .ref x1, .ref x2, .ref x3, .ref x4, .ref x5, .ref x6, .ref x7, .ref x8, .ref x9, .ref x10, .ref x11])), (x0, .inl (cI, 30, .inl good9)), (x1, .inl (cI, 30, .inl wanted9)), (x2, .inl (cI, 30, .inl got9)), (x3, .inl (cI, 30, .inl replaced9)), (x4, .inl (cI, 30, .inl least9)), (x5, .inl (cI, 30, .inl accepts9)), (x6, .inl (cI, 30, .inl parts9)), (x7, .inl (cI, 30, .inl due9)), (x8, .inl (cI, 30, .inl day9)), (x9, .inl (cI, 30, .inl firstTake9)), (x10, .inl (cI, 70, .inl takeBatch9)), (x11, .inl (cI, 70, .inl takeUnits9)), (o0, .inr (6, [.int n9, .int tk9, .ref y0, .ref y1, .ref y2, .ref y3, .ref y4, .ref y5, .ref y6, .ref y7, .ref y8, .ref y9, .ref y10, .ref y11])), (y0, .inl (cI, 30, .inl good9)), (y1, .inl (cI, 30, .inl wanted9)), (y2, .inl (cI, 30, .inl got9)), (y3, .inl (cI, 30, .inl replaced9)), (y4, .inl (cI, 30, .inl least9)), (y5, .inl (cI, 30, .inl accepts9)), (y6, .inl (cI, 30, .inl parts9)), (y7, .inl (cI, 30, .inl due9)), (y8, .inl (cI, 30, .inl day9)), (y9, .inl (cI, 30, .inl firstTake9)), (y10, .inl (cI, 70, .inl takeBatch9)), (y11, .inl (cI, 70, .inl takeUnits9))] H := hP
  have hD : va_D A [(h0, .inr (6, [.int n9, .int tk9, .ref x0, .ref x1, .ref x2, .ref x3, .ref x4, .ref x5, .ref x6, .ref x7, .ref x8, .ref x9, .ref x10, .ref x11])), (x0, .inl (cI, 30, .inl good9)), (x1, .inl (cI, 30, .inl wanted9)), (x2, .inl (cI, 30, .inl got9)), (x3, .inl (cI, 30, .inl replaced9)), (x4, .inl (cI, 30, .inl least9)), (x5, .inl (cI, 30, .inl accepts9)), (x6, .inl (cI, 30, .inl parts9)), (x7, .inl (cI, 30, .inl due9)), (x8, .inl (cI, 30, .inl day9)), (x9, .inl (cI, 30, .inl firstTake9)), (x10, .inl (cI, 70, .inl takeBatch9)), (x11, .inl (cI, 70, .inl takeUnits9)), (o0, .inr (6, [.int n9, .int tk9, .ref y0, .ref y1, .ref y2, .ref y3, .ref y4, .ref y5, .ref y6, .ref y7, .ref y8, .ref y9, .ref y10, .ref y11])), (y0, .inl (cI, 30, .inl good9)), (y1, .inl (cI, 30, .inl wanted9)), (y2, .inl (cI, 30, .inl got9)), (y3, .inl (cI, 30, .inl replaced9)), (y4, .inl (cI, 30, .inl least9)), (y5, .inl (cI, 30, .inl accepts9)), (y6, .inl (cI, 30, .inl parts9)), (y7, .inl (cI, 30, .inl due9)), (y8, .inl (cI, 30, .inl day9)), (y9, .inl (cI, 30, .inl firstTake9)), (y10, .inl (cI, 70, .inl takeBatch9)), (y11, .inl (cI, 70, .inl takeUnits9))] := hD
  have hP9 : va_P (dC, dI) vwCl [(h0, .inr (6, [.int n9, .int tk9, .ref x0, .ref x1, .ref x2, .ref x3, .ref x4, .ref x5, .ref x6, .ref x7, .ref x8, .ref x9, .ref x10, .ref x11])), (x0, .inl (cI, 30, .inl good9)), (x1, .inl (cI, 30, .inl wanted9)), (x2, .inl (cI, 30, .inl got9)), (x3, .inl (cI, 30, .inl replaced9)), (x4, .inl (cI, 30, .inl least9)), (x5, .inl (cI, 30, .inl accepts9)), (x6, .inl (cI, 30, .inl parts9)), (x7, .inl (cI, 30, .inl due9)), (x8, .inl (cI, 30, .inl day9)), (x9, .inl (cI, 30, .inl firstTake9)), (x10, .inl (cI, 70, .inl takeBatch9)), (x11, .inl (cI, 70, .inl takeUnits9)), (o0, .inr (6, [.int n9, .int tk9, .ref y0, .ref y1, .ref y2, .ref y3, .ref y4, .ref y5, .ref y6, .ref y7, .ref y8, .ref y9, .ref y10, .ref y11])), (y0, .inl (cI, 30, .inl good9)), (y1, .inl (cI, 30, .inl wanted9)), (y2, .inl (cI, 30, .inl got9)), (y3, .inl (cI, 30, .inl replaced9)), (y4, .inl (cI, 30, .inl least9)), (y5, .inl (cI, 30, .inl accepts9)), (y6, .inl (cI, 30, .inl parts9)), (y7, .inl (cI, 30, .inl due9)), (y8, .inl (cI, 30, .inl day9)), (y9, .inl (cI, 30, .inl firstTake9)), (y10, .inl (cI, 70, .inl takeBatch9)), (y11, .inl (cI, 70, .inl takeUnits9))] H := hP
  have hS9 : va_S (va_B [(h0, .inr (6, [.int n, .int tk, .ref x0, .ref x1, .ref x2, .ref x3, .ref x4, .ref x5, .ref x6, .ref x7, .ref x8, .ref x9, .ref x10, .ref x11])), (x0, .inl (cI, 30, .inl good)), (x1, .inl (cI, 30, .inl wanted)), (x2, .inl (cI, 30, .inl got)), (x3, .inl (cI, 30, .inl replaced)), (x4, .inl (cI, 30, .inl least)), (x5, .inl (cI, 30, .inl accepts)), (x6, .inl (cI, 30, .inl parts)), (x7, .inl (cI, 30, .inl due)), (x8, .inl (cI, 30, .inl day)), (x9, .inl (cI, 30, .inl firstTake)), (x10, .inl (cI, 70, .inl takeBatch)), (x11, .inl (cI, 70, .inl takeUnits)), (o0, .inr (6, [.int n9, .int tk9, .ref y0, .ref y1, .ref y2, .ref y3, .ref y4, .ref y5, .ref y6, .ref y7, .ref y8, .ref y9, .ref y10, .ref y11])), (y0, .inl (cI, 30, .inl good9)), (y1, .inl (cI, 30, .inl wanted9)), (y2, .inl (cI, 30, .inl got9)), (y3, .inl (cI, 30, .inl replaced9)), (y4, .inl (cI, 30, .inl least9)), (y5, .inl (cI, 30, .inl accepts9)), (y6, .inl (cI, 30, .inl parts9)), (y7, .inl (cI, 30, .inl due9)), (y8, .inl (cI, 30, .inl day9)), (y9, .inl (cI, 30, .inl firstTake9)), (y10, .inl (cI, 70, .inl takeBatch9)), (y11, .inl (cI, 70, .inl takeUnits9))]) s.heap H locs := by rw [← hA]; exact hS
  exact W.vret hx hb hr (fun t ht hW => ⟨⟨_, rfl, rfl, by rw [ht]; exact hP9⟩, hS9.X ht⟩) hS9.2.2 dX6_copyFrom_148
theorem hdV_X7_copyFrom : yX7_copyFrom.cls = RX7 ∧ yX7_copyFrom.cls ≠ "java/lang/invoke/MethodHandle" ∧ yX7_copyFrom.cls ≠ "java/lang/invoke/VarHandle" ∧ (parseMethodDescriptor yX7_copyFrom.desc).map (fun d => d.parameters.length) = some 1 := by decide +kernel
set_option maxHeartbeats 4000000 in
set_option maxRecDepth 100000 in
theorem c_X7_copyFrom (l : Launch) (dC : Nat → ClassId) (dI : Nat → Nat → Nat) (cI cF cC cZ cQ cS : ClassId) (h0 : Nat) (x0 : Nat) (x1 : Nat) (share : Nat → Int32) (markdown : Nat → UInt32) (o0 : Nat) (y0 : Nat) (y1 : Nat) (share9 : Nat → Int32) (markdown9 : Nat → UInt32) : Met l yX7_copyFrom wsX7_copyFrom ({ frames := 0, cells := 0, slots := 0, locals := 0 }) (xPre (dC, dI) vwCl [.ref h0, .ref o0] (xtys cI cF cC cZ cQ cS) [(h0, .inr (7, [.ref x0, .ref x1])), (x0, .inl (cI, 4, .inl share)), (x1, .inl (cF, 4, .inr (.inr (.inl markdown)))), (o0, .inr (7, [.ref y0, .ref y1])), (y0, .inl (cI, 4, .inl share9)), (y1, .inl (cF, 4, .inr (.inr (.inl markdown9))))]) (xWv (dC, dI) vwCl [(h0, .inr (7, [.ref x0, .ref x1])), (x0, .inl (cI, 4, .inl share)), (x1, .inl (cF, 4, .inr (.inr (.inl markdown)))), (o0, .inr (7, [.ref y0, .ref y1])), (y0, .inl (cI, 4, .inl share9)), (y1, .inl (cF, 4, .inr (.inr (.inl markdown9))))] (fun w0 => w0 = [(h0, .inr (7, [.ref x0, .ref x1])), (x0, .inl (cI, 4, .inl share9)), (x1, .inl (cF, 4, .inr (.inr (.inl markdown9)))), (o0, .inr (7, [.ref y0, .ref y1])), (y0, .inl (cI, 4, .inl share9)), (y1, .inl (cF, 4, .inr (.inr (.inl markdown9))))])) 0 0 (va_B [(h0, .inr (7, [.ref x0, .ref x1])), (x0, .inl (cI, 4, .inl share)), (x1, .inl (cF, 4, .inr (.inr (.inl markdown)))), (o0, .inr (7, [.ref y0, .ref y1])), (y0, .inl (cI, 4, .inl share9)), (y1, .inl (cF, 4, .inr (.inr (.inl markdown9))))]) := by
  refine Met.ofW (cc := cX7_copyFrom) (maxL := 3) (ret := none) (by decide) rfl ?_
  intro p e s m args below meth c s₁ B hml hv
  obtain ⟨rfl, hP, hK, hD0, hN⟩ := hv
  have hx := B.exec
  have hb := B.bytes
  have hr := B.returns
  have hts := atoms_spec (ws := wsX7_copyFrom) B.pre
  have hown : s.vm.findClass RX7 = some m.cls := findClass_of_methodNamed B.named
  have hlocks := B.notSynchronized
  have k_18 := hts (Cond.fieldLink RX7 18 "ShelfStages$Stages" "markdown" "[F") (by decide +kernel)
  have k_9 := hts (Cond.fieldLink RX7 9 "ShelfStages$Stages" "share" "[I") (by decide +kernel)
  have i_X7 : ∀ w ∈ wsX70, w ∈ wsX7_copyFrom := by decide +kernel
  obtain ⟨A, hA⟩ : ∃ A, A = va_B [(h0, .inr (7, [.ref x0, .ref x1])), (x0, .inl (cI, 4, .inl share)), (x1, .inl (cF, 4, .inr (.inr (.inl markdown)))), (o0, .inr (7, [.ref y0, .ref y1])), (y0, .inl (cI, 4, .inl share9)), (y1, .inl (cF, 4, .inr (.inr (.inl markdown9))))] := ⟨_, rfl⟩
  have hD : va_D A [(h0, .inr (7, [.ref x0, .ref x1])), (x0, .inl (cI, 4, .inl share)), (x1, .inl (cF, 4, .inr (.inr (.inl markdown)))), (o0, .inr (7, [.ref y0, .ref y1])), (y0, .inl (cI, 4, .inl share9)), (y1, .inl (cF, 4, .inr (.inr (.inl markdown9))))] := hA ▸ hD0.own
  have hS : va_S A s.heap s.heap [] := va_S.rf
  have hl := lv_entry ([.ref h0, .ref o0]) (n := 3) (Nat.le_of_ble_eq_true rfl)
  rw [lg_entry_eq]
  generalize (lg_sl ([.ref h0, .ref o0]) ++ List.replicate (3 - (lg_sl ([.ref h0, .ref o0])).length) Slot.unset).toArray = ls at hl ⊢
  have hl : lv_has ls 3 [(0, .ref h0), (1, .ref o0)] := hl
  refine lv_iconst (v := nI 0) hx hb dX7_copyFrom_0 (by decide) ?_
  refine lv_istore_n (lv' := [(2, .int (nI 0)), (0, .ref h0), (1, .ref o0)]) hx hb dX7_copyFrom_1 rfl hl (by decide) rfl (fun ls hl => ?_)
  refine lv_iload_n hx hb dX7_copyFrom_2 rfl (lv_at hl 0 rfl) ?_
  refine lv_iconst (v := nI 4) hx hb dX7_copyFrom_3 (by decide) ?_
  refine xr_ge_n (a := 0) (b := 4) (tgt := 37) hx hb (by decide) (by decide) dX7_copyFrom_4 (by decide) (fun c9 => absurd c9 (by decide)) (fun _ => ?_)
  refine lv_aload_n hx hb dX7_copyFrom_7 rfl (lv_at hl 1 rfl) ?_
  refine va_get (D := (dC, dI)) (ci := 7) (v := .ref x0) (C := RX7) (T := TX7) (N := 2) hx hb hts i_X7 hown hK hP 0 rfl rfl 0 (by decide) k_9 (fun _ h9 => h9) rfl dX7_copyFrom_8 ?_
  refine lv_iload_n hx hb dX7_copyFrom_11 rfl (lv_at hl 0 rfl) ?_
  refine lv_aload_n hx hb dX7_copyFrom_12 rfl (lv_at hl 2 rfl) ?_
  refine va_get (D := (dC, dI)) (ci := 7) (v := .ref y0) (C := RX7) (T := TX7) (N := 2) hx hb hts i_X7 hown hK hP 3 rfl rfl 0 (by decide) k_9 (fun _ h9 => h9) rfl dX7_copyFrom_13 ?_
  refine lv_iload_n hx hb dX7_copyFrom_16 rfl (lv_at hl 0 rfl) ?_
  refine xr_iald hx hb hK hP 4 0 rfl rfl (i := 0) (by omega) (by decide) dX7_copyFrom_17 ?_
  refine xr_iast hx hb hK hP hD hS 1 0 rfl rfl (i := 0) (by omega) (by decide) dX7_copyFrom_18 (fun H locs hP hD hS => ?_)
  have hP : va_P (dC, dI) vwCl [(h0, .inr (7, [.ref x0, .ref x1])), (x0, .inl (cI, 4, .inl (upd share 0 (share9 0)))), (x1, .inl (cF, 4, .inr (.inr (.inl markdown)))), (o0, .inr (7, [.ref y0, .ref y1])), (y0, .inl (cI, 4, .inl share9)), (y1, .inl (cF, 4, .inr (.inr (.inl markdown9))))] H := hP
  have hD : va_D A [(h0, .inr (7, [.ref x0, .ref x1])), (x0, .inl (cI, 4, .inl (upd share 0 (share9 0)))), (x1, .inl (cF, 4, .inr (.inr (.inl markdown)))), (o0, .inr (7, [.ref y0, .ref y1])), (y0, .inl (cI, 4, .inl share9)), (y1, .inl (cF, 4, .inr (.inr (.inl markdown9))))] := hD
  refine lv_aload_n hx hb dX7_copyFrom_19 rfl (lv_at hl 1 rfl) ?_
  refine va_get (D := (dC, dI)) (ci := 7) (v := .ref x1) (C := RX7) (T := TX7) (N := 2) hx hb hts i_X7 hown hK hP 0 rfl rfl 1 (by decide) k_18 (fun _ h9 => h9) rfl dX7_copyFrom_20 ?_
  refine lv_iload_n hx hb dX7_copyFrom_23 rfl (lv_at hl 0 rfl) ?_
  refine lv_aload_n hx hb dX7_copyFrom_24 rfl (lv_at hl 2 rfl) ?_
  refine va_get (D := (dC, dI)) (ci := 7) (v := .ref y1) (C := RX7) (T := TX7) (N := 2) hx hb hts i_X7 hown hK hP 3 rfl rfl 1 (by decide) k_18 (fun _ h9 => h9) rfl dX7_copyFrom_25 ?_
  refine lv_iload_n hx hb dX7_copyFrom_28 rfl (lv_at hl 0 rfl) ?_
  refine xr_fald hx hb hK hP 5 1 rfl rfl (i := 0) (by omega) (by decide) dX7_copyFrom_29 ?_
  refine xr_fast hx hb hK hP hD hS 2 1 rfl rfl (i := 0) (by omega) (by decide) dX7_copyFrom_30 (fun H locs hP hD hS => ?_)
  have hP : va_P (dC, dI) vwCl [(h0, .inr (7, [.ref x0, .ref x1])), (x0, .inl (cI, 4, .inl (upd share 0 (share9 0)))), (x1, .inl (cF, 4, .inr (.inr (.inl (vf_upd markdown 0 (markdown9 0)))))), (o0, .inr (7, [.ref y0, .ref y1])), (y0, .inl (cI, 4, .inl share9)), (y1, .inl (cF, 4, .inr (.inr (.inl markdown9))))] H := hP
  have hD : va_D A [(h0, .inr (7, [.ref x0, .ref x1])), (x0, .inl (cI, 4, .inl (upd share 0 (share9 0)))), (x1, .inl (cF, 4, .inr (.inr (.inl (vf_upd markdown 0 (markdown9 0)))))), (o0, .inr (7, [.ref y0, .ref y1])), (y0, .inl (cI, 4, .inl share9)), (y1, .inl (cF, 4, .inr (.inr (.inl markdown9))))] := hD
  refine lv_iinc (v := nI 1) (lv' := [(2, .int (nI 1)), (0, .ref h0), (1, .ref o0)]) hx hb dX7_copyFrom_31 hl (k := 0) rfl (nI_inc1 0) (by decide) rfl (fun ls hl => ?_)
  refine lv_goto (tgt := 2) hx hb dX7_copyFrom_34 (by decide) ?_
  refine lv_iload_n hx hb dX7_copyFrom_2 rfl (lv_at hl 0 rfl) ?_
  refine lv_iconst (v := nI 4) hx hb dX7_copyFrom_3 (by decide) ?_
  refine xr_ge_n (a := 1) (b := 4) (tgt := 37) hx hb (by decide) (by decide) dX7_copyFrom_4 (by decide) (fun c9 => absurd c9 (by decide)) (fun _ => ?_)
  refine lv_aload_n hx hb dX7_copyFrom_7 rfl (lv_at hl 1 rfl) ?_
  refine va_get (D := (dC, dI)) (ci := 7) (v := .ref x0) (C := RX7) (T := TX7) (N := 2) hx hb hts i_X7 hown hK hP 0 rfl rfl 0 (by decide) k_9 (fun _ h9 => h9) rfl dX7_copyFrom_8 ?_
  refine lv_iload_n hx hb dX7_copyFrom_11 rfl (lv_at hl 0 rfl) ?_
  refine lv_aload_n hx hb dX7_copyFrom_12 rfl (lv_at hl 2 rfl) ?_
  refine va_get (D := (dC, dI)) (ci := 7) (v := .ref y0) (C := RX7) (T := TX7) (N := 2) hx hb hts i_X7 hown hK hP 3 rfl rfl 0 (by decide) k_9 (fun _ h9 => h9) rfl dX7_copyFrom_13 ?_
  refine lv_iload_n hx hb dX7_copyFrom_16 rfl (lv_at hl 0 rfl) ?_
  refine xr_iald hx hb hK hP 4 0 rfl rfl (i := 1) (by omega) (by decide) dX7_copyFrom_17 ?_
  refine xr_iast hx hb hK hP hD hS 1 0 rfl rfl (i := 1) (by omega) (by decide) dX7_copyFrom_18 (fun H locs hP hD hS => ?_)
  have hP : va_P (dC, dI) vwCl [(h0, .inr (7, [.ref x0, .ref x1])), (x0, .inl (cI, 4, .inl (upd (upd share 0 (share9 0)) 1 (share9 1)))), (x1, .inl (cF, 4, .inr (.inr (.inl (vf_upd markdown 0 (markdown9 0)))))), (o0, .inr (7, [.ref y0, .ref y1])), (y0, .inl (cI, 4, .inl share9)), (y1, .inl (cF, 4, .inr (.inr (.inl markdown9))))] H := hP
  have hD : va_D A [(h0, .inr (7, [.ref x0, .ref x1])), (x0, .inl (cI, 4, .inl (upd (upd share 0 (share9 0)) 1 (share9 1)))), (x1, .inl (cF, 4, .inr (.inr (.inl (vf_upd markdown 0 (markdown9 0)))))), (o0, .inr (7, [.ref y0, .ref y1])), (y0, .inl (cI, 4, .inl share9)), (y1, .inl (cF, 4, .inr (.inr (.inl markdown9))))] := hD
  refine lv_aload_n hx hb dX7_copyFrom_19 rfl (lv_at hl 1 rfl) ?_
  refine va_get (D := (dC, dI)) (ci := 7) (v := .ref x1) (C := RX7) (T := TX7) (N := 2) hx hb hts i_X7 hown hK hP 0 rfl rfl 1 (by decide) k_18 (fun _ h9 => h9) rfl dX7_copyFrom_20 ?_
  refine lv_iload_n hx hb dX7_copyFrom_23 rfl (lv_at hl 0 rfl) ?_
  refine lv_aload_n hx hb dX7_copyFrom_24 rfl (lv_at hl 2 rfl) ?_
  refine va_get (D := (dC, dI)) (ci := 7) (v := .ref y1) (C := RX7) (T := TX7) (N := 2) hx hb hts i_X7 hown hK hP 3 rfl rfl 1 (by decide) k_18 (fun _ h9 => h9) rfl dX7_copyFrom_25 ?_
  refine lv_iload_n hx hb dX7_copyFrom_28 rfl (lv_at hl 0 rfl) ?_
  refine xr_fald hx hb hK hP 5 1 rfl rfl (i := 1) (by omega) (by decide) dX7_copyFrom_29 ?_
  refine xr_fast hx hb hK hP hD hS 2 1 rfl rfl (i := 1) (by omega) (by decide) dX7_copyFrom_30 (fun H locs hP hD hS => ?_)
  have hP : va_P (dC, dI) vwCl [(h0, .inr (7, [.ref x0, .ref x1])), (x0, .inl (cI, 4, .inl (upd (upd share 0 (share9 0)) 1 (share9 1)))), (x1, .inl (cF, 4, .inr (.inr (.inl (vf_upd (vf_upd markdown 0 (markdown9 0)) 1 (markdown9 1)))))), (o0, .inr (7, [.ref y0, .ref y1])), (y0, .inl (cI, 4, .inl share9)), (y1, .inl (cF, 4, .inr (.inr (.inl markdown9))))] H := hP
  have hD : va_D A [(h0, .inr (7, [.ref x0, .ref x1])), (x0, .inl (cI, 4, .inl (upd (upd share 0 (share9 0)) 1 (share9 1)))), (x1, .inl (cF, 4, .inr (.inr (.inl (vf_upd (vf_upd markdown 0 (markdown9 0)) 1 (markdown9 1)))))), (o0, .inr (7, [.ref y0, .ref y1])), (y0, .inl (cI, 4, .inl share9)), (y1, .inl (cF, 4, .inr (.inr (.inl markdown9))))] := hD
  refine lv_iinc (v := nI 2) (lv' := [(2, .int (nI 2)), (0, .ref h0), (1, .ref o0)]) hx hb dX7_copyFrom_31 hl (k := 0) rfl (nI_inc1 1) (by decide) rfl (fun ls hl => ?_)
  refine lv_goto (tgt := 2) hx hb dX7_copyFrom_34 (by decide) ?_
  refine lv_iload_n hx hb dX7_copyFrom_2 rfl (lv_at hl 0 rfl) ?_
  refine lv_iconst (v := nI 4) hx hb dX7_copyFrom_3 (by decide) ?_
  refine xr_ge_n (a := 2) (b := 4) (tgt := 37) hx hb (by decide) (by decide) dX7_copyFrom_4 (by decide) (fun c9 => absurd c9 (by decide)) (fun _ => ?_)
  refine lv_aload_n hx hb dX7_copyFrom_7 rfl (lv_at hl 1 rfl) ?_
  refine va_get (D := (dC, dI)) (ci := 7) (v := .ref x0) (C := RX7) (T := TX7) (N := 2) hx hb hts i_X7 hown hK hP 0 rfl rfl 0 (by decide) k_9 (fun _ h9 => h9) rfl dX7_copyFrom_8 ?_
  refine lv_iload_n hx hb dX7_copyFrom_11 rfl (lv_at hl 0 rfl) ?_
  refine lv_aload_n hx hb dX7_copyFrom_12 rfl (lv_at hl 2 rfl) ?_
  refine va_get (D := (dC, dI)) (ci := 7) (v := .ref y0) (C := RX7) (T := TX7) (N := 2) hx hb hts i_X7 hown hK hP 3 rfl rfl 0 (by decide) k_9 (fun _ h9 => h9) rfl dX7_copyFrom_13 ?_
  refine lv_iload_n hx hb dX7_copyFrom_16 rfl (lv_at hl 0 rfl) ?_
  refine xr_iald hx hb hK hP 4 0 rfl rfl (i := 2) (by omega) (by decide) dX7_copyFrom_17 ?_
  refine xr_iast hx hb hK hP hD hS 1 0 rfl rfl (i := 2) (by omega) (by decide) dX7_copyFrom_18 (fun H locs hP hD hS => ?_)
  have hP : va_P (dC, dI) vwCl [(h0, .inr (7, [.ref x0, .ref x1])), (x0, .inl (cI, 4, .inl (upd (upd (upd share 0 (share9 0)) 1 (share9 1)) 2 (share9 2)))), (x1, .inl (cF, 4, .inr (.inr (.inl (vf_upd (vf_upd markdown 0 (markdown9 0)) 1 (markdown9 1)))))), (o0, .inr (7, [.ref y0, .ref y1])), (y0, .inl (cI, 4, .inl share9)), (y1, .inl (cF, 4, .inr (.inr (.inl markdown9))))] H := hP
  have hD : va_D A [(h0, .inr (7, [.ref x0, .ref x1])), (x0, .inl (cI, 4, .inl (upd (upd (upd share 0 (share9 0)) 1 (share9 1)) 2 (share9 2)))), (x1, .inl (cF, 4, .inr (.inr (.inl (vf_upd (vf_upd markdown 0 (markdown9 0)) 1 (markdown9 1)))))), (o0, .inr (7, [.ref y0, .ref y1])), (y0, .inl (cI, 4, .inl share9)), (y1, .inl (cF, 4, .inr (.inr (.inl markdown9))))] := hD
  refine lv_aload_n hx hb dX7_copyFrom_19 rfl (lv_at hl 1 rfl) ?_
  refine va_get (D := (dC, dI)) (ci := 7) (v := .ref x1) (C := RX7) (T := TX7) (N := 2) hx hb hts i_X7 hown hK hP 0 rfl rfl 1 (by decide) k_18 (fun _ h9 => h9) rfl dX7_copyFrom_20 ?_
  refine lv_iload_n hx hb dX7_copyFrom_23 rfl (lv_at hl 0 rfl) ?_
  refine lv_aload_n hx hb dX7_copyFrom_24 rfl (lv_at hl 2 rfl) ?_
  refine va_get (D := (dC, dI)) (ci := 7) (v := .ref y1) (C := RX7) (T := TX7) (N := 2) hx hb hts i_X7 hown hK hP 3 rfl rfl 1 (by decide) k_18 (fun _ h9 => h9) rfl dX7_copyFrom_25 ?_
  refine lv_iload_n hx hb dX7_copyFrom_28 rfl (lv_at hl 0 rfl) ?_
  refine xr_fald hx hb hK hP 5 1 rfl rfl (i := 2) (by omega) (by decide) dX7_copyFrom_29 ?_
  refine xr_fast hx hb hK hP hD hS 2 1 rfl rfl (i := 2) (by omega) (by decide) dX7_copyFrom_30 (fun H locs hP hD hS => ?_)
  have hP : va_P (dC, dI) vwCl [(h0, .inr (7, [.ref x0, .ref x1])), (x0, .inl (cI, 4, .inl (upd (upd (upd share 0 (share9 0)) 1 (share9 1)) 2 (share9 2)))), (x1, .inl (cF, 4, .inr (.inr (.inl (vf_upd (vf_upd (vf_upd markdown 0 (markdown9 0)) 1 (markdown9 1)) 2 (markdown9 2)))))), (o0, .inr (7, [.ref y0, .ref y1])), (y0, .inl (cI, 4, .inl share9)), (y1, .inl (cF, 4, .inr (.inr (.inl markdown9))))] H := hP
  have hD : va_D A [(h0, .inr (7, [.ref x0, .ref x1])), (x0, .inl (cI, 4, .inl (upd (upd (upd share 0 (share9 0)) 1 (share9 1)) 2 (share9 2)))), (x1, .inl (cF, 4, .inr (.inr (.inl (vf_upd (vf_upd (vf_upd markdown 0 (markdown9 0)) 1 (markdown9 1)) 2 (markdown9 2)))))), (o0, .inr (7, [.ref y0, .ref y1])), (y0, .inl (cI, 4, .inl share9)), (y1, .inl (cF, 4, .inr (.inr (.inl markdown9))))] := hD
  refine lv_iinc (v := nI 3) (lv' := [(2, .int (nI 3)), (0, .ref h0), (1, .ref o0)]) hx hb dX7_copyFrom_31 hl (k := 0) rfl (nI_inc1 2) (by decide) rfl (fun ls hl => ?_)
  refine lv_goto (tgt := 2) hx hb dX7_copyFrom_34 (by decide) ?_
  refine lv_iload_n hx hb dX7_copyFrom_2 rfl (lv_at hl 0 rfl) ?_
  refine lv_iconst (v := nI 4) hx hb dX7_copyFrom_3 (by decide) ?_
  refine xr_ge_n (a := 3) (b := 4) (tgt := 37) hx hb (by decide) (by decide) dX7_copyFrom_4 (by decide) (fun c9 => absurd c9 (by decide)) (fun _ => ?_)
  refine lv_aload_n hx hb dX7_copyFrom_7 rfl (lv_at hl 1 rfl) ?_
  refine va_get (D := (dC, dI)) (ci := 7) (v := .ref x0) (C := RX7) (T := TX7) (N := 2) hx hb hts i_X7 hown hK hP 0 rfl rfl 0 (by decide) k_9 (fun _ h9 => h9) rfl dX7_copyFrom_8 ?_
  refine lv_iload_n hx hb dX7_copyFrom_11 rfl (lv_at hl 0 rfl) ?_
  refine lv_aload_n hx hb dX7_copyFrom_12 rfl (lv_at hl 2 rfl) ?_
  refine va_get (D := (dC, dI)) (ci := 7) (v := .ref y0) (C := RX7) (T := TX7) (N := 2) hx hb hts i_X7 hown hK hP 3 rfl rfl 0 (by decide) k_9 (fun _ h9 => h9) rfl dX7_copyFrom_13 ?_
  refine lv_iload_n hx hb dX7_copyFrom_16 rfl (lv_at hl 0 rfl) ?_
  refine xr_iald hx hb hK hP 4 0 rfl rfl (i := 3) (by omega) (by decide) dX7_copyFrom_17 ?_
  refine xr_iast hx hb hK hP hD hS 1 0 rfl rfl (i := 3) (by omega) (by decide) dX7_copyFrom_18 (fun H locs hP hD hS => ?_)
  have hP : va_P (dC, dI) vwCl [(h0, .inr (7, [.ref x0, .ref x1])), (x0, .inl (cI, 4, .inl (upd (upd (upd (upd share 0 (share9 0)) 1 (share9 1)) 2 (share9 2)) 3 (share9 3)))), (x1, .inl (cF, 4, .inr (.inr (.inl (vf_upd (vf_upd (vf_upd markdown 0 (markdown9 0)) 1 (markdown9 1)) 2 (markdown9 2)))))), (o0, .inr (7, [.ref y0, .ref y1])), (y0, .inl (cI, 4, .inl share9)), (y1, .inl (cF, 4, .inr (.inr (.inl markdown9))))] H := hP
  have hD : va_D A [(h0, .inr (7, [.ref x0, .ref x1])), (x0, .inl (cI, 4, .inl (upd (upd (upd (upd share 0 (share9 0)) 1 (share9 1)) 2 (share9 2)) 3 (share9 3)))), (x1, .inl (cF, 4, .inr (.inr (.inl (vf_upd (vf_upd (vf_upd markdown 0 (markdown9 0)) 1 (markdown9 1)) 2 (markdown9 2)))))), (o0, .inr (7, [.ref y0, .ref y1])), (y0, .inl (cI, 4, .inl share9)), (y1, .inl (cF, 4, .inr (.inr (.inl markdown9))))] := hD
  refine lv_aload_n hx hb dX7_copyFrom_19 rfl (lv_at hl 1 rfl) ?_
  refine va_get (D := (dC, dI)) (ci := 7) (v := .ref x1) (C := RX7) (T := TX7) (N := 2) hx hb hts i_X7 hown hK hP 0 rfl rfl 1 (by decide) k_18 (fun _ h9 => h9) rfl dX7_copyFrom_20 ?_
  refine lv_iload_n hx hb dX7_copyFrom_23 rfl (lv_at hl 0 rfl) ?_
  refine lv_aload_n hx hb dX7_copyFrom_24 rfl (lv_at hl 2 rfl) ?_
  refine va_get (D := (dC, dI)) (ci := 7) (v := .ref y1) (C := RX7) (T := TX7) (N := 2) hx hb hts i_X7 hown hK hP 3 rfl rfl 1 (by decide) k_18 (fun _ h9 => h9) rfl dX7_copyFrom_25 ?_
  refine lv_iload_n hx hb dX7_copyFrom_28 rfl (lv_at hl 0 rfl) ?_
  refine xr_fald hx hb hK hP 5 1 rfl rfl (i := 3) (by omega) (by decide) dX7_copyFrom_29 ?_
  refine xr_fast hx hb hK hP hD hS 2 1 rfl rfl (i := 3) (by omega) (by decide) dX7_copyFrom_30 (fun H locs hP hD hS => ?_)
  have hP : va_P (dC, dI) vwCl [(h0, .inr (7, [.ref x0, .ref x1])), (x0, .inl (cI, 4, .inl (upd (upd (upd (upd share 0 (share9 0)) 1 (share9 1)) 2 (share9 2)) 3 (share9 3)))), (x1, .inl (cF, 4, .inr (.inr (.inl (vf_upd (vf_upd (vf_upd (vf_upd markdown 0 (markdown9 0)) 1 (markdown9 1)) 2 (markdown9 2)) 3 (markdown9 3)))))), (o0, .inr (7, [.ref y0, .ref y1])), (y0, .inl (cI, 4, .inl share9)), (y1, .inl (cF, 4, .inr (.inr (.inl markdown9))))] H := hP
  have hD : va_D A [(h0, .inr (7, [.ref x0, .ref x1])), (x0, .inl (cI, 4, .inl (upd (upd (upd (upd share 0 (share9 0)) 1 (share9 1)) 2 (share9 2)) 3 (share9 3)))), (x1, .inl (cF, 4, .inr (.inr (.inl (vf_upd (vf_upd (vf_upd (vf_upd markdown 0 (markdown9 0)) 1 (markdown9 1)) 2 (markdown9 2)) 3 (markdown9 3)))))), (o0, .inr (7, [.ref y0, .ref y1])), (y0, .inl (cI, 4, .inl share9)), (y1, .inl (cF, 4, .inr (.inr (.inl markdown9))))] := hD
  refine lv_iinc (v := nI 4) (lv' := [(2, .int (nI 4)), (0, .ref h0), (1, .ref o0)]) hx hb dX7_copyFrom_31 hl (k := 0) rfl (nI_inc1 3) (by decide) rfl (fun ls hl => ?_)
  refine lv_goto (tgt := 2) hx hb dX7_copyFrom_34 (by decide) ?_
  refine lv_iload_n hx hb dX7_copyFrom_2 rfl (lv_at hl 0 rfl) ?_
  refine lv_iconst (v := nI 4) hx hb dX7_copyFrom_3 (by decide) ?_
  refine xr_ge_n (a := 4) (b := 4) (tgt := 37) hx hb (by decide) (by decide) dX7_copyFrom_4 (by decide) (fun _ => ?_) (fun c9 => absurd c9 (by decide))
  have hP := xP_arr hP 1 rfl (f := share9) (xupd4 _ _)
  have hP := xP_arrf hP 2 rfl (f := markdown9) (xupd4f _ _)
  have hP : va_P (dC, dI) vwCl [(h0, .inr (7, [.ref x0, .ref x1])), (x0, .inl (cI, 4, .inl share9)), (x1, .inl (cF, 4, .inr (.inr (.inl markdown9)))), (o0, .inr (7, [.ref y0, .ref y1])), (y0, .inl (cI, 4, .inl share9)), (y1, .inl (cF, 4, .inr (.inr (.inl markdown9))))] H := hP
  have hP9 : va_P (dC, dI) vwCl [(h0, .inr (7, [.ref x0, .ref x1])), (x0, .inl (cI, 4, .inl share9)), (x1, .inl (cF, 4, .inr (.inr (.inl markdown9)))), (o0, .inr (7, [.ref y0, .ref y1])), (y0, .inl (cI, 4, .inl share9)), (y1, .inl (cF, 4, .inr (.inr (.inl markdown9))))] H := hP
  have hS9 : va_S (va_B [(h0, .inr (7, [.ref x0, .ref x1])), (x0, .inl (cI, 4, .inl share)), (x1, .inl (cF, 4, .inr (.inr (.inl markdown)))), (o0, .inr (7, [.ref y0, .ref y1])), (y0, .inl (cI, 4, .inl share9)), (y1, .inl (cF, 4, .inr (.inr (.inl markdown9))))]) s.heap H locs := by rw [← hA]; exact hS
  exact W.vret hx hb hr (fun t ht hW => ⟨⟨_, rfl, rfl, by rw [ht]; exact hP9⟩, hS9.X ht⟩) hS9.2.2 dX7_copyFrom_37
theorem hdV_X7_reached : yX7_reached.cls = RX7 ∧ yX7_reached.cls ≠ "java/lang/invoke/MethodHandle" ∧ yX7_reached.cls ≠ "java/lang/invoke/VarHandle" ∧ (parseMethodDescriptor yX7_reached.desc).map (fun d => d.parameters.length) = some 2 := by decide +kernel
set_option maxHeartbeats 4000000 in
set_option maxRecDepth 100000 in
theorem c_X7_reached (l : Launch) (dC : Nat → ClassId) (dI : Nat → Nat → Nat) (cI cF cC cZ cQ cS : ClassId) (h0 : Nat) (qs : Nat) (h0_markdown : Value) (share : Nat → Int32) (dl : Int32) (lf : Int32) : Met l yX7_reached wsX7_reached ({ frames := 0, cells := 0, slots := 0, locals := 0 }) (xPre (dC, dI) vwCl [.ref h0, .int dl, .int lf] (xtys cI cF cC cZ cQ cS) [(h0, .inr (7, [.ref qs, h0_markdown])), (qs, .inl (cI, 4, .inl share))]) (vp_Si (fun r0 => r0 = nI (xreach (share 1) (share 2) (share 3) dl lf))) 0 0 (fun _ => False) := by
  refine Met.ofW (cc := cX7_reached) (maxL := 4) (ret := (some .int)) (by decide) rfl ?_
  intro p e s m args below meth c s₁ B hml hv
  obtain ⟨rfl, hP, hK, hD0, hN⟩ := hv
  have hx := B.exec
  have hb := B.bytes
  have hr := B.returns
  have hts := atoms_spec (ws := wsX7_reached) B.pre
  have hown : s.vm.findClass RX7 = some m.cls := findClass_of_methodNamed B.named
  have hlocks := B.notSynchronized
  have k_9 := hts (Cond.fieldLink RX7 9 "ShelfStages$Stages" "share" "[I") (by decide +kernel)
  have i_X7 : ∀ w ∈ wsX70, w ∈ wsX7_reached := by decide +kernel
  have hD := hD0
  have hl := lv_entry ([.ref h0, .int dl, .int lf]) (n := 4) (Nat.le_of_ble_eq_true rfl)
  rw [lg_entry_eq]
  generalize (lg_sl ([.ref h0, .int dl, .int lf]) ++ List.replicate (4 - (lg_sl ([.ref h0, .int dl, .int lf])).length) Slot.unset).toArray = ls at hl ⊢
  have hl : lv_has ls 4 [(0, .ref h0), (1, .int dl), (2, .int lf)] := hl
  refine lv_iconst (v := nI 3) hx hb dX7_reached_0 (by decide) ?_
  refine lv_istore_n (lv' := [(3, .int (nI 3)), (0, .ref h0), (1, .int dl), (2, .int lf)]) hx hb dX7_reached_1 rfl hl (by decide) rfl (fun ls hl => ?_)
  refine lv_iload_n hx hb dX7_reached_2 rfl (lv_at hl 0 rfl) ?_
  refine xr_zle_n (a := 3) (tgt := 29) hx hb (by decide) dX7_reached_3 (by decide) (fun c9 => absurd c9 (by decide)) (fun _ => ?_)
  refine lv_iload_n hx hb dX7_reached_6 rfl (lv_at hl 2 rfl) ?_
  refine lv_bipush (v := nI 100) hx hb dX7_reached_7 (by decide) ?_
  refine lv_imul hx hb dX7_reached_9 ?_
  refine lv_aload_n hx hb dX7_reached_10 rfl (lv_at hl 1 rfl) ?_
  refine va_get (D := (dC, dI)) (ci := 7) (v := .ref qs) (C := RX7) (T := TX7) (N := 2) hx hb hts i_X7 hown hK hP 0 rfl rfl 0 (by decide) k_9 (fun _ h9 => h9) rfl dX7_reached_11 ?_
  refine lv_iload_n hx hb dX7_reached_14 rfl (lv_at hl 0 rfl) ?_
  refine xr_iald hx hb hK hP 1 0 rfl rfl (i := 3) (by omega) (by decide) dX7_reached_15 ?_
  refine lv_iload_n hx hb dX7_reached_16 rfl (lv_at hl 3 rfl) ?_
  refine lv_imul hx hb dX7_reached_17 ?_
  refine lv_icmp_gt (tgt := 23) hx hb dX7_reached_18 (by decide) (fun c_1 => ?_) (fun c_1 => ?_)
  · skip
    refine lv_iinc (v := nI 2) (lv' := [(3, .int (nI 2)), (0, .ref h0), (1, .int dl), (2, .int lf)]) hx hb dX7_reached_23 hl (k := 0) rfl (nI_dec1 (k := 3) (by decide)) (by decide) rfl (fun ls hl => ?_)
    refine lv_goto (tgt := 2) hx hb dX7_reached_26 (by decide) ?_
    refine lv_iload_n hx hb dX7_reached_2 rfl (lv_at hl 0 rfl) ?_
    refine xr_zle_n (a := 2) (tgt := 29) hx hb (by decide) dX7_reached_3 (by decide) (fun c9 => absurd c9 (by decide)) (fun _ => ?_)
    refine lv_iload_n hx hb dX7_reached_6 rfl (lv_at hl 2 rfl) ?_
    refine lv_bipush (v := nI 100) hx hb dX7_reached_7 (by decide) ?_
    refine lv_imul hx hb dX7_reached_9 ?_
    refine lv_aload_n hx hb dX7_reached_10 rfl (lv_at hl 1 rfl) ?_
    refine va_get (D := (dC, dI)) (ci := 7) (v := .ref qs) (C := RX7) (T := TX7) (N := 2) hx hb hts i_X7 hown hK hP 0 rfl rfl 0 (by decide) k_9 (fun _ h9 => h9) rfl dX7_reached_11 ?_
    refine lv_iload_n hx hb dX7_reached_14 rfl (lv_at hl 0 rfl) ?_
    refine xr_iald hx hb hK hP 1 0 rfl rfl (i := 2) (by omega) (by decide) dX7_reached_15 ?_
    refine lv_iload_n hx hb dX7_reached_16 rfl (lv_at hl 3 rfl) ?_
    refine lv_imul hx hb dX7_reached_17 ?_
    refine lv_icmp_gt (tgt := 23) hx hb dX7_reached_18 (by decide) (fun c_2 => ?_) (fun c_2 => ?_)
    · skip
      refine lv_iinc (v := nI 1) (lv' := [(3, .int (nI 1)), (0, .ref h0), (1, .int dl), (2, .int lf)]) hx hb dX7_reached_23 hl (k := 0) rfl (nI_dec1 (k := 2) (by decide)) (by decide) rfl (fun ls hl => ?_)
      refine lv_goto (tgt := 2) hx hb dX7_reached_26 (by decide) ?_
      refine lv_iload_n hx hb dX7_reached_2 rfl (lv_at hl 0 rfl) ?_
      refine xr_zle_n (a := 1) (tgt := 29) hx hb (by decide) dX7_reached_3 (by decide) (fun c9 => absurd c9 (by decide)) (fun _ => ?_)
      refine lv_iload_n hx hb dX7_reached_6 rfl (lv_at hl 2 rfl) ?_
      refine lv_bipush (v := nI 100) hx hb dX7_reached_7 (by decide) ?_
      refine lv_imul hx hb dX7_reached_9 ?_
      refine lv_aload_n hx hb dX7_reached_10 rfl (lv_at hl 1 rfl) ?_
      refine va_get (D := (dC, dI)) (ci := 7) (v := .ref qs) (C := RX7) (T := TX7) (N := 2) hx hb hts i_X7 hown hK hP 0 rfl rfl 0 (by decide) k_9 (fun _ h9 => h9) rfl dX7_reached_11 ?_
      refine lv_iload_n hx hb dX7_reached_14 rfl (lv_at hl 0 rfl) ?_
      refine xr_iald hx hb hK hP 1 0 rfl rfl (i := 1) (by omega) (by decide) dX7_reached_15 ?_
      refine lv_iload_n hx hb dX7_reached_16 rfl (lv_at hl 3 rfl) ?_
      refine lv_imul hx hb dX7_reached_17 ?_
      refine lv_icmp_gt (tgt := 23) hx hb dX7_reached_18 (by decide) (fun c_3 => ?_) (fun c_3 => ?_)
      · skip
        refine lv_iinc (v := nI 0) (lv' := [(3, .int (nI 0)), (0, .ref h0), (1, .int dl), (2, .int lf)]) hx hb dX7_reached_23 hl (k := 0) rfl (nI_dec1 (k := 1) (by decide)) (by decide) rfl (fun ls hl => ?_)
        refine lv_goto (tgt := 2) hx hb dX7_reached_26 (by decide) ?_
        refine lv_iload_n hx hb dX7_reached_2 rfl (lv_at hl 0 rfl) ?_
        refine xr_zle_n (a := 0) (tgt := 29) hx hb (by decide) dX7_reached_3 (by decide) (fun _ => ?_) (fun c9 => absurd c9 (by decide))
        refine lv_iconst (v := nI 0) hx hb dX7_reached_29 (by decide) ?_
        exact W.iret (v := nI 0) hx hb hr (fun t ht hW => ⟨_, rfl, (show nI 0 = nI (xreach (share 1) (share 2) (share 3) dl lf) from (by unfold xreach; rw [if_pos c_1, if_pos c_2, if_pos c_3])), ht⟩) (fun q h => by cases h) dX7_reached_30
      refine lv_iload_n hx hb dX7_reached_21 rfl (lv_at hl 0 rfl) ?_
      exact W.iret (v := nI 1) hx hb hr (fun t ht hW => ⟨_, rfl, (show nI 1 = nI (xreach (share 1) (share 2) (share 3) dl lf) from (by unfold xreach; rw [if_pos c_1, if_pos c_2, if_neg c_3])), ht⟩) (fun q h => by cases h) dX7_reached_22
    refine lv_iload_n hx hb dX7_reached_21 rfl (lv_at hl 0 rfl) ?_
    exact W.iret (v := nI 2) hx hb hr (fun t ht hW => ⟨_, rfl, (show nI 2 = nI (xreach (share 1) (share 2) (share 3) dl lf) from (by unfold xreach; rw [if_pos c_1, if_neg c_2])), ht⟩) (fun q h => by cases h) dX7_reached_22
  refine lv_iload_n hx hb dX7_reached_21 rfl (lv_at hl 0 rfl) ?_
  exact W.iret (v := nI 3) hx hb hr (fun t ht hW => ⟨_, rfl, (show nI 3 = nI (xreach (share 1) (share 2) (share 3) dl lf) from (by unfold xreach; rw [if_neg c_1])), ht⟩) (fun q h => by cases h) dX7_reached_22
theorem hdV_X7_hasRoomFor : yX7_hasRoomFor.cls = RX7 ∧ yX7_hasRoomFor.cls ≠ "java/lang/invoke/MethodHandle" ∧ yX7_hasRoomFor.cls ≠ "java/lang/invoke/VarHandle" ∧ (parseMethodDescriptor yX7_hasRoomFor.desc).map (fun d => d.parameters.length) = some 2 := by decide +kernel
set_option maxHeartbeats 4000000 in
set_option maxRecDepth 100000 in
theorem c_X7_hasRoomFor (l : Launch) (dC : Nat → ClassId) (dI : Nat → Nat → Nat) (cI cF cC cZ cQ cS : ClassId) (h0 : Nat) (qs : Nat) (h0_markdown : Value) (share : Nat → Int32) (st : Nat) (ns : Int32) (hst : 1 ≤ st ∧ st < 4) : Met l yX7_hasRoomFor wsX7_hasRoomFor ({ frames := 0, cells := 0, slots := 0, locals := 0 }) (xPre (dC, dI) vwCl [.ref h0, .int (nI st), .int ns] (xtys cI cF cC cZ cQ cS) [(h0, .inr (7, [.ref qs, h0_markdown])), (qs, .inl (cI, 4, .inl share))]) (vp_Si (fun r0 => r0 = (if ns < share (st - 1) ∧ (if st + 1 < 4 then share (st + 1) else (-1)) < ns then nI 1 else nI 0))) 0 0 (fun _ => False) := by
  refine Met.ofW (cc := cX7_hasRoomFor) (maxL := 4) (ret := (some .boolean)) (by decide) rfl ?_
  intro p e s m args below meth c s₁ B hml hv
  obtain ⟨rfl, hP, hK, hD0, hN⟩ := hv
  have hx := B.exec
  have hb := B.bytes
  have hr := B.returns
  have hts := atoms_spec (ws := wsX7_hasRoomFor) B.pre
  have hown : s.vm.findClass RX7 = some m.cls := findClass_of_methodNamed B.named
  have hlocks := B.notSynchronized
  have k_9 := hts (Cond.fieldLink RX7 9 "ShelfStages$Stages" "share" "[I") (by decide +kernel)
  have i_X7 : ∀ w ∈ wsX70, w ∈ wsX7_hasRoomFor := by decide +kernel
  have hD := hD0
  have hl := lv_entry ([.ref h0, .int (nI st), .int ns]) (n := 4) (Nat.le_of_ble_eq_true rfl)
  rw [lg_entry_eq]
  generalize (lg_sl ([.ref h0, .int (nI st), .int ns]) ++ List.replicate (4 - (lg_sl ([.ref h0, .int (nI st), .int ns])).length) Slot.unset).toArray = ls at hl ⊢
  have hl : lv_has ls 4 [(0, .ref h0), (1, .int (nI st)), (2, .int ns)] := hl
  refine xr_cut (g2 := F0 m 19 ls [.int (if st + 1 < 4 then share (st + 1) else (-1))]) (fun kj_1 => ?_) ?_
  · skip
    refine lv_iload_n hx hb dX7_hasRoomFor_0 rfl (lv_at hl 1 rfl) ?_
    refine lv_iconst (v := nI 1) hx hb dX7_hasRoomFor_1 (by decide) ?_
    refine xr_iadd_n hx hb dX7_hasRoomFor_2 ?_
    refine lv_iconst (v := nI 4) hx hb dX7_hasRoomFor_3 (by decide) ?_
    refine xr_ge_n (tgt := 18) hx hb (by omega) (by omega) dX7_hasRoomFor_4 (by decide) (fun c_2 => ?_) (fun c_2 => ?_)
    · skip
      refine lv_iconst (v := (-1)) hx hb dX7_hasRoomFor_18 (by decide) ?_
      refine xr_top (show (-1) = if st + 1 < 4 then share (st + 1) else (-1) from (if_neg (Nat.not_lt.mpr c_2)).symm) ?_
      exact kj_1
    refine lv_aload_n hx hb dX7_hasRoomFor_7 rfl (lv_at hl 0 rfl) ?_
    refine va_get (D := (dC, dI)) (ci := 7) (v := .ref qs) (C := RX7) (T := TX7) (N := 2) hx hb hts i_X7 hown hK hP 0 rfl rfl 0 (by decide) k_9 (fun _ h9 => h9) rfl dX7_hasRoomFor_8 ?_
    refine lv_iload_n hx hb dX7_hasRoomFor_11 rfl (lv_at hl 1 rfl) ?_
    refine lv_iconst (v := nI 1) hx hb dX7_hasRoomFor_12 (by decide) ?_
    refine xr_iadd_n hx hb dX7_hasRoomFor_13 ?_
    refine xr_iald hx hb hK hP 1 0 rfl rfl (i := st + 1) (by omega) (by decide) dX7_hasRoomFor_14 ?_
    refine lv_goto (tgt := 19) hx hb dX7_hasRoomFor_15 (by decide) ?_
    refine xr_top (show share (st + 1) = if st + 1 < 4 then share (st + 1) else (-1) from (if_pos c_2).symm) ?_
    exact kj_1
  refine lv_istore_n (lv' := [(3, .int (if st + 1 < 4 then share (st + 1) else (-1))), (0, .ref h0), (1, .int (nI st)), (2, .int ns)]) hx hb dX7_hasRoomFor_19 rfl hl (by decide) rfl (fun ls hl => ?_)
  refine lv_iload_n hx hb dX7_hasRoomFor_20 rfl (lv_at hl 3 rfl) ?_
  refine lv_aload_n hx hb dX7_hasRoomFor_21 rfl (lv_at hl 1 rfl) ?_
  refine va_get (D := (dC, dI)) (ci := 7) (v := .ref qs) (C := RX7) (T := TX7) (N := 2) hx hb hts i_X7 hown hK hP 0 rfl rfl 0 (by decide) k_9 (fun _ h9 => h9) rfl dX7_hasRoomFor_22 ?_
  refine lv_iload_n hx hb dX7_hasRoomFor_25 rfl (lv_at hl 2 rfl) ?_
  refine lv_iconst (v := nI 1) hx hb dX7_hasRoomFor_26 (by decide) ?_
  refine xr_isub_n hx hb (by omega) dX7_hasRoomFor_27 ?_
  refine xr_iald hx hb hK hP 1 0 rfl rfl (i := st - 1) (by omega) (by decide) dX7_hasRoomFor_28 ?_
  refine lv_icmp_ge (tgt := 41) hx hb dX7_hasRoomFor_29 (by decide) (fun c_3 => ?_) (fun c_3 => ?_)
  · skip
    refine lv_iconst (v := nI 0) hx hb dX7_hasRoomFor_41 (by decide) ?_
    exact W.zret (v := nI 0) hx hb hr rfl (fun t ht hW => ⟨_, rfl, (show nI 0 = (if ns < share (st - 1) ∧ (if st + 1 < 4 then share (st + 1) else (-1)) < ns then nI 1 else nI 0) from (if_neg (fun q => absurd c_3 (Int32.not_le.mpr q.1))).symm), ht⟩) (fun q h => by cases h) dX7_hasRoomFor_42
  refine lv_iload_n hx hb dX7_hasRoomFor_32 rfl (lv_at hl 3 rfl) ?_
  refine lv_iload_n hx hb dX7_hasRoomFor_33 rfl (lv_at hl 0 rfl) ?_
  refine lv_icmp_le (tgt := 41) hx hb dX7_hasRoomFor_34 (by decide) (fun c_4 => ?_) (fun c_4 => ?_)
  · skip
    refine lv_iconst (v := nI 0) hx hb dX7_hasRoomFor_41 (by decide) ?_
    exact W.zret (v := nI 0) hx hb hr rfl (fun t ht hW => ⟨_, rfl, (show nI 0 = (if ns < share (st - 1) ∧ (if st + 1 < 4 then share (st + 1) else (-1)) < ns then nI 1 else nI 0) from (if_neg (fun q => absurd c_4 (Int32.not_le.mpr q.2))).symm), ht⟩) (fun q h => by cases h) dX7_hasRoomFor_42
  refine lv_iconst (v := nI 1) hx hb dX7_hasRoomFor_37 (by decide) ?_
  refine lv_goto (tgt := 42) hx hb dX7_hasRoomFor_38 (by decide) ?_
  exact W.zret (v := nI 1) hx hb hr rfl (fun t ht hW => ⟨_, rfl, (show nI 1 = (if ns < share (st - 1) ∧ (if st + 1 < 4 then share (st + 1) else (-1)) < ns then nI 1 else nI 0) from (if_pos ⟨Int32.not_le.mp c_3, Int32.not_le.mp c_4⟩).symm), ht⟩) (fun q h => by cases h) dX7_hasRoomFor_42
