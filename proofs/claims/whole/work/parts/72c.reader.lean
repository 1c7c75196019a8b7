theorem hdV_X10_readText : yX10_readText.cls = RX10 ∧ yX10_readText.cls ≠ "java/lang/invoke/MethodHandle" ∧ yX10_readText.cls ≠ "java/lang/invoke/VarHandle" ∧ (parseMethodDescriptor yX10_readText.desc).map (fun d => d.parameters.length) = some 0 := by decide +kernel
set_option maxHeartbeats 4000000 in
set_option maxRecDepth 100000 in
theorem c_X10_readText (l : Launch) (dC : Nat → ClassId) (dI : Nat → Nat → Nat) (cI cF cC cZ cQ cS : ClassId) (h0 : Nat) (h0_z : Value) (h0_past : Value) (h0_kept : Value) (h0_spare : Value) (h0_pastMany : Value) (h0_isKept : Value) (tq : Nat) (h0_isUsed : Value) (h0_planBatch : Value) (h0_planUnits : Value) (h0_planCents : Value) (h0_planMany : Value) (h0_planGot : Value) (h0_planSubstitutes : Value) (eq : Nat) (text : Nat → Int32) (tl : Nat) (a0 : Nat) (f0 : Int32) (row : Nat → Int32) (en : Nat) (htl : tl ≤ 60) : Met l yX10_readText wsX10_readText ({ frames := 4, cells := 0, slots := 0, locals := 85 }) (xPre (dC, dI) vwCl [.ref h0] (xtys cI cF cC cZ cQ cS) [(h0, .inr (10, [h0_z, h0_past, h0_kept, h0_spare, h0_pastMany, h0_isKept, .ref tq, .int (nI tl), h0_isUsed, h0_planBatch, h0_planUnits, h0_planCents, h0_planMany, h0_planGot, h0_planSubstitutes, .int (nI a0), .int f0, .int (nI en), .ref eq])), (tq, .inl (cC, 60, .inl text)), (eq, .inl (cI, 60, .inl row))]) (xWv (dC, dI) vwCl [(h0, .inr (10, [h0_z, h0_past, h0_kept, h0_spare, h0_pastMany, h0_isKept, .ref tq, .int (nI tl), h0_isUsed, h0_planBatch, h0_planUnits, h0_planCents, h0_planMany, h0_planGot, h0_planSubstitutes, .int (nI a0), .int f0, .int (nI en), .ref eq])), (tq, .inl (cC, 60, .inl text)), (eq, .inl (cI, 60, .inl row))] (fun w0 => w0 = [(h0, .inr (10, [h0_z, h0_past, h0_kept, h0_spare, h0_pastMany, h0_isKept, .ref tq, .int (nI tl), h0_isUsed, h0_planBatch, h0_planUnits, h0_planCents, h0_planMany, h0_planGot, h0_planSubstitutes, .int (nI ((zrt text tl 16 0 0 row).1)), .int ((zrt text tl 16 0 0 row).2.1), .int (nI ((zrt text tl 16 0 0 row).2.2.1)), .ref eq])), (tq, .inl (cC, 60, .inl text)), (eq, .inl (cI, 60, .inl ((zrt text tl 16 0 0 row).2.2.2)))])) 0 0 (va_B [(h0, .inr (10, [h0_z, h0_past, h0_kept, h0_spare, h0_pastMany, h0_isKept, .ref tq, .int (nI tl), h0_isUsed, h0_planBatch, h0_planUnits, h0_planCents, h0_planMany, h0_planGot, h0_planSubstitutes, .int (nI a0), .int f0, .int (nI en), .ref eq])), (tq, .inl (cC, 60, .inl text)), (eq, .inl (cI, 60, .inl row))]) := by
  refine Met.ofW (cc := cX10_readText) (maxL := 2) (ret := none) (by decide) rfl ?_
  intro p e s m args below meth c s₁ B hml hv
  obtain ⟨rfl, hP, hK, hD0, hN⟩ := hv
  have hx := B.exec
  have hb := B.bytes
  have hr := B.returns
  have hts := atoms_spec (ws := wsX10_readText) B.pre
  have hown : s.vm.findClass RX10 = some m.cls := findClass_of_methodNamed B.named
  have hlocks := B.notSynchronized
  have k_154 := hts (Cond.fieldLink RX10 154 "ShelfStagesModel" "typed" "I") (by decide +kernel)
  have k_160 := hts (Cond.fieldLink RX10 160 "ShelfStagesModel" "at" "I") (by decide +kernel)
  have k_166 := hts (Cond.fieldLink RX10 166 "ShelfStagesModel" "fault" "I") (by decide +kernel)
  have k_169 := hts (Cond.fieldLink RX10 169 "ShelfStagesModel" "entries" "I") (by decide +kernel)
  have i_X10 : ∀ w ∈ wsX100, w ∈ wsX10_readText := by decide +kernel
  obtain ⟨A, hA⟩ : ∃ A, A = va_B [(h0, .inr (10, [h0_z, h0_past, h0_kept, h0_spare, h0_pastMany, h0_isKept, .ref tq, .int (nI tl), h0_isUsed, h0_planBatch, h0_planUnits, h0_planCents, h0_planMany, h0_planGot, h0_planSubstitutes, .int (nI a0), .int f0, .int (nI en), .ref eq])), (tq, .inl (cC, 60, .inl text)), (eq, .inl (cI, 60, .inl row))] := ⟨_, rfl⟩
  have hD : va_D A [(h0, .inr (10, [h0_z, h0_past, h0_kept, h0_spare, h0_pastMany, h0_isKept, .ref tq, .int (nI tl), h0_isUsed, h0_planBatch, h0_planUnits, h0_planCents, h0_planMany, h0_planGot, h0_planSubstitutes, .int (nI a0), .int f0, .int (nI en), .ref eq])), (tq, .inl (cC, 60, .inl text)), (eq, .inl (cI, 60, .inl row))] := hA ▸ hD0.own
  have hS : va_S A s.heap s.heap [] := va_S.rf
  have hl := lv_entry ([.ref h0]) (n := 2) (Nat.le_of_ble_eq_true rfl)
  rw [lg_entry_eq]
  generalize (lg_sl ([.ref h0]) ++ List.replicate (2 - (lg_sl ([.ref h0])).length) Slot.unset).toArray = ls at hl ⊢
  have hl : lv_has ls 2 [(0, .ref h0)] := hl
  refine lv_aload_n hx hb dX10_readText_0 rfl (lv_at hl 0 rfl) ?_
  refine lv_iconst (v := nI 0) hx hb dX10_readText_1 (by decide) ?_
  refine va_put (D := (dC, dI)) (ci := 10) (v := .int (nI 0)) (ty := .int) (C := RX10) (T := TX10) (N := 19) hx hb hts i_X10 tyX10 tyX10_ok nmX10 hown hK hP hD hS 0 rfl rfl 15 (by decide) k_160 (fun _ h9 => h9) rfl (by decide +kernel) rfl rfl (Nat.le_of_ble_eq_true rfl) dX10_readText_2 (fun H locs hP hD hS => ?_)
  have hP : va_P (dC, dI) vwCl [(h0, .inr (10, [h0_z, h0_past, h0_kept, h0_spare, h0_pastMany, h0_isKept, .ref tq, .int (nI tl), h0_isUsed, h0_planBatch, h0_planUnits, h0_planCents, h0_planMany, h0_planGot, h0_planSubstitutes, .int (nI 0), .int f0, .int (nI en), .ref eq])), (tq, .inl (cC, 60, .inl text)), (eq, .inl (cI, 60, .inl row))] H := hP
  have hD : va_D A [(h0, .inr (10, [h0_z, h0_past, h0_kept, h0_spare, h0_pastMany, h0_isKept, .ref tq, .int (nI tl), h0_isUsed, h0_planBatch, h0_planUnits, h0_planCents, h0_planMany, h0_planGot, h0_planSubstitutes, .int (nI 0), .int f0, .int (nI en), .ref eq])), (tq, .inl (cC, 60, .inl text)), (eq, .inl (cI, 60, .inl row))] := hD
  refine lv_aload_n hx hb dX10_readText_5 rfl (lv_at hl 0 rfl) ?_
  refine lv_bipush (v := (-5)) hx hb dX10_readText_6 (by decide) ?_
  refine va_put (D := (dC, dI)) (ci := 10) (v := .int (-5)) (ty := .int) (C := RX10) (T := TX10) (N := 19) hx hb hts i_X10 tyX10 tyX10_ok nmX10 hown hK hP hD hS 0 rfl rfl 16 (by decide) k_166 (fun _ h9 => h9) rfl (by decide +kernel) rfl rfl (Nat.le_of_ble_eq_true rfl) dX10_readText_8 (fun H locs hP hD hS => ?_)
  have hP : va_P (dC, dI) vwCl [(h0, .inr (10, [h0_z, h0_past, h0_kept, h0_spare, h0_pastMany, h0_isKept, .ref tq, .int (nI tl), h0_isUsed, h0_planBatch, h0_planUnits, h0_planCents, h0_planMany, h0_planGot, h0_planSubstitutes, .int (nI 0), .int (-5), .int (nI en), .ref eq])), (tq, .inl (cC, 60, .inl text)), (eq, .inl (cI, 60, .inl row))] H := hP
  have hD : va_D A [(h0, .inr (10, [h0_z, h0_past, h0_kept, h0_spare, h0_pastMany, h0_isKept, .ref tq, .int (nI tl), h0_isUsed, h0_planBatch, h0_planUnits, h0_planCents, h0_planMany, h0_planGot, h0_planSubstitutes, .int (nI 0), .int (-5), .int (nI en), .ref eq])), (tq, .inl (cC, 60, .inl text)), (eq, .inl (cI, 60, .inl row))] := hD
  refine lv_aload_n hx hb dX10_readText_11 rfl (lv_at hl 0 rfl) ?_
  refine lv_iconst (v := nI 0) hx hb dX10_readText_12 (by decide) ?_
  refine va_put (D := (dC, dI)) (ci := 10) (v := .int (nI 0)) (ty := .int) (C := RX10) (T := TX10) (N := 19) hx hb hts i_X10 tyX10 tyX10_ok nmX10 hown hK hP hD hS 0 rfl rfl 17 (by decide) k_169 (fun _ h9 => h9) rfl (by decide +kernel) rfl rfl (Nat.le_of_ble_eq_true rfl) dX10_readText_13 (fun H locs hP hD hS => ?_)
  have hP : va_P (dC, dI) vwCl [(h0, .inr (10, [h0_z, h0_past, h0_kept, h0_spare, h0_pastMany, h0_isKept, .ref tq, .int (nI tl), h0_isUsed, h0_planBatch, h0_planUnits, h0_planCents, h0_planMany, h0_planGot, h0_planSubstitutes, .int (nI 0), .int (-5), .int (nI 0), .ref eq])), (tq, .inl (cC, 60, .inl text)), (eq, .inl (cI, 60, .inl row))] H := hP
  have hD : va_D A [(h0, .inr (10, [h0_z, h0_past, h0_kept, h0_spare, h0_pastMany, h0_isKept, .ref tq, .int (nI tl), h0_isUsed, h0_planBatch, h0_planUnits, h0_planCents, h0_planMany, h0_planGot, h0_planSubstitutes, .int (nI 0), .int (-5), .int (nI 0), .ref eq])), (tq, .inl (cC, 60, .inl text)), (eq, .inl (cI, 60, .inl row))] := hD
  refine lv_iconst (v := nI 1) hx hb dX10_readText_16 (by decide) ?_
  refine lv_istore_n (lv' := [(1, .int (nI 1)), (0, .ref h0)]) hx hb dX10_readText_17 rfl hl (by decide) rfl (fun ls hl => ?_)
  refine xr_loop (J := Nat) (fun n0 H locs g => ∃ (aj : Nat) (ej : Nat) (rj : Nat → Int32) (ls : Array Slot), n0 = 1000 - aj ∧ g = F0 m 18 ls [] ∧ lv_has ls 2 [(1, .int (nI 1)), (0, .ref h0)] ∧ va_P (dC, dI) vwCl [(h0, .inr (10, [h0_z, h0_past, h0_kept, h0_spare, h0_pastMany, h0_isKept, .ref tq, .int (nI tl), h0_isUsed, h0_planBatch, h0_planUnits, h0_planCents, h0_planMany, h0_planGot, h0_planSubstitutes, .int (nI aj), .int (-5), .int (nI ej), .ref eq])), (tq, .inl (cC, 60, .inl text)), (eq, .inl (cI, 60, .inl rj))] H ∧ va_D A [(h0, .inr (10, [h0_z, h0_past, h0_kept, h0_spare, h0_pastMany, h0_isKept, .ref tq, .int (nI tl), h0_isUsed, h0_planBatch, h0_planUnits, h0_planCents, h0_planMany, h0_planGot, h0_planSubstitutes, .int (nI aj), .int (-5), .int (nI ej), .ref eq])), (tq, .inl (cC, 60, .inl text)), (eq, .inl (cI, 60, .inl rj))] ∧ va_S A s.heap H locs ∧ (aj ≤ 60 ∧ 4 * ej ≤ aj) ∧ (zrt text tl (16 - ej) aj ej rj = zrt text tl 16 0 0 row)) (fun n => n) ?_ (1000 - 0) (g := F0 m 18 ls []) ⟨0, 0, row, ls, rfl, rfl, lv_sub hl [0, 1] rfl, hP, hD, hS, (⟨by omega, by omega⟩), rfl⟩
  intro n0 ih_18 H locs g hp
  obtain ⟨aj, ej, rj, ls, rfl, rfl, hl, hP, hD, hS, haj, hz⟩ := hp
  refine lv_iload_n hx hb dX10_readText_18 rfl (lv_at hl 0 rfl) ?_
  refine xr_if1 (tgt := 92) hx hb (by decide) dX10_readText_19 (by decide) ?_
  refine lv_aload_n hx hb dX10_readText_22 rfl (lv_at hl 1 rfl) ?_
  refine xkV2 (xV (As := []) (rest := []) (wc := [(h0, .inr (10, [h0_z, h0_past, h0_kept, h0_spare, h0_pastMany, h0_isKept, .ref tq, .int (nI tl), h0_isUsed, h0_planBatch, h0_planUnits, h0_planCents, h0_planMany, h0_planGot, h0_planSubstitutes, .int (nI aj), .int (-5), .int (nI ej), .ref eq])), (tq, .inl (cC, 60, .inl text)), (eq, .inl (cI, 60, .inl rj))]) hx hb hml hown hts (c_X10_readEntry l dC dI cI cF cC cZ cQ cS h0 h0_z h0_past h0_kept h0_spare h0_pastMany h0_isKept tq h0_isUsed h0_planBatch h0_planUnits h0_planCents h0_planMany h0_planGot h0_planSubstitutes eq text tl aj (-5) rj ej (by omega) (by omega) rfl (by omega)) 0 gX10_readText_X10_readEntry rfl rfl rfl hdV_X10_readEntry ⟨Nat.le_of_ble_eq_true rfl, Nat.le_of_ble_eq_true rfl⟩ hN hK hP hD [0, 1, 2] rfl rfl 10 0 rfl rfl rfl hl.1 rfl (Nat.le_of_ble_eq_true rfl) dX10_readText_23 ⟨Nat.zero_le _, Nat.zero_le _⟩) hP hD hS [0, 1, 2] [0, 1, 2] rfl rfl 3 rfl (by decide +kernel) (fun H locs hP hD hS => ?_)
  have hP : va_P (dC, dI) vwCl [(h0, .inr (10, [h0_z, h0_past, h0_kept, h0_spare, h0_pastMany, h0_isKept, .ref tq, .int (nI tl), h0_isUsed, h0_planBatch, h0_planUnits, h0_planCents, h0_planMany, h0_planGot, h0_planSubstitutes, .int (nI ((zrent text tl ej aj rj).1)), .int ((zrent text tl ej aj rj).2.1), .int (nI (ej + 1)), .ref eq])), (tq, .inl (cC, 60, .inl text)), (eq, .inl (cI, 60, .inl ((zrent text tl ej aj rj).2.2)))] H := hP
  have hD : va_D A [(h0, .inr (10, [h0_z, h0_past, h0_kept, h0_spare, h0_pastMany, h0_isKept, .ref tq, .int (nI tl), h0_isUsed, h0_planBatch, h0_planUnits, h0_planCents, h0_planMany, h0_planGot, h0_planSubstitutes, .int (nI ((zrent text tl ej aj rj).1)), .int ((zrent text tl ej aj rj).2.1), .int (nI (ej + 1)), .ref eq])), (tq, .inl (cC, 60, .inl text)), (eq, .inl (cI, 60, .inl ((zrent text tl ej aj rj).2.2)))] := hD
  have hle := zrent_le (text := text) (tl := tl) (en := ej) (a := aj) (row := rj)
  refine lv_aload_n hx hb dX10_readText_26 rfl (lv_at hl 1 rfl) ?_
  refine va_get (D := (dC, dI)) (ci := 10) (v := .int ((zrent text tl ej aj rj).2.1)) (C := RX10) (T := TX10) (N := 19) hx hb hts i_X10 hown hK hP 0 rfl rfl 16 (by decide) k_166 (fun _ h9 => h9) rfl dX10_readText_27 ?_
  refine lv_bipush (v := (-5)) hx hb dX10_readText_30 (by decide) ?_
  refine lv_icmp_ne (tgt := 50) hx hb dX10_readText_32 (by decide) (fun c_1 => ?_) (fun c_1 => ?_)
  · skip
    refine lv_iconst (v := nI 0) hx hb dX10_readText_50 (by decide) ?_
    refine lv_istore_n (lv' := [(1, .int (nI 0)), (0, .ref h0)]) hx hb dX10_readText_51 rfl hl (by decide) rfl (fun ls hl => ?_)
    refine lv_iload_n hx hb dX10_readText_52 rfl (lv_at hl 0 rfl) ?_
    refine xr_if0 (tgt := 79) hx hb (by decide) dX10_readText_53 (by decide) ?_
    refine lv_aload_n hx hb dX10_readText_79 rfl (lv_at hl 1 rfl) ?_
    refine lv_dup hx hb dX10_readText_80 rfl ?_
    refine va_get (D := (dC, dI)) (ci := 10) (v := .int (nI ((zrent text tl ej aj rj).1))) (C := RX10) (T := TX10) (N := 19) hx hb hts i_X10 hown hK hP 0 rfl rfl 15 (by decide) k_160 (fun _ h9 => h9) rfl dX10_readText_81 ?_
    refine lv_iconst (v := nI 1) hx hb dX10_readText_84 (by decide) ?_
    refine xr_iadd_n hx hb dX10_readText_85 ?_
    refine va_put (D := (dC, dI)) (ci := 10) (v := .int (nI (((zrent text tl ej aj rj).1) + 1))) (ty := .int) (C := RX10) (T := TX10) (N := 19) hx hb hts i_X10 tyX10 tyX10_ok nmX10 hown hK hP hD hS 0 rfl rfl 15 (by decide) k_160 (fun _ h9 => h9) rfl (by decide +kernel) rfl rfl (Nat.le_of_ble_eq_true rfl) dX10_readText_86 (fun H locs hP hD hS => ?_)
    have hP : va_P (dC, dI) vwCl [(h0, .inr (10, [h0_z, h0_past, h0_kept, h0_spare, h0_pastMany, h0_isKept, .ref tq, .int (nI tl), h0_isUsed, h0_planBatch, h0_planUnits, h0_planCents, h0_planMany, h0_planGot, h0_planSubstitutes, .int (nI (((zrent text tl ej aj rj).1) + 1)), .int ((zrent text tl ej aj rj).2.1), .int (nI (ej + 1)), .ref eq])), (tq, .inl (cC, 60, .inl text)), (eq, .inl (cI, 60, .inl ((zrent text tl ej aj rj).2.2)))] H := hP
    have hD : va_D A [(h0, .inr (10, [h0_z, h0_past, h0_kept, h0_spare, h0_pastMany, h0_isKept, .ref tq, .int (nI tl), h0_isUsed, h0_planBatch, h0_planUnits, h0_planCents, h0_planMany, h0_planGot, h0_planSubstitutes, .int (nI (((zrent text tl ej aj rj).1) + 1)), .int ((zrent text tl ej aj rj).2.1), .int (nI (ej + 1)), .ref eq])), (tq, .inl (cC, 60, .inl text)), (eq, .inl (cI, 60, .inl ((zrent text tl ej aj rj).2.2)))] := hD
    refine lv_goto (tgt := 18) hx hb dX10_readText_89 (by decide) ?_
    refine lv_iload_n hx hb dX10_readText_18 rfl (lv_at hl 0 rfl) ?_
    refine xr_if0 (tgt := 92) hx hb (by decide) dX10_readText_19 (by decide) ?_
    have hE := zrt_1 hz (by omega) (fun q => c_1 q.1)
    have hP9 : va_P (dC, dI) vwCl [(h0, .inr (10, [h0_z, h0_past, h0_kept, h0_spare, h0_pastMany, h0_isKept, .ref tq, .int (nI tl), h0_isUsed, h0_planBatch, h0_planUnits, h0_planCents, h0_planMany, h0_planGot, h0_planSubstitutes, .int (nI ((zrt text tl 16 0 0 row).1)), .int ((zrt text tl 16 0 0 row).2.1), .int (nI ((zrt text tl 16 0 0 row).2.2.1)), .ref eq])), (tq, .inl (cC, 60, .inl text)), (eq, .inl (cI, 60, .inl ((zrt text tl 16 0 0 row).2.2.2)))] H := by rw [← hE]; exact hP
    have hS9 : va_S (va_B [(h0, .inr (10, [h0_z, h0_past, h0_kept, h0_spare, h0_pastMany, h0_isKept, .ref tq, .int (nI tl), h0_isUsed, h0_planBatch, h0_planUnits, h0_planCents, h0_planMany, h0_planGot, h0_planSubstitutes, .int (nI a0), .int f0, .int (nI en), .ref eq])), (tq, .inl (cC, 60, .inl text)), (eq, .inl (cI, 60, .inl row))]) s.heap H locs := by rw [← hA]; exact hS
    exact W.vret hx hb hr (fun t ht hW => ⟨⟨_, rfl, rfl, by rw [ht]; exact hP9⟩, hS9.X ht⟩) hS9.2.2 dX10_readText_92
  refine lv_aload_n hx hb dX10_readText_35 rfl (lv_at hl 1 rfl) ?_
  refine va_get (D := (dC, dI)) (ci := 10) (v := .int (nI ((zrent text tl ej aj rj).1))) (C := RX10) (T := TX10) (N := 19) hx hb hts i_X10 hown hK hP 0 rfl rfl 15 (by decide) k_160 (fun _ h9 => h9) rfl dX10_readText_36 ?_
  refine lv_aload_n hx hb dX10_readText_39 rfl (lv_at hl 1 rfl) ?_
  refine va_get (D := (dC, dI)) (ci := 10) (v := .int (nI tl)) (C := RX10) (T := TX10) (N := 19) hx hb hts i_X10 hown hK hP 0 rfl rfl 7 (by decide) k_154 (fun _ h9 => h9) rfl dX10_readText_40 ?_
  refine xr_ge_n (tgt := 50) hx hb (by omega) (by omega) dX10_readText_43 (by decide) (fun c_2 => ?_) (fun c_2 => ?_)
  · skip
    refine lv_iconst (v := nI 0) hx hb dX10_readText_50 (by decide) ?_
    refine lv_istore_n (lv' := [(1, .int (nI 0)), (0, .ref h0)]) hx hb dX10_readText_51 rfl hl (by decide) rfl (fun ls hl => ?_)
    refine lv_iload_n hx hb dX10_readText_52 rfl (lv_at hl 0 rfl) ?_
    refine xr_if0 (tgt := 79) hx hb (by decide) dX10_readText_53 (by decide) ?_
    refine lv_aload_n hx hb dX10_readText_79 rfl (lv_at hl 1 rfl) ?_
    refine lv_dup hx hb dX10_readText_80 rfl ?_
    refine va_get (D := (dC, dI)) (ci := 10) (v := .int (nI ((zrent text tl ej aj rj).1))) (C := RX10) (T := TX10) (N := 19) hx hb hts i_X10 hown hK hP 0 rfl rfl 15 (by decide) k_160 (fun _ h9 => h9) rfl dX10_readText_81 ?_
    refine lv_iconst (v := nI 1) hx hb dX10_readText_84 (by decide) ?_
    refine xr_iadd_n hx hb dX10_readText_85 ?_
    refine va_put (D := (dC, dI)) (ci := 10) (v := .int (nI (((zrent text tl ej aj rj).1) + 1))) (ty := .int) (C := RX10) (T := TX10) (N := 19) hx hb hts i_X10 tyX10 tyX10_ok nmX10 hown hK hP hD hS 0 rfl rfl 15 (by decide) k_160 (fun _ h9 => h9) rfl (by decide +kernel) rfl rfl (Nat.le_of_ble_eq_true rfl) dX10_readText_86 (fun H locs hP hD hS => ?_)
    have hP : va_P (dC, dI) vwCl [(h0, .inr (10, [h0_z, h0_past, h0_kept, h0_spare, h0_pastMany, h0_isKept, .ref tq, .int (nI tl), h0_isUsed, h0_planBatch, h0_planUnits, h0_planCents, h0_planMany, h0_planGot, h0_planSubstitutes, .int (nI (((zrent text tl ej aj rj).1) + 1)), .int ((zrent text tl ej aj rj).2.1), .int (nI (ej + 1)), .ref eq])), (tq, .inl (cC, 60, .inl text)), (eq, .inl (cI, 60, .inl ((zrent text tl ej aj rj).2.2)))] H := hP
    have hD : va_D A [(h0, .inr (10, [h0_z, h0_past, h0_kept, h0_spare, h0_pastMany, h0_isKept, .ref tq, .int (nI tl), h0_isUsed, h0_planBatch, h0_planUnits, h0_planCents, h0_planMany, h0_planGot, h0_planSubstitutes, .int (nI (((zrent text tl ej aj rj).1) + 1)), .int ((zrent text tl ej aj rj).2.1), .int (nI (ej + 1)), .ref eq])), (tq, .inl (cC, 60, .inl text)), (eq, .inl (cI, 60, .inl ((zrent text tl ej aj rj).2.2)))] := hD
    refine lv_goto (tgt := 18) hx hb dX10_readText_89 (by decide) ?_
    refine lv_iload_n hx hb dX10_readText_18 rfl (lv_at hl 0 rfl) ?_
    refine xr_if0 (tgt := 92) hx hb (by decide) dX10_readText_19 (by decide) ?_
    have hE := zrt_1 hz (by omega) (fun q => absurd q.2 (Nat.not_lt.mpr c_2))
    have hP9 : va_P (dC, dI) vwCl [(h0, .inr (10, [h0_z, h0_past, h0_kept, h0_spare, h0_pastMany, h0_isKept, .ref tq, .int (nI tl), h0_isUsed, h0_planBatch, h0_planUnits, h0_planCents, h0_planMany, h0_planGot, h0_planSubstitutes, .int (nI ((zrt text tl 16 0 0 row).1)), .int ((zrt text tl 16 0 0 row).2.1), .int (nI ((zrt text tl 16 0 0 row).2.2.1)), .ref eq])), (tq, .inl (cC, 60, .inl text)), (eq, .inl (cI, 60, .inl ((zrt text tl 16 0 0 row).2.2.2)))] H := by rw [← hE]; exact hP
    have hS9 : va_S (va_B [(h0, .inr (10, [h0_z, h0_past, h0_kept, h0_spare, h0_pastMany, h0_isKept, .ref tq, .int (nI tl), h0_isUsed, h0_planBatch, h0_planUnits, h0_planCents, h0_planMany, h0_planGot, h0_planSubstitutes, .int (nI a0), .int f0, .int (nI en), .ref eq])), (tq, .inl (cC, 60, .inl text)), (eq, .inl (cI, 60, .inl row))]) s.heap H locs := by rw [← hA]; exact hS
    exact W.vret hx hb hr (fun t ht hW => ⟨⟨_, rfl, rfl, by rw [ht]; exact hP9⟩, hS9.X ht⟩) hS9.2.2 dX10_readText_92
  refine lv_iconst (v := nI 1) hx hb dX10_readText_46 (by decide) ?_
  refine lv_goto (tgt := 51) hx hb dX10_readText_47 (by decide) ?_
  refine lv_istore_n (lv' := [(1, .int (nI 1)), (0, .ref h0)]) hx hb dX10_readText_51 rfl hl (by decide) rfl (fun ls hl => ?_)
  refine lv_iload_n hx hb dX10_readText_52 rfl (lv_at hl 0 rfl) ?_
  refine xr_if1 (tgt := 79) hx hb (by decide) dX10_readText_53 (by decide) ?_
  refine lv_aload_n hx hb dX10_readText_56 rfl (lv_at hl 1 rfl) ?_
  refine lv_aload_n hx hb dX10_readText_57 rfl (lv_at hl 1 rfl) ?_
  refine va_get (D := (dC, dI)) (ci := 10) (v := .int (nI ((zrent text tl ej aj rj).1))) (C := RX10) (T := TX10) (N := 19) hx hb hts i_X10 hown hK hP 0 rfl rfl 15 (by decide) k_160 (fun _ h9 => h9) rfl dX10_readText_58 ?_
  refine xkRi (xV (As := [.int (nI ((zrent text tl ej aj rj).1))]) (rest := []) (wc := [(h0, .inr (10, [h0_z, h0_past, h0_kept, h0_spare, h0_pastMany, h0_isKept, .ref tq, .int (nI tl), h0_isUsed, h0_planBatch, h0_planUnits, h0_planCents, h0_planMany, h0_planGot, h0_planSubstitutes, .int (nI ((zrent text tl ej aj rj).1)), .int ((zrent text tl ej aj rj).2.1), .int (nI (ej + 1)), .ref eq])), (tq, .inl (cC, 60, .inl text))]) hx hb hml hown hts (c_X10_letter l dC dI cI cF cC cZ cQ cS h0 h0_z h0_past h0_kept h0_spare h0_pastMany h0_isKept tq h0_isUsed h0_planBatch h0_planUnits h0_planCents h0_planMany h0_planGot h0_planSubstitutes (.int (nI ((zrent text tl ej aj rj).1))) (.int ((zrent text tl ej aj rj).2.1)) (.int (nI (ej + 1))) (.ref eq) text tl ((zrent text tl ej aj rj).1) (by omega) (by omega)) 1 gX10_readText_X10_letter rfl rfl rfl hdV_X10_letter ⟨Nat.le_of_ble_eq_true rfl, Nat.le_of_ble_eq_true rfl⟩ hN hK hP hD [0, 1] rfl rfl 10 0 rfl rfl rfl hl.1 rfl (Nat.le_of_ble_eq_true rfl) dX10_readText_61 ⟨Nat.zero_le _, Nat.zero_le _⟩) (fun r_3 hr_3 => ?_)
  obtain rfl : r_3 = xlet text tl ((zrent text tl ej aj rj).1) := hr_3
  refine lv_bipush (v := nI 44) hx hb dX10_readText_64 (by decide) ?_
  refine lv_icmp_eq (tgt := 79) hx hb dX10_readText_66 (by decide) (fun c_4 => ?_) (fun c_4 => ?_)
  · skip
    refine lv_aload_n hx hb dX10_readText_79 rfl (lv_at hl 1 rfl) ?_
    refine lv_dup hx hb dX10_readText_80 rfl ?_
    refine va_get (D := (dC, dI)) (ci := 10) (v := .int (nI ((zrent text tl ej aj rj).1))) (C := RX10) (T := TX10) (N := 19) hx hb hts i_X10 hown hK hP 0 rfl rfl 15 (by decide) k_160 (fun _ h9 => h9) rfl dX10_readText_81 ?_
    refine lv_iconst (v := nI 1) hx hb dX10_readText_84 (by decide) ?_
    refine xr_iadd_n hx hb dX10_readText_85 ?_
    refine va_put (D := (dC, dI)) (ci := 10) (v := .int (nI (((zrent text tl ej aj rj).1) + 1))) (ty := .int) (C := RX10) (T := TX10) (N := 19) hx hb hts i_X10 tyX10 tyX10_ok nmX10 hown hK hP hD hS 0 rfl rfl 15 (by decide) k_160 (fun _ h9 => h9) rfl (by decide +kernel) rfl rfl (Nat.le_of_ble_eq_true rfl) dX10_readText_86 (fun H locs hP hD hS => ?_)
    have hP : va_P (dC, dI) vwCl [(h0, .inr (10, [h0_z, h0_past, h0_kept, h0_spare, h0_pastMany, h0_isKept, .ref tq, .int (nI tl), h0_isUsed, h0_planBatch, h0_planUnits, h0_planCents, h0_planMany, h0_planGot, h0_planSubstitutes, .int (nI (((zrent text tl ej aj rj).1) + 1)), .int ((zrent text tl ej aj rj).2.1), .int (nI (ej + 1)), .ref eq])), (tq, .inl (cC, 60, .inl text)), (eq, .inl (cI, 60, .inl ((zrent text tl ej aj rj).2.2)))] H := hP
    have hD : va_D A [(h0, .inr (10, [h0_z, h0_past, h0_kept, h0_spare, h0_pastMany, h0_isKept, .ref tq, .int (nI tl), h0_isUsed, h0_planBatch, h0_planUnits, h0_planCents, h0_planMany, h0_planGot, h0_planSubstitutes, .int (nI (((zrent text tl ej aj rj).1) + 1)), .int ((zrent text tl ej aj rj).2.1), .int (nI (ej + 1)), .ref eq])), (tq, .inl (cC, 60, .inl text)), (eq, .inl (cI, 60, .inl ((zrent text tl ej aj rj).2.2)))] := hD
    refine lv_goto (tgt := 18) hx hb dX10_readText_89 (by decide) ?_
    have hf5 : (zrent text tl ej aj rj).2.1 = -5 := c_1
    have hlt : (zrent text tl ej aj rj).1 < tl := c_2
    have hge := zrent_ge (by omega) hf5
    rw [hf5] at hP hD
    exact ih_18 (1000 - (((zrent text tl ej aj rj).1) + 1)) _ _ _ (show 1000 - (((zrent text tl ej aj rj).1) + 1) < 1000 - aj from by omega) ⟨(((zrent text tl ej aj rj).1) + 1), (ej + 1), ((zrent text tl ej aj rj).2.2), ls, rfl, rfl, lv_sub hl [0, 1] rfl, hP, hD, hS, (⟨by omega, by omega⟩), (by rw [show 16 - (ej + 1) = (16 - ej) - 1 from by omega]; exact zrt_3 hz (by omega) ⟨hf5, hlt⟩ c_4)⟩
  refine lv_aload_n hx hb dX10_readText_69 rfl (lv_at hl 1 rfl) ?_
  refine lv_aload_n hx hb dX10_readText_70 rfl (lv_at hl 1 rfl) ?_
  refine va_get (D := (dC, dI)) (ci := 10) (v := .int (nI ((zrent text tl ej aj rj).1))) (C := RX10) (T := TX10) (N := 19) hx hb hts i_X10 hown hK hP 0 rfl rfl 15 (by decide) k_160 (fun _ h9 => h9) rfl dX10_readText_71 ?_
  refine va_put (D := (dC, dI)) (ci := 10) (v := .int (nI ((zrent text tl ej aj rj).1))) (ty := .int) (C := RX10) (T := TX10) (N := 19) hx hb hts i_X10 tyX10 tyX10_ok nmX10 hown hK hP hD hS 0 rfl rfl 16 (by decide) k_166 (fun _ h9 => h9) rfl (by decide +kernel) rfl rfl (Nat.le_of_ble_eq_true rfl) dX10_readText_74 (fun H locs hP hD hS => ?_)
  have hP : va_P (dC, dI) vwCl [(h0, .inr (10, [h0_z, h0_past, h0_kept, h0_spare, h0_pastMany, h0_isKept, .ref tq, .int (nI tl), h0_isUsed, h0_planBatch, h0_planUnits, h0_planCents, h0_planMany, h0_planGot, h0_planSubstitutes, .int (nI ((zrent text tl ej aj rj).1)), .int (nI ((zrent text tl ej aj rj).1)), .int (nI (ej + 1)), .ref eq])), (tq, .inl (cC, 60, .inl text)), (eq, .inl (cI, 60, .inl ((zrent text tl ej aj rj).2.2)))] H := hP
  have hD : va_D A [(h0, .inr (10, [h0_z, h0_past, h0_kept, h0_spare, h0_pastMany, h0_isKept, .ref tq, .int (nI tl), h0_isUsed, h0_planBatch, h0_planUnits, h0_planCents, h0_planMany, h0_planGot, h0_planSubstitutes, .int (nI ((zrent text tl ej aj rj).1)), .int (nI ((zrent text tl ej aj rj).1)), .int (nI (ej + 1)), .ref eq])), (tq, .inl (cC, 60, .inl text)), (eq, .inl (cI, 60, .inl ((zrent text tl ej aj rj).2.2)))] := hD
  refine lv_iconst (v := nI 0) hx hb dX10_readText_77 (by decide) ?_
  refine lv_istore_n (lv' := [(1, .int (nI 0)), (0, .ref h0)]) hx hb dX10_readText_78 rfl hl (by decide) rfl (fun ls hl => ?_)
  refine lv_aload_n hx hb dX10_readText_79 rfl (lv_at hl 1 rfl) ?_
  refine lv_dup hx hb dX10_readText_80 rfl ?_
  refine va_get (D := (dC, dI)) (ci := 10) (v := .int (nI ((zrent text tl ej aj rj).1))) (C := RX10) (T := TX10) (N := 19) hx hb hts i_X10 hown hK hP 0 rfl rfl 15 (by decide) k_160 (fun _ h9 => h9) rfl dX10_readText_81 ?_
  refine lv_iconst (v := nI 1) hx hb dX10_readText_84 (by decide) ?_
  refine xr_iadd_n hx hb dX10_readText_85 ?_
  refine va_put (D := (dC, dI)) (ci := 10) (v := .int (nI (((zrent text tl ej aj rj).1) + 1))) (ty := .int) (C := RX10) (T := TX10) (N := 19) hx hb hts i_X10 tyX10 tyX10_ok nmX10 hown hK hP hD hS 0 rfl rfl 15 (by decide) k_160 (fun _ h9 => h9) rfl (by decide +kernel) rfl rfl (Nat.le_of_ble_eq_true rfl) dX10_readText_86 (fun H locs hP hD hS => ?_)
  have hP : va_P (dC, dI) vwCl [(h0, .inr (10, [h0_z, h0_past, h0_kept, h0_spare, h0_pastMany, h0_isKept, .ref tq, .int (nI tl), h0_isUsed, h0_planBatch, h0_planUnits, h0_planCents, h0_planMany, h0_planGot, h0_planSubstitutes, .int (nI (((zrent text tl ej aj rj).1) + 1)), .int (nI ((zrent text tl ej aj rj).1)), .int (nI (ej + 1)), .ref eq])), (tq, .inl (cC, 60, .inl text)), (eq, .inl (cI, 60, .inl ((zrent text tl ej aj rj).2.2)))] H := hP
  have hD : va_D A [(h0, .inr (10, [h0_z, h0_past, h0_kept, h0_spare, h0_pastMany, h0_isKept, .ref tq, .int (nI tl), h0_isUsed, h0_planBatch, h0_planUnits, h0_planCents, h0_planMany, h0_planGot, h0_planSubstitutes, .int (nI (((zrent text tl ej aj rj).1) + 1)), .int (nI ((zrent text tl ej aj rj).1)), .int (nI (ej + 1)), .ref eq])), (tq, .inl (cC, 60, .inl text)), (eq, .inl (cI, 60, .inl ((zrent text tl ej aj rj).2.2)))] := hD
  refine lv_goto (tgt := 18) hx hb dX10_readText_89 (by decide) ?_
  refine lv_iload_n hx hb dX10_readText_18 rfl (lv_at hl 0 rfl) ?_
  refine xr_if0 (tgt := 92) hx hb (by decide) dX10_readText_19 (by decide) ?_
  have hE := zrt_2 hz (by omega) ⟨c_1, c_2⟩ c_4
  have hP9 : va_P (dC, dI) vwCl [(h0, .inr (10, [h0_z, h0_past, h0_kept, h0_spare, h0_pastMany, h0_isKept, .ref tq, .int (nI tl), h0_isUsed, h0_planBatch, h0_planUnits, h0_planCents, h0_planMany, h0_planGot, h0_planSubstitutes, .int (nI ((zrt text tl 16 0 0 row).1)), .int ((zrt text tl 16 0 0 row).2.1), .int (nI ((zrt text tl 16 0 0 row).2.2.1)), .ref eq])), (tq, .inl (cC, 60, .inl text)), (eq, .inl (cI, 60, .inl ((zrt text tl 16 0 0 row).2.2.2)))] H := by rw [← hE]; exact hP
  have hS9 : va_S (va_B [(h0, .inr (10, [h0_z, h0_past, h0_kept, h0_spare, h0_pastMany, h0_isKept, .ref tq, .int (nI tl), h0_isUsed, h0_planBatch, h0_planUnits, h0_planCents, h0_planMany, h0_planGot, h0_planSubstitutes, .int (nI a0), .int f0, .int (nI en), .ref eq])), (tq, .inl (cC, 60, .inl text)), (eq, .inl (cI, 60, .inl row))]) s.heap H locs := by rw [← hA]; exact hS
  exact W.vret hx hb hr (fun t ht hW => ⟨⟨_, rfl, rfl, by rw [ht]; exact hP9⟩, hS9.X ht⟩) hS9.2.2 dX10_readText_92
