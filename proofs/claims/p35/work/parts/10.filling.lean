theorem hdV_X2_isOpen : yX2_isOpen.cls = RX2 ∧ yX2_isOpen.cls ≠ "java/lang/invoke/MethodHandle" ∧ yX2_isOpen.cls ≠ "java/lang/invoke/VarHandle" ∧ (parseMethodDescriptor yX2_isOpen.desc).map (fun d => d.parameters.length) = some 3 := by decide +kernel
set_option maxHeartbeats 4000000 in
set_option maxRecDepth 100000 in
theorem c_X2_isOpen (l : Launch) (dC : Nat → ClassId) (dI : Nat → Nat → Nat) (cI cF cC cZ cQ cS : ClassId) (h0 : Nat) (h0_size : Value) (h0_got : Value) (h0_replaced : Value) (h0_batch : Value) (h0_units : Value) (h0_cents : Value) (rq : Nat) (h0_price : Value) (h0_orderedGood : Value) (h0_wanted : Value) (rest : Nat → Int32) (o0 : Nat) (o0_goods : Value) (ba : Nat) (o0_orders : Value) (o0_stages : Value) (o0_log : Value) (o0_settings : Value) (o0_rebate : Value) (o0_day : Value) (ba_size : Value) (gq : Nat) (ba_came : Value) (lq : Nat) (ba_shelf : Value) (ba_sold : Value) (ba_given : Value) (ba_cents : Value) (ba_wasted : Value) (good : Nat → Int32) (left : Nat → Int32) (le : Int32) (ot : Nat) (w : Int32) (hot : ot < 40) : Met l yX2_isOpen wsX2_isOpen ({ frames := 0, cells := 0, slots := 0, locals := 0 }) (xPre (dC, dI) vwCl [.ref h0, .ref o0, .int (nI ot), .int w] (xtys cI cF cC cZ cQ cS) [(h0, .inr (2, [h0_size, h0_got, h0_replaced, h0_batch, h0_units, h0_cents, .ref rq, h0_price, h0_orderedGood, h0_wanted, .int le])), (rq, .inl (cI, 40, .inl rest)), (o0, .inr (8, [o0_goods, .ref ba, o0_orders, o0_stages, o0_log, o0_settings, o0_rebate, o0_day])), (ba, .inr (0, [ba_size, .ref gq, ba_came, .ref lq, ba_shelf, ba_sold, ba_given, ba_cents, ba_wasted])), (gq, .inl (cI, 40, .inl good)), (lq, .inl (cI, 40, .inl left))]) (vp_Si (fun r0 => r0 = (if xopen good left rest le w ot then nI 1 else nI 0))) 0 0 (fun _ => False) := by
  refine Met.ofW (cc := cX2_isOpen) (maxL := 5) (ret := (some .boolean)) (by decide) rfl ?_
  intro p e s m args below meth c s₁ B hml hv
  obtain ⟨rfl, hP, hK, hD0, hN⟩ := hv
  have hx := B.exec
  have hb := B.bytes
  have hr := B.returns
  have hts := atoms_spec (ws := wsX2_isOpen) B.pre
  have hown : s.vm.findClass RX2 = some m.cls := findClass_of_methodNamed B.named
  have hlocks := B.notSynchronized
  have k_104 := hts (Cond.fieldLink RX2 104 "ShelfStages$Batches" "good" "[I") (by decide +kernel)
  have k_114 := hts (Cond.fieldLink RX2 114 "ShelfStages$Batches" "left" "[I") (by decide +kernel)
  have k_21 := hts (Cond.fieldLink RX2 21 "ShelfStages$Filling" "rest" "[I") (by decide +kernel)
  have k_41 := hts (Cond.fieldLink RX2 41 "ShelfStages$Filling" "least" "I") (by decide +kernel)
  have k_44 := hts (Cond.fieldLink RX2 44 "ShelfStages$State" "batches" "LShelfStages$Batches;") (by decide +kernel)
  have i_X0 : ∀ w ∈ wsX00, w ∈ wsX2_isOpen := by decide +kernel
  have i_X2 : ∀ w ∈ wsX20, w ∈ wsX2_isOpen := by decide +kernel
  have i_X8 : ∀ w ∈ wsX80, w ∈ wsX2_isOpen := by decide +kernel
  have hD := hD0
  have hl := lv_entry ([.ref h0, .ref o0, .int (nI ot), .int w]) (n := 5) (Nat.le_of_ble_eq_true rfl)
  rw [lg_entry_eq]
  generalize (lg_sl ([.ref h0, .ref o0, .int (nI ot), .int w]) ++ List.replicate (5 - (lg_sl ([.ref h0, .ref o0, .int (nI ot), .int w])).length) Slot.unset).toArray = ls at hl ⊢
  have hl : lv_has ls 5 [(0, .ref h0), (1, .ref o0), (2, .int (nI ot)), (3, .int w)] := hl
  refine lv_aload_n hx hb dX2_isOpen_0 rfl (lv_at hl 1 rfl) ?_
  refine va_get (D := (dC, dI)) (ci := 8) (v := .ref ba) (C := RX8) (T := TX8) (N := 8) hx hb hts i_X8 hown hK hP 2 rfl rfl 1 (by decide) k_44 (fun _ h9 => h9) rfl dX2_isOpen_1 ?_
  refine lv_astore (lv' := [(4, .ref ba), (0, .ref h0), (1, .ref o0), (2, .int (nI ot)), (3, .int w)]) hx hb dX2_isOpen_4 hl (by decide) rfl (fun ls hl => ?_)
  refine lv_aload hx hb dX2_isOpen_6 (lv_at hl 0 rfl) ?_
  refine va_get (D := (dC, dI)) (ci := 0) (v := .ref gq) (C := RX0) (T := TX0) (N := 9) hx hb hts i_X0 hown hK hP 3 rfl rfl 1 (by decide) k_104 (fun _ h9 => h9) rfl dX2_isOpen_8 ?_
  refine lv_iload_n hx hb dX2_isOpen_11 rfl (lv_at hl 3 rfl) ?_
  refine xr_iald hx hb hK hP 4 0 rfl rfl (i := ot) (by omega) (by decide) dX2_isOpen_12 ?_
  refine lv_iload_n hx hb dX2_isOpen_13 rfl (lv_at hl 4 rfl) ?_
  refine lv_icmp_ne (tgt := 44) hx hb dX2_isOpen_14 (by decide) (fun c_1 => ?_) (fun c_1 => ?_)
  · skip
    refine lv_iconst (v := nI 0) hx hb dX2_isOpen_44 (by decide) ?_
    exact W.zret (v := nI 0) hx hb hr rfl (fun t ht hW => ⟨_, rfl, (show nI 0 = (if xopen good left rest le w ot then nI 1 else nI 0) from (if_neg (show ¬ xopen good left rest le w ot from fun q => absurd q.1 c_1)).symm), ht⟩) (fun q h => by cases h) dX2_isOpen_45
  refine lv_aload_n hx hb dX2_isOpen_17 rfl (lv_at hl 1 rfl) ?_
  refine va_get (D := (dC, dI)) (ci := 2) (v := .ref rq) (C := RX2) (T := TX2) (N := 11) hx hb hts i_X2 hown hK hP 0 rfl rfl 6 (by decide) k_21 (fun _ h9 => h9) rfl dX2_isOpen_18 ?_
  refine lv_iload_n hx hb dX2_isOpen_21 rfl (lv_at hl 3 rfl) ?_
  refine xr_iald hx hb hK hP 1 0 rfl rfl (i := ot) (by omega) (by decide) dX2_isOpen_22 ?_
  refine lv_if_le (tgt := 44) hx hb dX2_isOpen_23 (by decide) (fun c_2 => ?_) (fun c_2 => ?_)
  · skip
    refine lv_iconst (v := nI 0) hx hb dX2_isOpen_44 (by decide) ?_
    exact W.zret (v := nI 0) hx hb hr rfl (fun t ht hW => ⟨_, rfl, (show nI 0 = (if xopen good left rest le w ot then nI 1 else nI 0) from (if_neg (show ¬ xopen good left rest le w ot from fun q => absurd c_2 q.2.1)).symm), ht⟩) (fun q h => by cases h) dX2_isOpen_45
  refine lv_aload hx hb dX2_isOpen_26 (lv_at hl 0 rfl) ?_
  refine va_get (D := (dC, dI)) (ci := 0) (v := .ref lq) (C := RX0) (T := TX0) (N := 9) hx hb hts i_X0 hown hK hP 3 rfl rfl 3 (by decide) k_114 (fun _ h9 => h9) rfl dX2_isOpen_28 ?_
  refine lv_iload_n hx hb dX2_isOpen_31 rfl (lv_at hl 3 rfl) ?_
  refine xr_iald hx hb hK hP 5 0 rfl rfl (i := ot) (by omega) (by decide) dX2_isOpen_32 ?_
  refine lv_aload_n hx hb dX2_isOpen_33 rfl (lv_at hl 1 rfl) ?_
  refine va_get (D := (dC, dI)) (ci := 2) (v := .int le) (C := RX2) (T := TX2) (N := 11) hx hb hts i_X2 hown hK hP 0 rfl rfl 10 (by decide) k_41 (fun _ h9 => h9) rfl dX2_isOpen_34 ?_
  refine lv_icmp_lt (tgt := 44) hx hb dX2_isOpen_37 (by decide) (fun c_3 => ?_) (fun c_3 => ?_)
  · skip
    refine lv_iconst (v := nI 0) hx hb dX2_isOpen_44 (by decide) ?_
    exact W.zret (v := nI 0) hx hb hr rfl (fun t ht hW => ⟨_, rfl, (show nI 0 = (if xopen good left rest le w ot then nI 1 else nI 0) from (if_neg (show ¬ xopen good left rest le w ot from fun q => absurd c_3 q.2.2)).symm), ht⟩) (fun q h => by cases h) dX2_isOpen_45
  refine lv_iconst (v := nI 1) hx hb dX2_isOpen_40 (by decide) ?_
  refine lv_goto (tgt := 45) hx hb dX2_isOpen_41 (by decide) ?_
  exact W.zret (v := nI 1) hx hb hr rfl (fun t ht hW => ⟨_, rfl, (show nI 1 = (if xopen good left rest le w ot then nI 1 else nI 0) from (if_pos (show xopen good left rest le w ot from ⟨c_1, c_2, c_3⟩)).symm), ht⟩) (fun q h => by cases h) dX2_isOpen_45
theorem hdV_X2_isBefore : yX2_isBefore.cls = RX2 ∧ yX2_isBefore.cls ≠ "java/lang/invoke/MethodHandle" ∧ yX2_isBefore.cls ≠ "java/lang/invoke/VarHandle" ∧ (parseMethodDescriptor yX2_isBefore.desc).map (fun d => d.parameters.length) = some 3 := by decide +kernel
set_option maxHeartbeats 4000000 in
set_option maxRecDepth 100000 in
theorem c_X2_isBefore (l : Launch) (dC : Nat → ClassId) (dI : Nat → Nat → Nat) (cI cF cC cZ cQ cS : ClassId) (h0 : Nat) (h0_size : Value) (h0_got : Value) (h0_replaced : Value) (h0_batch : Value) (h0_units : Value) (h0_cents : Value) (h0_rest : Value) (pq : Nat) (h0_orderedGood : Value) (h0_wanted : Value) (h0_least : Value) (pric : Nat → UInt32) (o0 : Nat) (o0_goods : Value) (ba : Nat) (o0_orders : Value) (o0_stages : Value) (o0_log : Value) (se : Nat) (o0_rebate : Value) (o0_day : Value) (ba_size : Value) (ba_good : Value) (ba_came : Value) (lq : Nat) (ba_shelf : Value) (ba_sold : Value) (ba_given : Value) (ba_cents : Value) (ba_wasted : Value) (left : Nat → Int32) (sets : Nat → Int32) (ot : Nat) (fi : Nat) (hot : ot < 40) (hfi : fi < 40) : Met l yX2_isBefore wsX2_isBefore ({ frames := 0, cells := 0, slots := 0, locals := 0 }) (xPre (dC, dI) vwCl [.ref h0, .ref o0, .int (nI ot), .int (nI fi)] (xtys cI cF cC cZ cQ cS) [(h0, .inr (2, [h0_size, h0_got, h0_replaced, h0_batch, h0_units, h0_cents, h0_rest, .ref pq, h0_orderedGood, h0_wanted, h0_least])), (pq, .inl (cF, 40, .inr (.inr (.inl pric)))), (o0, .inr (8, [o0_goods, .ref ba, o0_orders, o0_stages, o0_log, .ref se, o0_rebate, o0_day])), (ba, .inr (0, [ba_size, ba_good, ba_came, .ref lq, ba_shelf, ba_sold, ba_given, ba_cents, ba_wasted])), (lq, .inl (cI, 40, .inl left)), (se, .inl (cI, 3, .inl sets))]) (vp_Si (fun r0 => r0 = (if xbefore (sets 0) left pric ot fi then nI 1 else nI 0))) 0 0 (fun _ => False) := by
  refine Met.ofW (cc := cX2_isBefore) (maxL := 5) (ret := (some .boolean)) (by decide) rfl ?_
  intro p e s m args below meth c s₁ B hml hv
  obtain ⟨rfl, hP, hK, hD0, hN⟩ := hv
  have hx := B.exec
  have hb := B.bytes
  have hr := B.returns
  have hts := atoms_spec (ws := wsX2_isBefore) B.pre
  have hown : s.vm.findClass RX2 = some m.cls := findClass_of_methodNamed B.named
  have hlocks := B.notSynchronized
  have k_114 := hts (Cond.fieldLink RX2 114 "ShelfStages$Batches" "left" "[I") (by decide +kernel)
  have k_117 := hts (Cond.fieldLink RX2 117 "ShelfStages$State" "settings" "[I") (by decide +kernel)
  have k_24 := hts (Cond.fieldLink RX2 24 "ShelfStages$Filling" "price" "[F") (by decide +kernel)
  have k_44 := hts (Cond.fieldLink RX2 44 "ShelfStages$State" "batches" "LShelfStages$Batches;") (by decide +kernel)
  have i_X0 : ∀ w ∈ wsX00, w ∈ wsX2_isBefore := by decide +kernel
  have i_X2 : ∀ w ∈ wsX20, w ∈ wsX2_isBefore := by decide +kernel
  have i_X8 : ∀ w ∈ wsX80, w ∈ wsX2_isBefore := by decide +kernel
  have hD := hD0
  have hl := lv_entry ([.ref h0, .ref o0, .int (nI ot), .int (nI fi)]) (n := 5) (Nat.le_of_ble_eq_true rfl)
  rw [lg_entry_eq]
  generalize (lg_sl ([.ref h0, .ref o0, .int (nI ot), .int (nI fi)]) ++ List.replicate (5 - (lg_sl ([.ref h0, .ref o0, .int (nI ot), .int (nI fi)])).length) Slot.unset).toArray = ls at hl ⊢
  have hl : lv_has ls 5 [(0, .ref h0), (1, .ref o0), (2, .int (nI ot)), (3, .int (nI fi))] := hl
  refine lv_aload_n hx hb dX2_isBefore_0 rfl (lv_at hl 1 rfl) ?_
  refine va_get (D := (dC, dI)) (ci := 8) (v := .ref ba) (C := RX8) (T := TX8) (N := 8) hx hb hts i_X8 hown hK hP 2 rfl rfl 1 (by decide) k_44 (fun _ h9 => h9) rfl dX2_isBefore_1 ?_
  refine va_get (D := (dC, dI)) (ci := 0) (v := .ref lq) (C := RX0) (T := TX0) (N := 9) hx hb hts i_X0 hown hK hP 3 rfl rfl 3 (by decide) k_114 (fun _ h9 => h9) rfl dX2_isBefore_4 ?_
  refine lv_astore (lv' := [(4, .ref lq), (0, .ref h0), (1, .ref o0), (2, .int (nI ot)), (3, .int (nI fi))]) hx hb dX2_isBefore_7 hl (by decide) rfl (fun ls hl => ?_)
  refine lv_aload_n hx hb dX2_isBefore_9 rfl (lv_at hl 2 rfl) ?_
  refine va_get (D := (dC, dI)) (ci := 8) (v := .ref se) (C := RX8) (T := TX8) (N := 8) hx hb hts i_X8 hown hK hP 2 rfl rfl 5 (by decide) k_117 (fun _ h9 => h9) rfl dX2_isBefore_10 ?_
  refine lv_iconst (v := nI 0) hx hb dX2_isBefore_13 (by decide) ?_
  refine xr_iald hx hb hK hP 5 0 rfl rfl (i := 0) (by omega) (by decide) dX2_isBefore_14 ?_
  by_cases cs_1 : sets 0 = nI 1
  · skip
    refine lv_lookup (off := 25) (tgt := 40) hx hb dX2_isBefore_15 (by decide) (by rw [cs_1]; try rfl) (by decide) ?_
    refine lv_aload hx hb dX2_isBefore_40 (lv_at hl 0 rfl) ?_
    refine lv_iload_n hx hb dX2_isBefore_42 rfl (lv_at hl 3 rfl) ?_
    refine xr_iald hx hb hK hP 4 0 rfl rfl (i := ot) (by omega) (by decide) dX2_isBefore_43 ?_
    refine lv_aload hx hb dX2_isBefore_44 (lv_at hl 0 rfl) ?_
    refine lv_iload_n hx hb dX2_isBefore_46 rfl (lv_at hl 4 rfl) ?_
    refine xr_iald hx hb hK hP 4 0 rfl rfl (i := fi) (by omega) (by decide) dX2_isBefore_47 ?_
    refine lv_icmp_le (tgt := 55) hx hb dX2_isBefore_48 (by decide) (fun c_2 => ?_) (fun c_2 => ?_)
    · skip
      refine lv_iconst (v := nI 0) hx hb dX2_isBefore_55 (by decide) ?_
      exact W.zret (v := nI 0) hx hb hr rfl (fun t ht hW => ⟨_, rfl, (show nI 0 = (if xbefore (sets 0) left pric ot fi then nI 1 else nI 0) from (by unfold xbefore; rw [if_neg]; rw [if_pos cs_1]; exact Int32.not_lt.mpr c_2)), ht⟩) (fun q h => by cases h) dX2_isBefore_56
    refine lv_iconst (v := nI 1) hx hb dX2_isBefore_51 (by decide) ?_
    refine lv_goto (tgt := 56) hx hb dX2_isBefore_52 (by decide) ?_
    exact W.zret (v := nI 1) hx hb hr rfl (fun t ht hW => ⟨_, rfl, (show nI 1 = (if xbefore (sets 0) left pric ot fi then nI 1 else nI 0) from (by unfold xbefore; rw [if_pos]; rw [if_pos cs_1]; exact Int32.not_le.mp c_2)), ht⟩) (fun q h => by cases h) dX2_isBefore_56
  by_cases cs_3 : sets 0 = nI 2
  · skip
    refine lv_lookup (off := 42) (tgt := 57) hx hb dX2_isBefore_15 (by decide) (by rw [cs_3]; try rfl) (by decide) ?_
    refine lv_aload_n hx hb dX2_isBefore_57 rfl (lv_at hl 1 rfl) ?_
    refine va_get (D := (dC, dI)) (ci := 2) (v := .ref pq) (C := RX2) (T := TX2) (N := 11) hx hb hts i_X2 hown hK hP 0 rfl rfl 7 (by decide) k_24 (fun _ h9 => h9) rfl dX2_isBefore_58 ?_
    refine lv_iload_n hx hb dX2_isBefore_61 rfl (lv_at hl 3 rfl) ?_
    refine xr_fald hx hb hK hP 1 1 rfl rfl (i := ot) (by omega) (by decide) dX2_isBefore_62 ?_
    refine lv_aload_n hx hb dX2_isBefore_63 rfl (lv_at hl 1 rfl) ?_
    refine va_get (D := (dC, dI)) (ci := 2) (v := .ref pq) (C := RX2) (T := TX2) (N := 11) hx hb hts i_X2 hown hK hP 0 rfl rfl 7 (by decide) k_24 (fun _ h9 => h9) rfl dX2_isBefore_64 ?_
    refine lv_iload_n hx hb dX2_isBefore_67 rfl (lv_at hl 4 rfl) ?_
    refine xr_fald hx hb hK hP 1 1 rfl rfl (i := fi) (by omega) (by decide) dX2_isBefore_68 ?_
    refine lv_fcmp hx hb dX2_isBefore_69 ?_
    refine lv_if_ge (tgt := 77) hx hb dX2_isBefore_70 (by decide) (fun c_4 => ?_) (fun c_4 => ?_)
    · skip
      refine lv_iconst (v := nI 0) hx hb dX2_isBefore_77 (by decide) ?_
      exact W.zret (v := nI 0) hx hb hr rfl (fun t ht hW => ⟨_, rfl, (show nI 0 = (if xbefore (sets 0) left pric ot fi then nI 1 else nI 0) from (by unfold xbefore; rw [if_neg]; rw [if_neg cs_1, if_pos cs_3]; exact Int32.not_lt.mpr c_4)), ht⟩) (fun q h => by cases h) dX2_isBefore_78
    refine lv_iconst (v := nI 1) hx hb dX2_isBefore_73 (by decide) ?_
    refine lv_goto (tgt := 78) hx hb dX2_isBefore_74 (by decide) ?_
    exact W.zret (v := nI 1) hx hb hr rfl (fun t ht hW => ⟨_, rfl, (show nI 1 = (if xbefore (sets 0) left pric ot fi then nI 1 else nI 0) from (by unfold xbefore; rw [if_pos]; rw [if_neg cs_1, if_pos cs_3]; exact Int32.not_le.mp c_4)), ht⟩) (fun q h => by cases h) dX2_isBefore_78
  refine lv_lookup (off := 64) (tgt := 79) hx hb dX2_isBefore_15 (by decide) (show Op.lookupswitch.offset [(1, 25), (2, 42)] 64 (sets 0).toInt = 64 from by rw [lv_osw (a := 1) cs_1 rfl, lv_osw (a := 2) cs_3 rfl]; rfl) (by decide) ?_
  refine lv_aload hx hb dX2_isBefore_79 (lv_at hl 0 rfl) ?_
  refine lv_iload_n hx hb dX2_isBefore_81 rfl (lv_at hl 3 rfl) ?_
  refine xr_iald hx hb hK hP 4 0 rfl rfl (i := ot) (by omega) (by decide) dX2_isBefore_82 ?_
  refine lv_aload hx hb dX2_isBefore_83 (lv_at hl 0 rfl) ?_
  refine lv_iload_n hx hb dX2_isBefore_85 rfl (lv_at hl 4 rfl) ?_
  refine xr_iald hx hb hK hP 4 0 rfl rfl (i := fi) (by omega) (by decide) dX2_isBefore_86 ?_
  refine lv_icmp_ge (tgt := 94) hx hb dX2_isBefore_87 (by decide) (fun c_5 => ?_) (fun c_5 => ?_)
  · skip
    refine lv_iconst (v := nI 0) hx hb dX2_isBefore_94 (by decide) ?_
    exact W.zret (v := nI 0) hx hb hr rfl (fun t ht hW => ⟨_, rfl, (show nI 0 = (if xbefore (sets 0) left pric ot fi then nI 1 else nI 0) from (by unfold xbefore; rw [if_neg]; rw [if_neg cs_1, if_neg cs_3]; exact Int32.not_lt.mpr c_5)), ht⟩) (fun q h => by cases h) dX2_isBefore_95
  refine lv_iconst (v := nI 1) hx hb dX2_isBefore_90 (by decide) ?_
  refine lv_goto (tgt := 95) hx hb dX2_isBefore_91 (by decide) ?_
  exact W.zret (v := nI 1) hx hb hr rfl (fun t ht hW => ⟨_, rfl, (show nI 1 = (if xbefore (sets 0) left pric ot fi then nI 1 else nI 0) from (by unfold xbefore; rw [if_pos]; rw [if_neg cs_1, if_neg cs_3]; exact Int32.not_le.mp c_5)), ht⟩) (fun q h => by cases h) dX2_isBefore_95
theorem hdV_X2_nextBatch : yX2_nextBatch.cls = RX2 ∧ yX2_nextBatch.cls ≠ "java/lang/invoke/MethodHandle" ∧ yX2_nextBatch.cls ≠ "java/lang/invoke/VarHandle" ∧ (parseMethodDescriptor yX2_nextBatch.desc).map (fun d => d.parameters.length) = some 2 := by decide +kernel
set_option maxHeartbeats 4000000 in
set_option maxRecDepth 100000 in
theorem c_X2_nextBatch (l : Launch) (dC : Nat → ClassId) (dI : Nat → Nat → Nat) (cI cF cC cZ cQ cS : ClassId) (h0 : Nat) (h0_size : Value) (h0_got : Value) (h0_replaced : Value) (h0_batch : Value) (h0_units : Value) (h0_cents : Value) (rq : Nat) (pq : Nat) (h0_orderedGood : Value) (h0_wanted : Value) (rest : Nat → Int32) (pric : Nat → UInt32) (o0 : Nat) (o0_goods : Value) (ba : Nat) (o0_orders : Value) (o0_stages : Value) (o0_log : Value) (se : Nat) (o0_rebate : Value) (o0_day : Value) (gq : Nat) (ba_came : Value) (lq : Nat) (ba_shelf : Value) (ba_sold : Value) (ba_given : Value) (ba_cents : Value) (ba_wasted : Value) (good : Nat → Int32) (left : Nat → Int32) (sets : Nat → Int32) (le : Int32) (n : Nat) (w : Int32) (hn : n ≤ 40) : Met l yX2_nextBatch wsX2_nextBatch ({ frames := 1, cells := 0, slots := 0, locals := 24 }) (xPre (dC, dI) vwCl [.ref h0, .ref o0, .int w] (xtys cI cF cC cZ cQ cS) [(h0, .inr (2, [h0_size, h0_got, h0_replaced, h0_batch, h0_units, h0_cents, .ref rq, .ref pq, h0_orderedGood, h0_wanted, .int le])), (rq, .inl (cI, 40, .inl rest)), (pq, .inl (cF, 40, .inr (.inr (.inl pric)))), (o0, .inr (8, [o0_goods, .ref ba, o0_orders, o0_stages, o0_log, .ref se, o0_rebate, o0_day])), (ba, .inr (0, [.int (nI n), .ref gq, ba_came, .ref lq, ba_shelf, ba_sold, ba_given, ba_cents, ba_wasted])), (gq, .inl (cI, 40, .inl good)), (lq, .inl (cI, 40, .inl left)), (se, .inl (cI, 3, .inl sets))]) (vp_Si (fun r0 => r0 = xon (xnb (fun b => decide (xopen good left rest le w b)) (fun b f => decide (xbefore (sets 0) left pric b f)) n))) 0 0 (fun _ => False) := by
  refine Met.ofW (cc := cX2_nextBatch) (maxL := 5) (ret := (some .int)) (by decide) rfl ?_
  intro p e s m args below meth c s₁ B hml hv
  obtain ⟨rfl, hP, hK, hD0, hN⟩ := hv
  have hx := B.exec
  have hb := B.bytes
  have hr := B.returns
  have hts := atoms_spec (ws := wsX2_nextBatch) B.pre
  have hown : s.vm.findClass RX2 = some m.cls := findClass_of_methodNamed B.named
  have hlocks := B.notSynchronized
  have k_44 := hts (Cond.fieldLink RX2 44 "ShelfStages$State" "batches" "LShelfStages$Batches;") (by decide +kernel)
  have k_59 := hts (Cond.fieldLink RX2 59 "ShelfStages$Batches" "size" "I") (by decide +kernel)
  have i_X0 : ∀ w ∈ wsX00, w ∈ wsX2_nextBatch := by decide +kernel
  have i_X8 : ∀ w ∈ wsX80, w ∈ wsX2_nextBatch := by decide +kernel
  have hD := hD0
  have hl := lv_entry ([.ref h0, .ref o0, .int w]) (n := 5) (Nat.le_of_ble_eq_true rfl)
  rw [lg_entry_eq]
  generalize (lg_sl ([.ref h0, .ref o0, .int w]) ++ List.replicate (5 - (lg_sl ([.ref h0, .ref o0, .int w])).length) Slot.unset).toArray = ls at hl ⊢
  have hl : lv_has ls 5 [(0, .ref h0), (1, .ref o0), (2, .int w)] := hl
  refine lv_iconst (v := (-1)) hx hb dX2_nextBatch_0 (by decide) ?_
  refine lv_istore_n (lv' := [(3, .int (-1)), (0, .ref h0), (1, .ref o0), (2, .int w)]) hx hb dX2_nextBatch_1 rfl hl (by decide) rfl (fun ls hl => ?_)
  refine lv_iconst (v := nI 0) hx hb dX2_nextBatch_2 (by decide) ?_
  refine lv_istore (lv' := [(4, .int (nI 0)), (3, .int (-1)), (0, .ref h0), (1, .ref o0), (2, .int w)]) hx hb dX2_nextBatch_3 hl (by decide) rfl (fun ls hl => ?_)
  refine xr_loop (J := Nat) (fun n0 H locs g => ∃ (k : Nat) (fo : Option Nat) (ls : Array Slot), H = s.heap ∧ locs = [] ∧ n0 = n - k ∧ g = F0 m 5 ls [] ∧ lv_has ls 5 [(4, .int (nI k)), (3, .int (xon fo)), (0, .ref h0), (1, .ref o0), (2, .int w)] ∧ (k ≤ n) ∧ (∀ b, fo = some b → b < k) ∧ (fo = xnb (fun b => decide (xopen good left rest le w b)) (fun b f => decide (xbefore (sets 0) left pric b f)) k)) (fun n => n) ?_ (n - 0) (g := F0 m 5 ls []) ⟨0, none, ls, rfl, rfl, rfl, rfl, lv_sub hl [0, 1, 2, 3, 4] rfl, (Nat.zero_le _), (fun b h => by cases h), rfl⟩
  intro n0 ih_5 H locs g hp
  obtain ⟨k, fo, ls, rfl, rfl, rfl, rfl, hl, hk, hf, hfo⟩ := hp
  refine lv_iload hx hb dX2_nextBatch_5 (lv_at hl 0 rfl) ?_
  refine lv_aload_n hx hb dX2_nextBatch_7 rfl (lv_at hl 3 rfl) ?_
  refine va_get (D := (dC, dI)) (ci := 8) (v := .ref ba) (C := RX8) (T := TX8) (N := 8) hx hb hts i_X8 hown hK hP 3 rfl rfl 1 (by decide) k_44 (fun _ h9 => h9) rfl dX2_nextBatch_8 ?_
  refine va_get (D := (dC, dI)) (ci := 0) (v := .int (nI n)) (C := RX0) (T := TX0) (N := 9) hx hb hts i_X0 hown hK hP 4 rfl rfl 0 (by decide) k_59 (fun _ h9 => h9) rfl dX2_nextBatch_11 ?_
  refine xr_ge_n (tgt := 52) hx hb (by omega) (by omega) dX2_nextBatch_14 (by decide) (fun c_1 => ?_) (fun c_1 => ?_)
  · skip
    refine lv_iload_n hx hb dX2_nextBatch_52 rfl (lv_at hl 1 rfl) ?_
    exact W.iret (v := xon fo) hx hb hr (fun t ht hW => ⟨_, rfl, (show xon fo = xon (xnb (fun b => decide (xopen good left rest le w b)) (fun b f => decide (xbefore (sets 0) left pric b f)) n) from (by rw [hfo, show k = n from by omega])), ht⟩) (fun q h => by cases h) dX2_nextBatch_53
  refine lv_aload_n hx hb dX2_nextBatch_17 rfl (lv_at hl 2 rfl) ?_
  refine lv_aload_n hx hb dX2_nextBatch_18 rfl (lv_at hl 3 rfl) ?_
  refine lv_iload hx hb dX2_nextBatch_19 (lv_at hl 0 rfl) ?_
  refine lv_iload_n hx hb dX2_nextBatch_21 rfl (lv_at hl 4 rfl) ?_
  refine xkRi (xV (As := [.ref o0, .int (nI k), .int w]) (rest := []) (wc := [(h0, .inr (2, [h0_size, h0_got, h0_replaced, h0_batch, h0_units, h0_cents, .ref rq, .ref pq, h0_orderedGood, h0_wanted, .int le])), (rq, .inl (cI, 40, .inl rest)), (o0, .inr (8, [o0_goods, .ref ba, o0_orders, o0_stages, o0_log, .ref se, o0_rebate, o0_day])), (ba, .inr (0, [.int (nI n), .ref gq, ba_came, .ref lq, ba_shelf, ba_sold, ba_given, ba_cents, ba_wasted])), (gq, .inl (cI, 40, .inl good)), (lq, .inl (cI, 40, .inl left))]) hx hb hml hown hts (c_X2_isOpen l dC dI cI cF cC cZ cQ cS h0 h0_size h0_got h0_replaced h0_batch h0_units h0_cents rq (.ref pq) h0_orderedGood h0_wanted rest o0 o0_goods ba o0_orders o0_stages o0_log (.ref se) o0_rebate o0_day (.int (nI n)) gq ba_came lq ba_shelf ba_sold ba_given ba_cents ba_wasted good left le k w (by omega)) 3 gX2_nextBatch_X2_isOpen rfl rfl rfl hdV_X2_isOpen ⟨Nat.le_of_ble_eq_true rfl, Nat.le_of_ble_eq_true rfl⟩ hN hK hP hD [0, 1, 3, 4, 5, 6] rfl rfl 2 0 rfl rfl rfl hl.1 rfl (Nat.le_of_ble_eq_true rfl) dX2_nextBatch_22 ⟨Nat.zero_le _, Nat.zero_le _⟩) (fun r_2 hr_2 => ?_)
  have hr_2 : r_2 = (if xopen good left rest le w k then nI 1 else nI 0) := hr_2
  rcases xi_ite inferInstance hr_2 with ⟨c_3, hr_2⟩ | ⟨c_3, hr_2⟩
  · subst hr_2
    refine xr_if1 (tgt := 46) hx hb (by decide) dX2_nextBatch_25 (by decide) ?_
    rcases fo with _ | fb
    · skip
      have hl : lv_has ls 5 [(4, .int (nI k)), (3, .int (-1)), (0, .ref h0), (1, .ref o0), (2, .int w)] := hl
      refine lv_iload_n hx hb dX2_nextBatch_28 rfl (lv_at hl 1 rfl) ?_
      refine lv_if_lt (tgt := 43) hx hb dX2_nextBatch_29 (by decide) (fun c_4 => ?_) (fun c_4 => False.elim (by exact absurd (show (-1 : Int32) < 0 by decide) c_4))
      refine lv_iload hx hb dX2_nextBatch_43 (lv_at hl 0 rfl) ?_
      refine lv_istore_n (lv' := [(3, .int (nI k)), (4, .int (nI k)), (0, .ref h0), (1, .ref o0), (2, .int w)]) hx hb dX2_nextBatch_45 rfl hl (by decide) rfl (fun ls hl => ?_)
      refine lv_iinc (v := nI (k + 1)) (lv' := [(4, .int (nI (k + 1))), (3, .int (nI k)), (0, .ref h0), (1, .ref o0), (2, .int w)]) hx hb dX2_nextBatch_46 hl (k := 1) rfl (nI_inc1 k) (by decide) rfl (fun ls hl => ?_)
      refine lv_goto (tgt := 5) hx hb dX2_nextBatch_49 (by decide) ?_
      exact ih_5 (n - (k + 1)) _ _ _ (show n - (k + 1) < n - k from by omega) ⟨(k + 1), (some k), ls, rfl, rfl, rfl, rfl, lv_sub hl [0, 1, 2, 3, 4] rfl, (by omega), (fun b h => by cases h; omega), (xnb_1 hfo (decide_eq_true c_3))⟩
    have hl : lv_has ls 5 [(4, .int (nI k)), (3, .int (nI fb)), (0, .ref h0), (1, .ref o0), (2, .int w)] := hl
    have hfb := hf fb rfl
    refine lv_iload_n hx hb dX2_nextBatch_28 rfl (lv_at hl 1 rfl) ?_
    refine xr_zlt_n (tgt := 43) hx hb (by omega) dX2_nextBatch_29 (by decide) ?_
    refine lv_aload_n hx hb dX2_nextBatch_32 rfl (lv_at hl 2 rfl) ?_
    refine lv_aload_n hx hb dX2_nextBatch_33 rfl (lv_at hl 3 rfl) ?_
    refine lv_iload hx hb dX2_nextBatch_34 (lv_at hl 0 rfl) ?_
    refine lv_iload_n hx hb dX2_nextBatch_36 rfl (lv_at hl 1 rfl) ?_
    refine xkRi (xV (As := [.ref o0, .int (nI k), .int (nI fb)]) (rest := []) (wc := [(h0, .inr (2, [h0_size, h0_got, h0_replaced, h0_batch, h0_units, h0_cents, .ref rq, .ref pq, h0_orderedGood, h0_wanted, .int le])), (pq, .inl (cF, 40, .inr (.inr (.inl pric)))), (o0, .inr (8, [o0_goods, .ref ba, o0_orders, o0_stages, o0_log, .ref se, o0_rebate, o0_day])), (ba, .inr (0, [.int (nI n), .ref gq, ba_came, .ref lq, ba_shelf, ba_sold, ba_given, ba_cents, ba_wasted])), (lq, .inl (cI, 40, .inl left)), (se, .inl (cI, 3, .inl sets))]) hx hb hml hown hts (c_X2_isBefore l dC dI cI cF cC cZ cQ cS h0 h0_size h0_got h0_replaced h0_batch h0_units h0_cents (.ref rq) pq h0_orderedGood h0_wanted (.int le) pric o0 o0_goods ba o0_orders o0_stages o0_log se o0_rebate o0_day (.int (nI n)) (.ref gq) ba_came lq ba_shelf ba_sold ba_given ba_cents ba_wasted left sets k fb (by omega) (by omega)) 3 gX2_nextBatch_X2_isBefore rfl rfl rfl hdV_X2_isBefore ⟨Nat.le_of_ble_eq_true rfl, Nat.le_of_ble_eq_true rfl⟩ hN hK hP hD [0, 2, 3, 4, 6, 7] rfl rfl 2 0 rfl rfl rfl hl.1 rfl (Nat.le_of_ble_eq_true rfl) dX2_nextBatch_37 ⟨Nat.zero_le _, Nat.zero_le _⟩) (fun r_5 hr_5 => ?_)
    have hr_5 : r_5 = (if xbefore (sets 0) left pric k fb then nI 1 else nI 0) := hr_5
    rcases xi_ite inferInstance hr_5 with ⟨c_6, hr_5⟩ | ⟨c_6, hr_5⟩
    · subst hr_5
      refine xr_if1 (tgt := 46) hx hb (by decide) dX2_nextBatch_40 (by decide) ?_
      refine lv_iload hx hb dX2_nextBatch_43 (lv_at hl 0 rfl) ?_
      refine lv_istore_n (lv' := [(3, .int (nI k)), (4, .int (nI k)), (0, .ref h0), (1, .ref o0), (2, .int w)]) hx hb dX2_nextBatch_45 rfl hl (by decide) rfl (fun ls hl => ?_)
      refine lv_iinc (v := nI (k + 1)) (lv' := [(4, .int (nI (k + 1))), (3, .int (nI k)), (0, .ref h0), (1, .ref o0), (2, .int w)]) hx hb dX2_nextBatch_46 hl (k := 1) rfl (nI_inc1 k) (by decide) rfl (fun ls hl => ?_)
      refine lv_goto (tgt := 5) hx hb dX2_nextBatch_49 (by decide) ?_
      exact ih_5 (n - (k + 1)) _ _ _ (show n - (k + 1) < n - k from by omega) ⟨(k + 1), (some k), ls, rfl, rfl, rfl, rfl, lv_sub hl [0, 1, 2, 3, 4] rfl, (by omega), (fun b h => by cases h; omega), (xnb_2 hfo (decide_eq_true c_3) (decide_eq_true c_6))⟩
    subst hr_5
    refine xr_if0 (tgt := 46) hx hb (by decide) dX2_nextBatch_40 (by decide) ?_
    refine lv_iinc (v := nI (k + 1)) (lv' := [(4, .int (nI (k + 1))), (3, .int (nI fb)), (0, .ref h0), (1, .ref o0), (2, .int w)]) hx hb dX2_nextBatch_46 hl (k := 0) rfl (nI_inc1 k) (by decide) rfl (fun ls hl => ?_)
    refine lv_goto (tgt := 5) hx hb dX2_nextBatch_49 (by decide) ?_
    exact ih_5 (n - (k + 1)) _ _ _ (show n - (k + 1) < n - k from by omega) ⟨(k + 1), (some fb), ls, rfl, rfl, rfl, rfl, lv_sub hl [0, 1, 2, 3, 4] rfl, (by omega), (fun b h => by cases h; omega), (xnb_3 hfo (decide_eq_true c_3) (decide_eq_false c_6))⟩
  subst hr_2
  refine xr_if0 (tgt := 46) hx hb (by decide) dX2_nextBatch_25 (by decide) ?_
  refine lv_iinc (v := nI (k + 1)) (lv' := [(4, .int (nI (k + 1))), (3, .int (xon fo)), (0, .ref h0), (1, .ref o0), (2, .int w)]) hx hb dX2_nextBatch_46 hl (k := 0) rfl (nI_inc1 k) (by decide) rfl (fun ls hl => ?_)
  refine lv_goto (tgt := 5) hx hb dX2_nextBatch_49 (by decide) ?_
  exact ih_5 (n - (k + 1)) _ _ _ (show n - (k + 1) < n - k from by omega) ⟨(k + 1), fo, ls, rfl, rfl, rfl, rfl, lv_sub hl [0, 1, 2, 3, 4] rfl, (by omega), (fun b h => Nat.lt_succ_of_lt (hf b h)), (xnb_0 hfo (decide_eq_false c_3))⟩
theorem hdV_X2_chargedPrice : yX2_chargedPrice.cls = RX2 ∧ yX2_chargedPrice.cls ≠ "java/lang/invoke/MethodHandle" ∧ yX2_chargedPrice.cls ≠ "java/lang/invoke/VarHandle" ∧ (parseMethodDescriptor yX2_chargedPrice.desc).map (fun d => d.parameters.length) = some 2 := by decide +kernel
set_option maxHeartbeats 4000000 in
set_option maxRecDepth 100000 in
theorem c_X2_chargedPrice (l : Launch) (dC : Nat → ClassId) (dI : Nat → Nat → Nat) (cI cF cC cZ cQ cS : ClassId) (h0 : Nat) (h0_size : Value) (h0_got : Value) (h0_replaced : Value) (h0_batch : Value) (h0_units : Value) (h0_cents : Value) (h0_rest : Value) (pq : Nat) (h0_wanted : Value) (h0_least : Value) (pric : Nat → UInt32) (o0 : Nat) (go : Nat) (ba : Nat) (o0_orders : Value) (o0_stages : Value) (o0_log : Value) (o0_settings : Value) (o0_rebate : Value) (o0_day : Value) (go_size : Value) (prq : Nat) (go_life : Value) (go_listed : Value) (go_list : Value) (price : Nat → Int32) (ba_size : Value) (gq : Nat) (ba_came : Value) (ba_left : Value) (ba_shelf : Value) (ba_sold : Value) (ba_given : Value) (ba_cents : Value) (ba_wasted : Value) (good : Nat → Int32) (og : Nat) (bt : Nat) (hot : bt < 40) (hgb : (good bt).toNatClampNeg < 12 ∧ good bt = nI (good bt).toNatClampNeg) (hog : og < 12) : Met l yX2_chargedPrice wsX2_chargedPrice ({ frames := 0, cells := 0, slots := 0, locals := 0 }) (xPre (dC, dI) vwCl [.ref h0, .ref o0, .int (nI bt)] (xtys cI cF cC cZ cQ cS) [(h0, .inr (2, [h0_size, h0_got, h0_replaced, h0_batch, h0_units, h0_cents, h0_rest, .ref pq, .int (nI og), h0_wanted, h0_least])), (pq, .inl (cF, 40, .inr (.inr (.inl pric)))), (o0, .inr (8, [.ref go, .ref ba, o0_orders, o0_stages, o0_log, o0_settings, o0_rebate, o0_day])), (go, .inr (3, [go_size, .ref prq, go_life, go_listed, go_list])), (prq, .inl (cI, 12, .inl price)), (ba, .inr (0, [ba_size, .ref gq, ba_came, ba_left, ba_shelf, ba_sold, ba_given, ba_cents, ba_wasted])), (gq, .inl (cI, 40, .inl good))]) (vp_Sf (fun r0 => r0 = xcharge (price og) (price (good bt).toNatClampNeg) (pric bt))) 0 0 (fun _ => False) := by
  refine Met.ofW (cc := cX2_chargedPrice) (maxL := 5) (ret := (some .float)) (by decide) rfl ?_
  intro p e s m args below meth c s₁ B hml hv
  obtain ⟨rfl, hP, hK, hD0, hN⟩ := hv
  have hx := B.exec
  have hb := B.bytes
  have hr := B.returns
  have hts := atoms_spec (ws := wsX2_chargedPrice) B.pre
  have hown : s.vm.findClass RX2 = some m.cls := findClass_of_methodNamed B.named
  have hlocks := B.notSynchronized
  have k_102 := hts (Cond.fieldLink RX2 102 "ShelfStages$Goods" "price" "[I") (by decide +kernel)
  have k_104 := hts (Cond.fieldLink RX2 104 "ShelfStages$Batches" "good" "[I") (by decide +kernel)
  have k_24 := hts (Cond.fieldLink RX2 24 "ShelfStages$Filling" "price" "[F") (by decide +kernel)
  have k_35 := hts (Cond.fieldLink RX2 35 "ShelfStages$Filling" "orderedGood" "I") (by decide +kernel)
  have k_44 := hts (Cond.fieldLink RX2 44 "ShelfStages$State" "batches" "LShelfStages$Batches;") (by decide +kernel)
  have k_68 := hts (Cond.fieldLink RX2 68 "ShelfStages$State" "goods" "LShelfStages$Goods;") (by decide +kernel)
  have i_X0 : ∀ w ∈ wsX00, w ∈ wsX2_chargedPrice := by decide +kernel
  have i_X2 : ∀ w ∈ wsX20, w ∈ wsX2_chargedPrice := by decide +kernel
  have i_X3 : ∀ w ∈ wsX30, w ∈ wsX2_chargedPrice := by decide +kernel
  have i_X8 : ∀ w ∈ wsX80, w ∈ wsX2_chargedPrice := by decide +kernel
  have hD := hD0
  have hl := lv_entry ([.ref h0, .ref o0, .int (nI bt)]) (n := 5) (Nat.le_of_ble_eq_true rfl)
  rw [lg_entry_eq]
  generalize (lg_sl ([.ref h0, .ref o0, .int (nI bt)]) ++ List.replicate (5 - (lg_sl ([.ref h0, .ref o0, .int (nI bt)])).length) Slot.unset).toArray = ls at hl ⊢
  have hl : lv_has ls 5 [(0, .ref h0), (1, .ref o0), (2, .int (nI bt))] := hl
  refine lv_aload_n hx hb dX2_chargedPrice_0 rfl (lv_at hl 1 rfl) ?_
  refine va_get (D := (dC, dI)) (ci := 8) (v := .ref go) (C := RX8) (T := TX8) (N := 8) hx hb hts i_X8 hown hK hP 2 rfl rfl 0 (by decide) k_68 (fun _ h9 => h9) rfl dX2_chargedPrice_1 ?_
  refine va_get (D := (dC, dI)) (ci := 3) (v := .ref prq) (C := RX3) (T := TX3) (N := 5) hx hb hts i_X3 hown hK hP 3 rfl rfl 1 (by decide) k_102 (fun _ h9 => h9) rfl dX2_chargedPrice_4 ?_
  refine lv_aload_n hx hb dX2_chargedPrice_7 rfl (lv_at hl 0 rfl) ?_
  refine va_get (D := (dC, dI)) (ci := 2) (v := .int (nI og)) (C := RX2) (T := TX2) (N := 11) hx hb hts i_X2 hown hK hP 0 rfl rfl 8 (by decide) k_35 (fun _ h9 => h9) rfl dX2_chargedPrice_8 ?_
  refine xr_iald hx hb hK hP 4 0 rfl rfl (i := og) (by omega) (by decide) dX2_chargedPrice_11 ?_
  refine lv_istore_n (lv' := [(3, .int (price og)), (0, .ref h0), (1, .ref o0), (2, .int (nI bt))]) hx hb dX2_chargedPrice_12 rfl hl (by decide) rfl (fun ls hl => ?_)
  refine lv_aload_n hx hb dX2_chargedPrice_13 rfl (lv_at hl 2 rfl) ?_
  refine va_get (D := (dC, dI)) (ci := 8) (v := .ref go) (C := RX8) (T := TX8) (N := 8) hx hb hts i_X8 hown hK hP 2 rfl rfl 0 (by decide) k_68 (fun _ h9 => h9) rfl dX2_chargedPrice_14 ?_
  refine va_get (D := (dC, dI)) (ci := 3) (v := .ref prq) (C := RX3) (T := TX3) (N := 5) hx hb hts i_X3 hown hK hP 3 rfl rfl 1 (by decide) k_102 (fun _ h9 => h9) rfl dX2_chargedPrice_17 ?_
  refine lv_aload_n hx hb dX2_chargedPrice_20 rfl (lv_at hl 2 rfl) ?_
  refine va_get (D := (dC, dI)) (ci := 8) (v := .ref ba) (C := RX8) (T := TX8) (N := 8) hx hb hts i_X8 hown hK hP 2 rfl rfl 1 (by decide) k_44 (fun _ h9 => h9) rfl dX2_chargedPrice_21 ?_
  refine va_get (D := (dC, dI)) (ci := 0) (v := .ref gq) (C := RX0) (T := TX0) (N := 9) hx hb hts i_X0 hown hK hP 5 rfl rfl 1 (by decide) k_104 (fun _ h9 => h9) rfl dX2_chargedPrice_24 ?_
  refine lv_iload_n hx hb dX2_chargedPrice_27 rfl (lv_at hl 3 rfl) ?_
  refine xr_iald hx hb hK hP 6 0 rfl rfl (i := bt) (by omega) (by decide) dX2_chargedPrice_28 ?_
  refine xr_top (show good bt = nI ((good bt).toNatClampNeg) from hgb.2) ?_
  refine xr_iald hx hb hK hP 4 0 rfl rfl (i := (good bt).toNatClampNeg) (by omega) (by decide) dX2_chargedPrice_29 ?_
  refine lv_iload_n hx hb dX2_chargedPrice_30 rfl (lv_at hl 0 rfl) ?_
  refine lv_icmp_le (tgt := 38) hx hb dX2_chargedPrice_31 (by decide) (fun c_1 => ?_) (fun c_1 => ?_)
  · skip
    refine lv_iconst (v := nI 0) hx hb dX2_chargedPrice_38 (by decide) ?_
    refine lv_istore (lv' := [(4, .int (nI 0)), (3, .int (price og)), (0, .ref h0), (1, .ref o0), (2, .int (nI bt))]) hx hb dX2_chargedPrice_39 hl (by decide) rfl (fun ls hl => ?_)
    refine lv_iload hx hb dX2_chargedPrice_41 (lv_at hl 0 rfl) ?_
    refine xr_if0 (tgt := 63) hx hb (by decide) dX2_chargedPrice_43 (by decide) ?_
    refine lv_aload_n hx hb dX2_chargedPrice_63 rfl (lv_at hl 2 rfl) ?_
    refine va_get (D := (dC, dI)) (ci := 2) (v := .ref pq) (C := RX2) (T := TX2) (N := 11) hx hb hts i_X2 hown hK hP 0 rfl rfl 7 (by decide) k_24 (fun _ h9 => h9) rfl dX2_chargedPrice_64 ?_
    refine lv_iload_n hx hb dX2_chargedPrice_67 rfl (lv_at hl 4 rfl) ?_
    refine xr_fald hx hb hK hP 1 1 rfl rfl (i := bt) (by omega) (by decide) dX2_chargedPrice_68 ?_
    exact W.fret (v := pric bt) hx hb hr (fun t ht hW => ⟨_, rfl, (show pric bt = xcharge (price og) (price (good bt).toNatClampNeg) (pric bt) from (by unfold xcharge; rw [if_neg (fun q => absurd q.1 (Int32.not_lt.mpr c_1))])), ht⟩) (fun q h => by cases h) dX2_chargedPrice_69
  refine lv_iconst (v := nI 1) hx hb dX2_chargedPrice_34 (by decide) ?_
  refine lv_goto (tgt := 39) hx hb dX2_chargedPrice_35 (by decide) ?_
  refine lv_istore (lv' := [(4, .int (nI 1)), (3, .int (price og)), (0, .ref h0), (1, .ref o0), (2, .int (nI bt))]) hx hb dX2_chargedPrice_39 hl (by decide) rfl (fun ls hl => ?_)
  refine lv_iload hx hb dX2_chargedPrice_41 (lv_at hl 0 rfl) ?_
  refine xr_if1 (tgt := 63) hx hb (by decide) dX2_chargedPrice_43 (by decide) ?_
  refine lv_aload_n hx hb dX2_chargedPrice_46 rfl (lv_at hl 2 rfl) ?_
  refine va_get (D := (dC, dI)) (ci := 2) (v := .ref pq) (C := RX2) (T := TX2) (N := 11) hx hb hts i_X2 hown hK hP 0 rfl rfl 7 (by decide) k_24 (fun _ h9 => h9) rfl dX2_chargedPrice_47 ?_
  refine lv_iload_n hx hb dX2_chargedPrice_50 rfl (lv_at hl 4 rfl) ?_
  refine xr_fald hx hb hK hP 1 1 rfl rfl (i := bt) (by omega) (by decide) dX2_chargedPrice_51 ?_
  refine lv_iload_n hx hb dX2_chargedPrice_52 rfl (lv_at hl 1 rfl) ?_
  refine lv_i2f hx hb dX2_chargedPrice_53 ?_
  refine lv_fcmp hx hb dX2_chargedPrice_54 ?_
  refine lv_if_le (tgt := 63) hx hb dX2_chargedPrice_55 (by decide) (fun c_2 => ?_) (fun c_2 => ?_)
  · skip
    refine lv_aload_n hx hb dX2_chargedPrice_63 rfl (lv_at hl 2 rfl) ?_
    refine va_get (D := (dC, dI)) (ci := 2) (v := .ref pq) (C := RX2) (T := TX2) (N := 11) hx hb hts i_X2 hown hK hP 0 rfl rfl 7 (by decide) k_24 (fun _ h9 => h9) rfl dX2_chargedPrice_64 ?_
    refine lv_iload_n hx hb dX2_chargedPrice_67 rfl (lv_at hl 4 rfl) ?_
    refine xr_fald hx hb hK hP 1 1 rfl rfl (i := bt) (by omega) (by decide) dX2_chargedPrice_68 ?_
    exact W.fret (v := pric bt) hx hb hr (fun t ht hW => ⟨_, rfl, (show pric bt = xcharge (price og) (price (good bt).toNatClampNeg) (pric bt) from (by unfold xcharge; rw [if_neg (fun q => absurd q.2 (Int32.not_lt.mpr c_2))])), ht⟩) (fun q h => by cases h) dX2_chargedPrice_69
  refine lv_iload_n hx hb dX2_chargedPrice_58 rfl (lv_at hl 1 rfl) ?_
  refine lv_i2f hx hb dX2_chargedPrice_59 ?_
  refine lv_goto (tgt := 69) hx hb dX2_chargedPrice_60 (by decide) ?_
  exact W.fret (v := FP.i2f (price og)) hx hb hr (fun t ht hW => ⟨_, rfl, (show FP.i2f (price og) = xcharge (price og) (price (good bt).toNatClampNeg) (pric bt) from (by unfold xcharge; rw [if_pos ⟨Int32.not_le.mp c_1, Int32.not_le.mp c_2⟩])), ht⟩) (fun q h => by cases h) dX2_chargedPrice_69
theorem hdV_X2_takePart : yX2_takePart.cls = RX2 ∧ yX2_takePart.cls ≠ "java/lang/invoke/MethodHandle" ∧ yX2_takePart.cls ≠ "java/lang/invoke/VarHandle" ∧ (parseMethodDescriptor yX2_takePart.desc).map (fun d => d.parameters.length) = some 3 := by decide +kernel
set_option maxHeartbeats 4000000 in
set_option maxRecDepth 100000 in
theorem c_X2_takePart (l : Launch) (dC : Nat → ClassId) (dI : Nat → Nat → Nat) (cI cF cC cZ cQ cS : ClassId) (h0 : Nat) (h0_replaced : Value) (b3 : Nat) (b4 : Nat) (b5 : Nat) (rq : Nat) (pq : Nat) (h0_wanted : Value) (h0_least : Value) (fb : Nat → Int32) (fu : Nat → Int32) (fc : Nat → Int32) (rest : Nat → Int32) (pric : Nat → UInt32) (o0 : Nat) (go : Nat) (ba : Nat) (o0_orders : Value) (o0_stages : Value) (o0_log : Value) (o0_settings : Value) (o0_rebate : Value) (o0_day : Value) (go_size : Value) (prq : Nat) (go_life : Value) (go_listed : Value) (go_list : Value) (price : Nat → Int32) (ba_size : Value) (gq : Nat) (ba_came : Value) (ba_left : Value) (ba_shelf : Value) (ba_sold : Value) (ba_given : Value) (ba_cents : Value) (ba_wasted : Value) (good : Nat → Int32) (og : Nat) (fz : Nat) (got : Int32) (bt : Nat) (tk : Int32) (hot : bt < 40) (hgb : (good bt).toNatClampNeg < 12 ∧ good bt = nI (good bt).toNatClampNeg) (hog : og < 12) (hfz : fz < 40) (hnn : vf_n32 (FP.fmul (FP.i2f tk) (xcharge (price og) (price (good bt).toNatClampNeg) (pric bt)))) : Met l yX2_takePart wsX2_takePart ({ frames := 1, cells := 0, slots := 0, locals := 24 }) (xPre (dC, dI) vwCl [.ref h0, .ref o0, .int (nI bt), .int tk] (xtys cI cF cC cZ cQ cS) [(h0, .inr (2, [.int (nI fz), .int got, h0_replaced, .ref b3, .ref b4, .ref b5, .ref rq, .ref pq, .int (nI og), h0_wanted, h0_least])), (b3, .inl (cI, 40, .inl fb)), (b4, .inl (cI, 40, .inl fu)), (b5, .inl (cI, 40, .inl fc)), (rq, .inl (cI, 40, .inl rest)), (pq, .inl (cF, 40, .inr (.inr (.inl pric)))), (o0, .inr (8, [.ref go, .ref ba, o0_orders, o0_stages, o0_log, o0_settings, o0_rebate, o0_day])), (go, .inr (3, [go_size, .ref prq, go_life, go_listed, go_list])), (prq, .inl (cI, 12, .inl price)), (ba, .inr (0, [ba_size, .ref gq, ba_came, ba_left, ba_shelf, ba_sold, ba_given, ba_cents, ba_wasted])), (gq, .inl (cI, 40, .inl good))]) (xWv (dC, dI) vwCl [(h0, .inr (2, [.int (nI fz), .int got, h0_replaced, .ref b3, .ref b4, .ref b5, .ref rq, .ref pq, .int (nI og), h0_wanted, h0_least])), (b3, .inl (cI, 40, .inl fb)), (b4, .inl (cI, 40, .inl fu)), (b5, .inl (cI, 40, .inl fc)), (rq, .inl (cI, 40, .inl rest)), (pq, .inl (cF, 40, .inr (.inr (.inl pric)))), (o0, .inr (8, [.ref go, .ref ba, o0_orders, o0_stages, o0_log, o0_settings, o0_rebate, o0_day])), (go, .inr (3, [go_size, .ref prq, go_life, go_listed, go_list])), (prq, .inl (cI, 12, .inl price)), (ba, .inr (0, [ba_size, .ref gq, ba_came, ba_left, ba_shelf, ba_sold, ba_given, ba_cents, ba_wasted])), (gq, .inl (cI, 40, .inl good))] (fun w0 => w0 = [(h0, .inr (2, [.int (nI (fz + 1)), .int (got + tk), h0_replaced, .ref b3, .ref b4, .ref b5, .ref rq, .ref pq, .int (nI og), h0_wanted, h0_least])), (b3, .inl (cI, 40, .inl (upd fb fz (nI bt)))), (b4, .inl (cI, 40, .inl (upd fu fz tk))), (b5, .inl (cI, 40, .inl (upd fc fz (FP.f2i (FP.fmul (FP.i2f tk) (xcharge (price og) (price (good bt).toNatClampNeg) (pric bt))))))), (rq, .inl (cI, 40, .inl (upd rest bt (rest bt - tk)))), (pq, .inl (cF, 40, .inr (.inr (.inl pric)))), (o0, .inr (8, [.ref go, .ref ba, o0_orders, o0_stages, o0_log, o0_settings, o0_rebate, o0_day])), (go, .inr (3, [go_size, .ref prq, go_life, go_listed, go_list])), (prq, .inl (cI, 12, .inl price)), (ba, .inr (0, [ba_size, .ref gq, ba_came, ba_left, ba_shelf, ba_sold, ba_given, ba_cents, ba_wasted])), (gq, .inl (cI, 40, .inl good))])) 0 0 (va_B [(h0, .inr (2, [.int (nI fz), .int got, h0_replaced, .ref b3, .ref b4, .ref b5, .ref rq, .ref pq, .int (nI og), h0_wanted, h0_least])), (b3, .inl (cI, 40, .inl fb)), (b4, .inl (cI, 40, .inl fu)), (b5, .inl (cI, 40, .inl fc)), (rq, .inl (cI, 40, .inl rest)), (pq, .inl (cF, 40, .inr (.inr (.inl pric)))), (o0, .inr (8, [.ref go, .ref ba, o0_orders, o0_stages, o0_log, o0_settings, o0_rebate, o0_day])), (go, .inr (3, [go_size, .ref prq, go_life, go_listed, go_list])), (prq, .inl (cI, 12, .inl price)), (ba, .inr (0, [ba_size, .ref gq, ba_came, ba_left, ba_shelf, ba_sold, ba_given, ba_cents, ba_wasted])), (gq, .inl (cI, 40, .inl good))]) := by
  refine Met.ofW (cc := cX2_takePart) (maxL := 4) (ret := none) (by decide) rfl ?_
  intro p e s m args below meth c s₁ B hml hv
  obtain ⟨rfl, hP, hK, hD0, hN⟩ := hv
  have hx := B.exec
  have hb := B.bytes
  have hr := B.returns
  have hts := atoms_spec (ws := wsX2_takePart) B.pre
  have hown : s.vm.findClass RX2 = some m.cls := findClass_of_methodNamed B.named
  have hlocks := B.notSynchronized
  have k_15 := hts (Cond.fieldLink RX2 15 "ShelfStages$Filling" "units" "[I") (by decide +kernel)
  have k_18 := hts (Cond.fieldLink RX2 18 "ShelfStages$Filling" "cents" "[I") (by decide +kernel)
  have k_21 := hts (Cond.fieldLink RX2 21 "ShelfStages$Filling" "rest" "[I") (by decide +kernel)
  have k_28 := hts (Cond.fieldLink RX2 28 "ShelfStages$Filling" "size" "I") (by decide +kernel)
  have k_32 := hts (Cond.fieldLink RX2 32 "ShelfStages$Filling" "got" "I") (by decide +kernel)
  have k_9 := hts (Cond.fieldLink RX2 9 "ShelfStages$Filling" "batch" "[I") (by decide +kernel)
  have i_X2 : ∀ w ∈ wsX20, w ∈ wsX2_takePart := by decide +kernel
  obtain ⟨A, hA⟩ : ∃ A, A = va_B [(h0, .inr (2, [.int (nI fz), .int got, h0_replaced, .ref b3, .ref b4, .ref b5, .ref rq, .ref pq, .int (nI og), h0_wanted, h0_least])), (b3, .inl (cI, 40, .inl fb)), (b4, .inl (cI, 40, .inl fu)), (b5, .inl (cI, 40, .inl fc)), (rq, .inl (cI, 40, .inl rest)), (pq, .inl (cF, 40, .inr (.inr (.inl pric)))), (o0, .inr (8, [.ref go, .ref ba, o0_orders, o0_stages, o0_log, o0_settings, o0_rebate, o0_day])), (go, .inr (3, [go_size, .ref prq, go_life, go_listed, go_list])), (prq, .inl (cI, 12, .inl price)), (ba, .inr (0, [ba_size, .ref gq, ba_came, ba_left, ba_shelf, ba_sold, ba_given, ba_cents, ba_wasted])), (gq, .inl (cI, 40, .inl good))] := ⟨_, rfl⟩
  have hD : va_D A [(h0, .inr (2, [.int (nI fz), .int got, h0_replaced, .ref b3, .ref b4, .ref b5, .ref rq, .ref pq, .int (nI og), h0_wanted, h0_least])), (b3, .inl (cI, 40, .inl fb)), (b4, .inl (cI, 40, .inl fu)), (b5, .inl (cI, 40, .inl fc)), (rq, .inl (cI, 40, .inl rest)), (pq, .inl (cF, 40, .inr (.inr (.inl pric)))), (o0, .inr (8, [.ref go, .ref ba, o0_orders, o0_stages, o0_log, o0_settings, o0_rebate, o0_day])), (go, .inr (3, [go_size, .ref prq, go_life, go_listed, go_list])), (prq, .inl (cI, 12, .inl price)), (ba, .inr (0, [ba_size, .ref gq, ba_came, ba_left, ba_shelf, ba_sold, ba_given, ba_cents, ba_wasted])), (gq, .inl (cI, 40, .inl good))] := hA ▸ hD0.own
  have hS : va_S A s.heap s.heap [] := va_S.rf
  have hl := lv_entry ([.ref h0, .ref o0, .int (nI bt), .int tk]) (n := 4) (Nat.le_of_ble_eq_true rfl)
  rw [lg_entry_eq]
  generalize (lg_sl ([.ref h0, .ref o0, .int (nI bt), .int tk]) ++ List.replicate (4 - (lg_sl ([.ref h0, .ref o0, .int (nI bt), .int tk])).length) Slot.unset).toArray = ls at hl ⊢
  have hl : lv_has ls 4 [(0, .ref h0), (1, .ref o0), (2, .int (nI bt)), (3, .int tk)] := hl
  refine lv_aload_n hx hb dX2_takePart_0 rfl (lv_at hl 0 rfl) ?_
  refine va_get (D := (dC, dI)) (ci := 2) (v := .int (nI fz)) (C := RX2) (T := TX2) (N := 11) hx hb hts i_X2 hown hK hP 0 rfl rfl 0 (by decide) k_28 (fun _ h9 => h9) rfl dX2_takePart_1 ?_
  refine lv_bipush (v := nI 40) hx hb dX2_takePart_4 (by decide) ?_
  refine xr_lt_n (tgt := 10) hx hb (by omega) (by omega) dX2_takePart_6 (by decide) (fun c_1 => ?_) (fun c_1 => False.elim (by omega))
  refine lv_aload_n hx hb dX2_takePart_10 rfl (lv_at hl 0 rfl) ?_
  refine va_get (D := (dC, dI)) (ci := 2) (v := .ref b3) (C := RX2) (T := TX2) (N := 11) hx hb hts i_X2 hown hK hP 0 rfl rfl 3 (by decide) k_9 (fun _ h9 => h9) rfl dX2_takePart_11 ?_
  refine lv_aload_n hx hb dX2_takePart_14 rfl (lv_at hl 0 rfl) ?_
  refine va_get (D := (dC, dI)) (ci := 2) (v := .int (nI fz)) (C := RX2) (T := TX2) (N := 11) hx hb hts i_X2 hown hK hP 0 rfl rfl 0 (by decide) k_28 (fun _ h9 => h9) rfl dX2_takePart_15 ?_
  refine lv_iload_n hx hb dX2_takePart_18 rfl (lv_at hl 2 rfl) ?_
  refine xr_iast hx hb hK hP hD hS 1 0 rfl rfl (i := fz) (by omega) (by decide) dX2_takePart_19 (fun H locs hP hD hS => ?_)
  have hP : va_P (dC, dI) vwCl [(h0, .inr (2, [.int (nI fz), .int got, h0_replaced, .ref b3, .ref b4, .ref b5, .ref rq, .ref pq, .int (nI og), h0_wanted, h0_least])), (b3, .inl (cI, 40, .inl (upd fb fz (nI bt)))), (b4, .inl (cI, 40, .inl fu)), (b5, .inl (cI, 40, .inl fc)), (rq, .inl (cI, 40, .inl rest)), (pq, .inl (cF, 40, .inr (.inr (.inl pric)))), (o0, .inr (8, [.ref go, .ref ba, o0_orders, o0_stages, o0_log, o0_settings, o0_rebate, o0_day])), (go, .inr (3, [go_size, .ref prq, go_life, go_listed, go_list])), (prq, .inl (cI, 12, .inl price)), (ba, .inr (0, [ba_size, .ref gq, ba_came, ba_left, ba_shelf, ba_sold, ba_given, ba_cents, ba_wasted])), (gq, .inl (cI, 40, .inl good))] H := hP
  have hD : va_D A [(h0, .inr (2, [.int (nI fz), .int got, h0_replaced, .ref b3, .ref b4, .ref b5, .ref rq, .ref pq, .int (nI og), h0_wanted, h0_least])), (b3, .inl (cI, 40, .inl (upd fb fz (nI bt)))), (b4, .inl (cI, 40, .inl fu)), (b5, .inl (cI, 40, .inl fc)), (rq, .inl (cI, 40, .inl rest)), (pq, .inl (cF, 40, .inr (.inr (.inl pric)))), (o0, .inr (8, [.ref go, .ref ba, o0_orders, o0_stages, o0_log, o0_settings, o0_rebate, o0_day])), (go, .inr (3, [go_size, .ref prq, go_life, go_listed, go_list])), (prq, .inl (cI, 12, .inl price)), (ba, .inr (0, [ba_size, .ref gq, ba_came, ba_left, ba_shelf, ba_sold, ba_given, ba_cents, ba_wasted])), (gq, .inl (cI, 40, .inl good))] := hD
  refine lv_aload_n hx hb dX2_takePart_20 rfl (lv_at hl 0 rfl) ?_
  refine va_get (D := (dC, dI)) (ci := 2) (v := .ref b4) (C := RX2) (T := TX2) (N := 11) hx hb hts i_X2 hown hK hP 0 rfl rfl 4 (by decide) k_15 (fun _ h9 => h9) rfl dX2_takePart_21 ?_
  refine lv_aload_n hx hb dX2_takePart_24 rfl (lv_at hl 0 rfl) ?_
  refine va_get (D := (dC, dI)) (ci := 2) (v := .int (nI fz)) (C := RX2) (T := TX2) (N := 11) hx hb hts i_X2 hown hK hP 0 rfl rfl 0 (by decide) k_28 (fun _ h9 => h9) rfl dX2_takePart_25 ?_
  refine lv_iload_n hx hb dX2_takePart_28 rfl (lv_at hl 3 rfl) ?_
  refine xr_iast hx hb hK hP hD hS 2 0 rfl rfl (i := fz) (by omega) (by decide) dX2_takePart_29 (fun H locs hP hD hS => ?_)
  have hP : va_P (dC, dI) vwCl [(h0, .inr (2, [.int (nI fz), .int got, h0_replaced, .ref b3, .ref b4, .ref b5, .ref rq, .ref pq, .int (nI og), h0_wanted, h0_least])), (b3, .inl (cI, 40, .inl (upd fb fz (nI bt)))), (b4, .inl (cI, 40, .inl (upd fu fz tk))), (b5, .inl (cI, 40, .inl fc)), (rq, .inl (cI, 40, .inl rest)), (pq, .inl (cF, 40, .inr (.inr (.inl pric)))), (o0, .inr (8, [.ref go, .ref ba, o0_orders, o0_stages, o0_log, o0_settings, o0_rebate, o0_day])), (go, .inr (3, [go_size, .ref prq, go_life, go_listed, go_list])), (prq, .inl (cI, 12, .inl price)), (ba, .inr (0, [ba_size, .ref gq, ba_came, ba_left, ba_shelf, ba_sold, ba_given, ba_cents, ba_wasted])), (gq, .inl (cI, 40, .inl good))] H := hP
  have hD : va_D A [(h0, .inr (2, [.int (nI fz), .int got, h0_replaced, .ref b3, .ref b4, .ref b5, .ref rq, .ref pq, .int (nI og), h0_wanted, h0_least])), (b3, .inl (cI, 40, .inl (upd fb fz (nI bt)))), (b4, .inl (cI, 40, .inl (upd fu fz tk))), (b5, .inl (cI, 40, .inl fc)), (rq, .inl (cI, 40, .inl rest)), (pq, .inl (cF, 40, .inr (.inr (.inl pric)))), (o0, .inr (8, [.ref go, .ref ba, o0_orders, o0_stages, o0_log, o0_settings, o0_rebate, o0_day])), (go, .inr (3, [go_size, .ref prq, go_life, go_listed, go_list])), (prq, .inl (cI, 12, .inl price)), (ba, .inr (0, [ba_size, .ref gq, ba_came, ba_left, ba_shelf, ba_sold, ba_given, ba_cents, ba_wasted])), (gq, .inl (cI, 40, .inl good))] := hD
  refine lv_aload_n hx hb dX2_takePart_30 rfl (lv_at hl 0 rfl) ?_
  refine va_get (D := (dC, dI)) (ci := 2) (v := .ref b5) (C := RX2) (T := TX2) (N := 11) hx hb hts i_X2 hown hK hP 0 rfl rfl 5 (by decide) k_18 (fun _ h9 => h9) rfl dX2_takePart_31 ?_
  refine lv_aload_n hx hb dX2_takePart_34 rfl (lv_at hl 0 rfl) ?_
  refine va_get (D := (dC, dI)) (ci := 2) (v := .int (nI fz)) (C := RX2) (T := TX2) (N := 11) hx hb hts i_X2 hown hK hP 0 rfl rfl 0 (by decide) k_28 (fun _ h9 => h9) rfl dX2_takePart_35 ?_
  refine lv_iload_n hx hb dX2_takePart_38 rfl (lv_at hl 3 rfl) ?_
  refine lv_i2f hx hb dX2_takePart_39 ?_
  refine lv_aload_n hx hb dX2_takePart_40 rfl (lv_at hl 0 rfl) ?_
  refine lv_aload_n hx hb dX2_takePart_41 rfl (lv_at hl 1 rfl) ?_
  refine lv_iload_n hx hb dX2_takePart_42 rfl (lv_at hl 2 rfl) ?_
  refine xkRf (xV (As := [.ref o0, .int (nI bt)]) (rest := [.float (FP.i2f tk), .int (nI fz), .ref b5]) (wc := [(h0, .inr (2, [.int (nI fz), .int got, h0_replaced, .ref b3, .ref b4, .ref b5, .ref rq, .ref pq, .int (nI og), h0_wanted, h0_least])), (pq, .inl (cF, 40, .inr (.inr (.inl pric)))), (o0, .inr (8, [.ref go, .ref ba, o0_orders, o0_stages, o0_log, o0_settings, o0_rebate, o0_day])), (go, .inr (3, [go_size, .ref prq, go_life, go_listed, go_list])), (prq, .inl (cI, 12, .inl price)), (ba, .inr (0, [ba_size, .ref gq, ba_came, ba_left, ba_shelf, ba_sold, ba_given, ba_cents, ba_wasted])), (gq, .inl (cI, 40, .inl good))]) hx hb hml hown hts (c_X2_chargedPrice l dC dI cI cF cC cZ cQ cS h0 (.int (nI fz)) (.int got) h0_replaced (.ref b3) (.ref b4) (.ref b5) (.ref rq) pq h0_wanted h0_least pric o0 go ba o0_orders o0_stages o0_log o0_settings o0_rebate o0_day go_size prq go_life go_listed go_list price ba_size gq ba_came ba_left ba_shelf ba_sold ba_given ba_cents ba_wasted good og bt (by omega) hgb (by omega)) 2 gX2_takePart_X2_chargedPrice rfl rfl rfl hdV_X2_chargedPrice ⟨Nat.le_of_ble_eq_true rfl, Nat.le_of_ble_eq_true rfl⟩ hN hK hP hD [0, 5, 6, 7, 8, 9, 10] rfl rfl 2 0 rfl rfl rfl hl.1 rfl (Nat.le_of_ble_eq_true rfl) dX2_takePart_43 ⟨Nat.zero_le _, Nat.zero_le _⟩) (fun r_2 hr_2 => ?_)
  obtain rfl : r_2 = xcharge (price og) (price (good bt).toNatClampNeg) (pric bt) := hr_2
  refine lv_fmul hx hb dX2_takePart_46 hnn ?_
  refine lv_f2i hx hb dX2_takePart_47 ?_
  refine xr_iast hx hb hK hP hD hS 3 0 rfl rfl (i := fz) (by omega) (by decide) dX2_takePart_48 (fun H locs hP hD hS => ?_)
  have hP : va_P (dC, dI) vwCl [(h0, .inr (2, [.int (nI fz), .int got, h0_replaced, .ref b3, .ref b4, .ref b5, .ref rq, .ref pq, .int (nI og), h0_wanted, h0_least])), (b3, .inl (cI, 40, .inl (upd fb fz (nI bt)))), (b4, .inl (cI, 40, .inl (upd fu fz tk))), (b5, .inl (cI, 40, .inl (upd fc fz (FP.f2i (FP.fmul (FP.i2f tk) (xcharge (price og) (price (good bt).toNatClampNeg) (pric bt))))))), (rq, .inl (cI, 40, .inl rest)), (pq, .inl (cF, 40, .inr (.inr (.inl pric)))), (o0, .inr (8, [.ref go, .ref ba, o0_orders, o0_stages, o0_log, o0_settings, o0_rebate, o0_day])), (go, .inr (3, [go_size, .ref prq, go_life, go_listed, go_list])), (prq, .inl (cI, 12, .inl price)), (ba, .inr (0, [ba_size, .ref gq, ba_came, ba_left, ba_shelf, ba_sold, ba_given, ba_cents, ba_wasted])), (gq, .inl (cI, 40, .inl good))] H := hP
  have hD : va_D A [(h0, .inr (2, [.int (nI fz), .int got, h0_replaced, .ref b3, .ref b4, .ref b5, .ref rq, .ref pq, .int (nI og), h0_wanted, h0_least])), (b3, .inl (cI, 40, .inl (upd fb fz (nI bt)))), (b4, .inl (cI, 40, .inl (upd fu fz tk))), (b5, .inl (cI, 40, .inl (upd fc fz (FP.f2i (FP.fmul (FP.i2f tk) (xcharge (price og) (price (good bt).toNatClampNeg) (pric bt))))))), (rq, .inl (cI, 40, .inl rest)), (pq, .inl (cF, 40, .inr (.inr (.inl pric)))), (o0, .inr (8, [.ref go, .ref ba, o0_orders, o0_stages, o0_log, o0_settings, o0_rebate, o0_day])), (go, .inr (3, [go_size, .ref prq, go_life, go_listed, go_list])), (prq, .inl (cI, 12, .inl price)), (ba, .inr (0, [ba_size, .ref gq, ba_came, ba_left, ba_shelf, ba_sold, ba_given, ba_cents, ba_wasted])), (gq, .inl (cI, 40, .inl good))] := hD
  refine lv_aload_n hx hb dX2_takePart_49 rfl (lv_at hl 0 rfl) ?_
  refine lv_dup hx hb dX2_takePart_50 rfl ?_
  refine va_get (D := (dC, dI)) (ci := 2) (v := .int (nI fz)) (C := RX2) (T := TX2) (N := 11) hx hb hts i_X2 hown hK hP 0 rfl rfl 0 (by decide) k_28 (fun _ h9 => h9) rfl dX2_takePart_51 ?_
  refine lv_iconst (v := nI 1) hx hb dX2_takePart_54 (by decide) ?_
  refine xr_iadd_n hx hb dX2_takePart_55 ?_
  refine va_put (D := (dC, dI)) (ci := 2) (v := .int (nI (fz + 1))) (ty := .int) (C := RX2) (T := TX2) (N := 11) hx hb hts i_X2 tyX2 tyX2_ok nmX2 hown hK hP hD hS 0 rfl rfl 0 (by decide) k_28 (fun _ h9 => h9) rfl (by decide +kernel) rfl rfl (Nat.le_of_ble_eq_true rfl) dX2_takePart_56 (fun H locs hP hD hS => ?_)
  have hP : va_P (dC, dI) vwCl [(h0, .inr (2, [.int (nI (fz + 1)), .int got, h0_replaced, .ref b3, .ref b4, .ref b5, .ref rq, .ref pq, .int (nI og), h0_wanted, h0_least])), (b3, .inl (cI, 40, .inl (upd fb fz (nI bt)))), (b4, .inl (cI, 40, .inl (upd fu fz tk))), (b5, .inl (cI, 40, .inl (upd fc fz (FP.f2i (FP.fmul (FP.i2f tk) (xcharge (price og) (price (good bt).toNatClampNeg) (pric bt))))))), (rq, .inl (cI, 40, .inl rest)), (pq, .inl (cF, 40, .inr (.inr (.inl pric)))), (o0, .inr (8, [.ref go, .ref ba, o0_orders, o0_stages, o0_log, o0_settings, o0_rebate, o0_day])), (go, .inr (3, [go_size, .ref prq, go_life, go_listed, go_list])), (prq, .inl (cI, 12, .inl price)), (ba, .inr (0, [ba_size, .ref gq, ba_came, ba_left, ba_shelf, ba_sold, ba_given, ba_cents, ba_wasted])), (gq, .inl (cI, 40, .inl good))] H := hP
  have hD : va_D A [(h0, .inr (2, [.int (nI (fz + 1)), .int got, h0_replaced, .ref b3, .ref b4, .ref b5, .ref rq, .ref pq, .int (nI og), h0_wanted, h0_least])), (b3, .inl (cI, 40, .inl (upd fb fz (nI bt)))), (b4, .inl (cI, 40, .inl (upd fu fz tk))), (b5, .inl (cI, 40, .inl (upd fc fz (FP.f2i (FP.fmul (FP.i2f tk) (xcharge (price og) (price (good bt).toNatClampNeg) (pric bt))))))), (rq, .inl (cI, 40, .inl rest)), (pq, .inl (cF, 40, .inr (.inr (.inl pric)))), (o0, .inr (8, [.ref go, .ref ba, o0_orders, o0_stages, o0_log, o0_settings, o0_rebate, o0_day])), (go, .inr (3, [go_size, .ref prq, go_life, go_listed, go_list])), (prq, .inl (cI, 12, .inl price)), (ba, .inr (0, [ba_size, .ref gq, ba_came, ba_left, ba_shelf, ba_sold, ba_given, ba_cents, ba_wasted])), (gq, .inl (cI, 40, .inl good))] := hD
  refine lv_aload_n hx hb dX2_takePart_59 rfl (lv_at hl 0 rfl) ?_
  refine va_get (D := (dC, dI)) (ci := 2) (v := .ref rq) (C := RX2) (T := TX2) (N := 11) hx hb hts i_X2 hown hK hP 0 rfl rfl 6 (by decide) k_21 (fun _ h9 => h9) rfl dX2_takePart_60 ?_
  refine lv_iload_n hx hb dX2_takePart_63 rfl (lv_at hl 2 rfl) ?_
  refine lv_dup2_11 hx hb dX2_takePart_64 rfl rfl ?_
  refine xr_iald hx hb hK hP 4 0 rfl rfl (i := bt) (by omega) (by decide) dX2_takePart_65 ?_
  refine lv_iload_n hx hb dX2_takePart_66 rfl (lv_at hl 3 rfl) ?_
  refine lv_isub hx hb dX2_takePart_67 ?_
  refine xr_iast hx hb hK hP hD hS 4 0 rfl rfl (i := bt) (by omega) (by decide) dX2_takePart_68 (fun H locs hP hD hS => ?_)
  have hP : va_P (dC, dI) vwCl [(h0, .inr (2, [.int (nI (fz + 1)), .int got, h0_replaced, .ref b3, .ref b4, .ref b5, .ref rq, .ref pq, .int (nI og), h0_wanted, h0_least])), (b3, .inl (cI, 40, .inl (upd fb fz (nI bt)))), (b4, .inl (cI, 40, .inl (upd fu fz tk))), (b5, .inl (cI, 40, .inl (upd fc fz (FP.f2i (FP.fmul (FP.i2f tk) (xcharge (price og) (price (good bt).toNatClampNeg) (pric bt))))))), (rq, .inl (cI, 40, .inl (upd rest bt ((rest bt) - tk)))), (pq, .inl (cF, 40, .inr (.inr (.inl pric)))), (o0, .inr (8, [.ref go, .ref ba, o0_orders, o0_stages, o0_log, o0_settings, o0_rebate, o0_day])), (go, .inr (3, [go_size, .ref prq, go_life, go_listed, go_list])), (prq, .inl (cI, 12, .inl price)), (ba, .inr (0, [ba_size, .ref gq, ba_came, ba_left, ba_shelf, ba_sold, ba_given, ba_cents, ba_wasted])), (gq, .inl (cI, 40, .inl good))] H := hP
  have hD : va_D A [(h0, .inr (2, [.int (nI (fz + 1)), .int got, h0_replaced, .ref b3, .ref b4, .ref b5, .ref rq, .ref pq, .int (nI og), h0_wanted, h0_least])), (b3, .inl (cI, 40, .inl (upd fb fz (nI bt)))), (b4, .inl (cI, 40, .inl (upd fu fz tk))), (b5, .inl (cI, 40, .inl (upd fc fz (FP.f2i (FP.fmul (FP.i2f tk) (xcharge (price og) (price (good bt).toNatClampNeg) (pric bt))))))), (rq, .inl (cI, 40, .inl (upd rest bt ((rest bt) - tk)))), (pq, .inl (cF, 40, .inr (.inr (.inl pric)))), (o0, .inr (8, [.ref go, .ref ba, o0_orders, o0_stages, o0_log, o0_settings, o0_rebate, o0_day])), (go, .inr (3, [go_size, .ref prq, go_life, go_listed, go_list])), (prq, .inl (cI, 12, .inl price)), (ba, .inr (0, [ba_size, .ref gq, ba_came, ba_left, ba_shelf, ba_sold, ba_given, ba_cents, ba_wasted])), (gq, .inl (cI, 40, .inl good))] := hD
  refine lv_aload_n hx hb dX2_takePart_69 rfl (lv_at hl 0 rfl) ?_
  refine lv_dup hx hb dX2_takePart_70 rfl ?_
  refine va_get (D := (dC, dI)) (ci := 2) (v := .int got) (C := RX2) (T := TX2) (N := 11) hx hb hts i_X2 hown hK hP 0 rfl rfl 1 (by decide) k_32 (fun _ h9 => h9) rfl dX2_takePart_71 ?_
  refine lv_iload_n hx hb dX2_takePart_74 rfl (lv_at hl 3 rfl) ?_
  refine lv_iadd hx hb dX2_takePart_75 ?_
  refine va_put (D := (dC, dI)) (ci := 2) (v := .int (got + tk)) (ty := .int) (C := RX2) (T := TX2) (N := 11) hx hb hts i_X2 tyX2 tyX2_ok nmX2 hown hK hP hD hS 0 rfl rfl 1 (by decide) k_32 (fun _ h9 => h9) rfl (by decide +kernel) rfl rfl (Nat.le_of_ble_eq_true rfl) dX2_takePart_76 (fun H locs hP hD hS => ?_)
  have hP : va_P (dC, dI) vwCl [(h0, .inr (2, [.int (nI (fz + 1)), .int (got + tk), h0_replaced, .ref b3, .ref b4, .ref b5, .ref rq, .ref pq, .int (nI og), h0_wanted, h0_least])), (b3, .inl (cI, 40, .inl (upd fb fz (nI bt)))), (b4, .inl (cI, 40, .inl (upd fu fz tk))), (b5, .inl (cI, 40, .inl (upd fc fz (FP.f2i (FP.fmul (FP.i2f tk) (xcharge (price og) (price (good bt).toNatClampNeg) (pric bt))))))), (rq, .inl (cI, 40, .inl (upd rest bt ((rest bt) - tk)))), (pq, .inl (cF, 40, .inr (.inr (.inl pric)))), (o0, .inr (8, [.ref go, .ref ba, o0_orders, o0_stages, o0_log, o0_settings, o0_rebate, o0_day])), (go, .inr (3, [go_size, .ref prq, go_life, go_listed, go_list])), (prq, .inl (cI, 12, .inl price)), (ba, .inr (0, [ba_size, .ref gq, ba_came, ba_left, ba_shelf, ba_sold, ba_given, ba_cents, ba_wasted])), (gq, .inl (cI, 40, .inl good))] H := hP
  have hD : va_D A [(h0, .inr (2, [.int (nI (fz + 1)), .int (got + tk), h0_replaced, .ref b3, .ref b4, .ref b5, .ref rq, .ref pq, .int (nI og), h0_wanted, h0_least])), (b3, .inl (cI, 40, .inl (upd fb fz (nI bt)))), (b4, .inl (cI, 40, .inl (upd fu fz tk))), (b5, .inl (cI, 40, .inl (upd fc fz (FP.f2i (FP.fmul (FP.i2f tk) (xcharge (price og) (price (good bt).toNatClampNeg) (pric bt))))))), (rq, .inl (cI, 40, .inl (upd rest bt ((rest bt) - tk)))), (pq, .inl (cF, 40, .inr (.inr (.inl pric)))), (o0, .inr (8, [.ref go, .ref ba, o0_orders, o0_stages, o0_log, o0_settings, o0_rebate, o0_day])), (go, .inr (3, [go_size, .ref prq, go_life, go_listed, go_list])), (prq, .inl (cI, 12, .inl price)), (ba, .inr (0, [ba_size, .ref gq, ba_came, ba_left, ba_shelf, ba_sold, ba_given, ba_cents, ba_wasted])), (gq, .inl (cI, 40, .inl good))] := hD
  have hP9 : va_P (dC, dI) vwCl [(h0, .inr (2, [.int (nI (fz + 1)), .int (got + tk), h0_replaced, .ref b3, .ref b4, .ref b5, .ref rq, .ref pq, .int (nI og), h0_wanted, h0_least])), (b3, .inl (cI, 40, .inl (upd fb fz (nI bt)))), (b4, .inl (cI, 40, .inl (upd fu fz tk))), (b5, .inl (cI, 40, .inl (upd fc fz (FP.f2i (FP.fmul (FP.i2f tk) (xcharge (price og) (price (good bt).toNatClampNeg) (pric bt))))))), (rq, .inl (cI, 40, .inl (upd rest bt (rest bt - tk)))), (pq, .inl (cF, 40, .inr (.inr (.inl pric)))), (o0, .inr (8, [.ref go, .ref ba, o0_orders, o0_stages, o0_log, o0_settings, o0_rebate, o0_day])), (go, .inr (3, [go_size, .ref prq, go_life, go_listed, go_list])), (prq, .inl (cI, 12, .inl price)), (ba, .inr (0, [ba_size, .ref gq, ba_came, ba_left, ba_shelf, ba_sold, ba_given, ba_cents, ba_wasted])), (gq, .inl (cI, 40, .inl good))] H := hP
  have hS9 : va_S (va_B [(h0, .inr (2, [.int (nI fz), .int got, h0_replaced, .ref b3, .ref b4, .ref b5, .ref rq, .ref pq, .int (nI og), h0_wanted, h0_least])), (b3, .inl (cI, 40, .inl fb)), (b4, .inl (cI, 40, .inl fu)), (b5, .inl (cI, 40, .inl fc)), (rq, .inl (cI, 40, .inl rest)), (pq, .inl (cF, 40, .inr (.inr (.inl pric)))), (o0, .inr (8, [.ref go, .ref ba, o0_orders, o0_stages, o0_log, o0_settings, o0_rebate, o0_day])), (go, .inr (3, [go_size, .ref prq, go_life, go_listed, go_list])), (prq, .inl (cI, 12, .inl price)), (ba, .inr (0, [ba_size, .ref gq, ba_came, ba_left, ba_shelf, ba_sold, ba_given, ba_cents, ba_wasted])), (gq, .inl (cI, 40, .inl good))]) s.heap H locs := by rw [← hA]; exact hS
  exact W.vret hx hb hr (fun t ht hW => ⟨⟨_, rfl, rfl, by rw [ht]; exact hP9⟩, hS9.X ht⟩) hS9.2.2 dX2_takePart_79
theorem hdV_X2_due : yX2_due.cls = RX2 ∧ yX2_due.cls ≠ "java/lang/invoke/MethodHandle" ∧ yX2_due.cls ≠ "java/lang/invoke/VarHandle" ∧ (parseMethodDescriptor yX2_due.desc).map (fun d => d.parameters.length) = some 1 := by decide +kernel
set_option maxHeartbeats 4000000 in
set_option maxRecDepth 100000 in
theorem c_X2_due (l : Launch) (dC : Nat → ClassId) (dI : Nat → Nat → Nat) (cI cF cC cZ cQ cS : ClassId) (h0 : Nat) (h0_got : Value) (h0_replaced : Value) (h0_batch : Value) (h0_units : Value) (b5 : Nat) (h0_rest : Value) (h0_price : Value) (h0_orderedGood : Value) (h0_wanted : Value) (h0_least : Value) (fc : Nat → Int32) (fz : Nat) (rb : UInt32) (hfz : fz ≤ 40) (hrb : xrb rb) : Met l yX2_due wsX2_due ({ frames := 0, cells := 0, slots := 0, locals := 0 }) (xPre (dC, dI) vwCl [.ref h0, .float rb] (xtys cI cF cC cZ cQ cS) [(h0, .inr (2, [.int (nI fz), h0_got, h0_replaced, h0_batch, h0_units, .ref b5, h0_rest, h0_price, h0_orderedGood, h0_wanted, h0_least])), (b5, .inl (cI, 40, .inl fc))]) (vp_Si (fun r0 => r0 = xdue (xsum fc fz) rb)) 0 0 (fun _ => False) := by
  refine Met.ofW (cc := cX2_due) (maxL := 4) (ret := (some .int)) (by decide) rfl ?_
  intro p e s m args below meth c s₁ B hml hv
  obtain ⟨rfl, hP, hK, hD0, hN⟩ := hv
  have hx := B.exec
  have hb := B.bytes
  have hr := B.returns
  have hts := atoms_spec (ws := wsX2_due) B.pre
  have hown : s.vm.findClass RX2 = some m.cls := findClass_of_methodNamed B.named
  have hlocks := B.notSynchronized
  have k_18 := hts (Cond.fieldLink RX2 18 "ShelfStages$Filling" "cents" "[I") (by decide +kernel)
  have k_28 := hts (Cond.fieldLink RX2 28 "ShelfStages$Filling" "size" "I") (by decide +kernel)
  have kf_84 := hts (Cond.constantFloat RX2 84 (1120403456)) (by decide +kernel)
  have i_X2 : ∀ w ∈ wsX20, w ∈ wsX2_due := by decide +kernel
  have hD := hD0
  have hl := lv_entry ([.ref h0, .float rb]) (n := 4) (Nat.le_of_ble_eq_true rfl)
  rw [lg_entry_eq]
  generalize (lg_sl ([.ref h0, .float rb]) ++ List.replicate (4 - (lg_sl ([.ref h0, .float rb])).length) Slot.unset).toArray = ls at hl ⊢
  have hl : lv_has ls 4 [(0, .ref h0), (1, .float rb)] := hl
  refine lv_iconst (v := nI 0) hx hb dX2_due_0 (by decide) ?_
  refine lv_istore_n (lv' := [(2, .int (nI 0)), (0, .ref h0), (1, .float rb)]) hx hb dX2_due_1 rfl hl (by decide) rfl (fun ls hl => ?_)
  refine lv_iconst (v := nI 0) hx hb dX2_due_2 (by decide) ?_
  refine lv_istore_n (lv' := [(3, .int (nI 0)), (2, .int (nI 0)), (0, .ref h0), (1, .float rb)]) hx hb dX2_due_3 rfl hl (by decide) rfl (fun ls hl => ?_)
  refine xr_loop (J := Nat) (fun n0 H locs g => ∃ (k : Nat) (acc : Int32) (ls : Array Slot), H = s.heap ∧ locs = [] ∧ n0 = fz - k ∧ g = F0 m 4 ls [] ∧ lv_has ls 4 [(3, .int (nI k)), (2, .int acc), (0, .ref h0), (1, .float rb)] ∧ (k ≤ fz) ∧ (acc = xsum fc k)) (fun n => n) ?_ (fz - 0) (g := F0 m 4 ls []) ⟨0, (nI 0), ls, rfl, rfl, rfl, rfl, lv_sub hl [0, 1, 2, 3] rfl, (Nat.zero_le _), rfl⟩
  intro n0 ih_4 H locs g hp
  obtain ⟨k, acc, ls, rfl, rfl, rfl, rfl, hl, hk, hac⟩ := hp
  refine lv_iload_n hx hb dX2_due_4 rfl (lv_at hl 0 rfl) ?_
  refine lv_aload_n hx hb dX2_due_5 rfl (lv_at hl 2 rfl) ?_
  refine va_get (D := (dC, dI)) (ci := 2) (v := .int (nI fz)) (C := RX2) (T := TX2) (N := 11) hx hb hts i_X2 hown hK hP 0 rfl rfl 0 (by decide) k_28 (fun _ h9 => h9) rfl dX2_due_6 ?_
  refine xr_ge_n (tgt := 27) hx hb (by omega) (by omega) dX2_due_9 (by decide) (fun c_1 => ?_) (fun c_1 => ?_)
  · skip
    refine lv_iload_n hx hb dX2_due_27 rfl (lv_at hl 1 rfl) ?_
    refine lv_iload_n hx hb dX2_due_28 rfl (lv_at hl 1 rfl) ?_
    refine lv_i2f hx hb dX2_due_29 ?_
    refine lv_fload_n hx hb dX2_due_30 rfl (lv_at hl 3 rfl) ?_
    refine lv_fmul hx hb dX2_due_31 (hrb _).1 ?_
    refine lv_ldcf hx hb hown kf_84 dX2_due_32 ?_
    refine lv_fdiv hx hb dX2_due_34 (hrb _).2 ?_
    refine lv_f2i hx hb dX2_due_35 ?_
    refine lv_isub hx hb dX2_due_36 ?_
    exact W.iret (v := acc - (FP.f2i (FP.fdiv (FP.fmul (FP.i2f acc) rb) 1120403456))) hx hb hr (fun t ht hW => ⟨_, rfl, (show acc - (FP.f2i (FP.fdiv (FP.fmul (FP.i2f acc) rb) 1120403456)) = xdue (xsum fc fz) rb from (by rw [hac, show k = fz from by omega]; rfl)), ht⟩) (fun q h => by cases h) dX2_due_37
  refine lv_iload_n hx hb dX2_due_12 rfl (lv_at hl 1 rfl) ?_
  refine lv_aload_n hx hb dX2_due_13 rfl (lv_at hl 2 rfl) ?_
  refine va_get (D := (dC, dI)) (ci := 2) (v := .ref b5) (C := RX2) (T := TX2) (N := 11) hx hb hts i_X2 hown hK hP 0 rfl rfl 5 (by decide) k_18 (fun _ h9 => h9) rfl dX2_due_14 ?_
  refine lv_iload_n hx hb dX2_due_17 rfl (lv_at hl 0 rfl) ?_
  refine xr_iald hx hb hK hP 1 0 rfl rfl (i := k) (by omega) (by decide) dX2_due_18 ?_
  refine lv_iadd hx hb dX2_due_19 ?_
  refine lv_istore_n (lv' := [(2, .int (acc + (fc k))), (3, .int (nI k)), (0, .ref h0), (1, .float rb)]) hx hb dX2_due_20 rfl hl (by decide) rfl (fun ls hl => ?_)
  refine lv_iinc (v := nI (k + 1)) (lv' := [(3, .int (nI (k + 1))), (2, .int (acc + (fc k))), (0, .ref h0), (1, .float rb)]) hx hb dX2_due_21 hl (k := 1) rfl (nI_inc1 k) (by decide) rfl (fun ls hl => ?_)
  refine lv_goto (tgt := 4) hx hb dX2_due_24 (by decide) ?_
  exact ih_4 (fz - (k + 1)) _ _ _ (show fz - (k + 1) < fz - k from by omega) ⟨(k + 1), (acc + (fc k)), ls, rfl, rfl, rfl, rfl, lv_sub hl [0, 1, 2, 3] rfl, (by omega), (by rw [hac]; rfl)⟩
