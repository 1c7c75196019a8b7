theorem hdV_X9_takes : yX9_takes.cls = RX9 ∧ yX9_takes.cls ≠ "java/lang/invoke/MethodHandle" ∧ yX9_takes.cls ≠ "java/lang/invoke/VarHandle" ∧ (parseMethodDescriptor yX9_takes.desc).map (fun d => d.parameters.length) = some 3 := by decide +kernel
set_option maxHeartbeats 4000000 in
set_option maxRecDepth 100000 in
theorem c_X9_takes (l : Launch) (dC : Nat → ClassId) (dI : Nat → Nat → Nat) (cI cF cC cZ cQ cS : ClassId) (x0 : Nat) (o0 : Nat) (x0_snapshot : Value) (x0_trial : Value) (x0_history : Value) (x0_filling : Value) (x0_delivery : Value) (x0_text : Value) (x0_textLength : Value) (x0_hasSnapshot : Value) (o1 : Nat) (o6 : Nat) (o0_orders : Value) (o0_stages : Value) (o0_log : Value) (o0_settings : Value) (o0_rebate : Value) (o0_day : Value) (gz : Nat) (o1_price : Value) (o1_life : Value) (o1_listed : Value) (o1_list : Value) (bz : Nat) (o6_good : Value) (o6_came : Value) (o6_left : Value) (o6_shelf : Value) (o6_sold : Value) (o6_given : Value) (o6_cents : Value) (o6_wasted : Value) (so : Int32) (ib : Int32) (nu : Int32) (hgz : gz ≤ 12) (hbz : bz ≤ 40) : Met l yX9_takes wsX9_takes ({ frames := 2, cells := 0, slots := 0, locals := 43 }) (xPre (dC, dI) vwCl [.ref x0, .int so, .int ib, .int nu] (xtys cI cF cC cZ cQ cS) [(x0, .inr (9, [.ref o0, x0_snapshot, x0_trial, x0_history, x0_filling, x0_delivery, x0_text, x0_textLength, x0_hasSnapshot])), (o0, .inr (8, [.ref o1, .ref o6, o0_orders, o0_stages, o0_log, o0_settings, o0_rebate, o0_day])), (o1, .inr (3, [.int (nI gz), o1_price, o1_life, o1_listed, o1_list])), (o6, .inr (0, [.int (nI bz), o6_good, o6_came, o6_left, o6_shelf, o6_sold, o6_given, o6_cents, o6_wasted]))]) (vp_Si (fun r0 => r0 = tTakes so ib nu gz bz)) 0 0 (fun _ => False) := by
  refine Met.ofW (cc := cX9_takes) (maxL := 5) (ret := (some .int)) (by decide) rfl ?_
  intro p e s m args below meth c s₁ B hml hv
  obtain ⟨rfl, hP, hK, hD0, hN⟩ := hv
  have hx := B.exec
  have hb := B.bytes
  have hr := B.returns
  have hts := atoms_spec (ws := wsX9_takes) B.pre
  have hown : s.vm.findClass RX9 = some m.cls := findClass_of_methodNamed B.named
  have hlocks := B.notSynchronized
  have hD := hD0
  have hl := lv_entry ([.ref x0, .int so, .int ib, .int nu]) (n := 5) (Nat.le_of_ble_eq_true rfl)
  rw [lg_entry_eq]
  generalize (lg_sl ([.ref x0, .int so, .int ib, .int nu]) ++ List.replicate (5 - (lg_sl ([.ref x0, .int so, .int ib, .int nu])).length) Slot.unset).toArray = ls at hl ⊢
  have hl : lv_has ls 5 [(0, .ref x0), (1, .int so), (2, .int ib), (3, .int nu)] := hl
  refine lv_iload_n hx hb dX9_takes_0 rfl (lv_at hl 2 rfl) ?_
  refine lv_if_eq (tgt := 15) hx hb dX9_takes_1 (by decide) (fun c_1 => ?_) (fun c_1 => ?_)
  · skip
    refine lv_aload_n hx hb dX9_takes_15 rfl (lv_at hl 0 rfl) ?_
    refine lv_iload_n hx hb dX9_takes_16 rfl (lv_at hl 3 rfl) ?_
    refine xkRi (xV (As := [.int nu]) (rest := []) (wc := [(x0, .inr (9, [.ref o0, x0_snapshot, x0_trial, x0_history, x0_filling, x0_delivery, x0_text, x0_textLength, x0_hasSnapshot])), (o0, .inr (8, [.ref o1, .ref o6, o0_orders, o0_stages, o0_log, o0_settings, o0_rebate, o0_day])), (o1, .inr (3, [.int (nI gz), o1_price, o1_life, o1_listed, o1_list]))]) hx hb hml hown hts (c_X9_hasGood l dC dI cI cF cC cZ cQ cS x0 o0 x0_snapshot x0_trial x0_history x0_filling x0_delivery x0_text x0_textLength x0_hasSnapshot o1 (.ref o6) o0_orders o0_stages o0_log o0_settings o0_rebate o0_day gz o1_price o1_life o1_listed o1_list nu (by omega)) 1 gX9_takes_X9_hasGood rfl rfl rfl hdV_X9_hasGood ⟨Nat.le_of_ble_eq_true rfl, Nat.le_of_ble_eq_true rfl⟩ hN hK hP hD [0, 1, 2] rfl rfl 9 0 rfl rfl rfl hl.1 rfl (Nat.le_of_ble_eq_true rfl) dX9_takes_17 ⟨Nat.zero_le _, Nat.zero_le _⟩) (fun r_2 hr_2 => ?_)
    have hr_2 : r_2 = (if xhas nu gz then nI 1 else nI 0) := hr_2
    rcases xi_ite inferInstance hr_2 with ⟨c_3, hr_2⟩ | ⟨c_3, hr_2⟩
    · subst hr_2
      refine xr_ifn1 (tgt := 25) hx hb (by decide) dX9_takes_20 (by decide) ?_
      refine lv_iload_n hx hb dX9_takes_25 rfl (lv_at hl 1 rfl) ?_
      refine lv_iconst (v := nI 0) hx hb dX9_takes_26 (by decide) ?_
      refine lv_iconst (v := nI 1) hx hb dX9_takes_27 (by decide) ?_
      refine xkRi (xSs (Ws' := ([] : List Cond)) (As := [.int so, .int (nI 0), .int (nI 1)]) (rest := []) (wc := []) hx hb hml hown hts (c_X9_within l dC dI cI cF cC cZ cQ cS so (nI 0) (nI 1)) 3 (fun hR => va_cwS 3 hts gX9_takes_X9_within rfl rfl rfl hdN_X9_within hR) ⟨Nat.le_of_ble_eq_true rfl, Nat.le_of_ble_eq_true rfl⟩ hN hK hP hD [] rfl rfl rfl hl.1 rfl (Nat.le_of_ble_eq_true rfl) dX9_takes_28 ⟨Nat.zero_le _, Nat.zero_le _⟩) (fun r_4 hr_4 => ?_)
      have hr_4 : r_4 = (if (nI 0) ≤ so ∧ so ≤ (nI 1) then nI 1 else nI 0) := hr_4
      rcases xi_ite inferInstance hr_4 with ⟨c_5, hr_4⟩ | ⟨c_5, hr_4⟩
      · subst hr_4
        refine xr_ifn1 (tgt := 37) hx hb (by decide) dX9_takes_31 (by decide) ?_
        refine lv_iload_n hx hb dX9_takes_37 rfl (lv_at hl 1 rfl) ?_
        refine lv_iconst (v := nI 1) hx hb dX9_takes_38 (by decide) ?_
        refine lv_icmp_ne (tgt := 46) hx hb dX9_takes_39 (by decide) (fun c_6 => ?_) (fun c_6 => ?_)
        · skip
          refine lv_iconst (v := nI 0) hx hb dX9_takes_46 (by decide) ?_
          refine lv_istore (lv' := [(4, .int (nI 0)), (0, .ref x0), (1, .int so), (2, .int ib), (3, .int nu)]) hx hb dX9_takes_47 hl (by decide) rfl (fun ls hl => ?_)
          refine lv_iload hx hb dX9_takes_49 (lv_at hl 0 rfl) ?_
          refine lv_iload_n hx hb dX9_takes_51 rfl (lv_at hl 3 rfl) ?_
          refine lv_icmp_ne (tgt := 59) hx hb dX9_takes_52 (by decide) (fun c_7 => ?_) (fun c_7 => ?_)
          · skip
            refine lv_iconst (v := nI 0) hx hb dX9_takes_59 (by decide) ?_
            exact W.iret (v := nI 0) hx hb hr (fun t ht hW => ⟨_, rfl, (show nI 0 = tTakes so ib nu gz bz from (by unfold tTakes; rw [if_neg (fun z9 => z9.elim (fun z9 => (fun z9 => z9 c_3) z9.2) (fun z9 => (fun z9 => z9 c_1) z9.1)), if_neg (fun z9 => z9 c_5), if_neg (fun z9 => z9.elim (fun z9 => c_6 z9.1) (fun z9 => c_7 z9.2))])), ht⟩) (fun q h => by cases h) dX9_takes_60
          refine lv_iconst (v := nI 1) hx hb dX9_takes_55 (by decide) ?_
          refine lv_goto (tgt := 60) hx hb dX9_takes_56 (by decide) ?_
          exact W.iret (v := nI 1) hx hb hr (fun t ht hW => ⟨_, rfl, (show nI 1 = tTakes so ib nu gz bz from (by unfold tTakes; rw [if_neg (fun z9 => z9.elim (fun z9 => (fun z9 => z9 c_3) z9.2) (fun z9 => (fun z9 => z9 c_1) z9.1)), if_neg (fun z9 => z9 c_5), if_pos (Or.inr ⟨c_6, c_7⟩)])), ht⟩) (fun q h => by cases h) dX9_takes_60
        refine lv_iconst (v := nI 1) hx hb dX9_takes_42 (by decide) ?_
        refine lv_goto (tgt := 47) hx hb dX9_takes_43 (by decide) ?_
        refine lv_istore (lv' := [(4, .int (nI 1)), (0, .ref x0), (1, .int so), (2, .int ib), (3, .int nu)]) hx hb dX9_takes_47 hl (by decide) rfl (fun ls hl => ?_)
        refine lv_iload hx hb dX9_takes_49 (lv_at hl 0 rfl) ?_
        refine lv_iload_n hx hb dX9_takes_51 rfl (lv_at hl 3 rfl) ?_
        refine lv_icmp_ne (tgt := 59) hx hb dX9_takes_52 (by decide) (fun c_8 => ?_) (fun c_8 => ?_)
        · skip
          refine lv_iconst (v := nI 0) hx hb dX9_takes_59 (by decide) ?_
          exact W.iret (v := nI 0) hx hb hr (fun t ht hW => ⟨_, rfl, (show nI 0 = tTakes so ib nu gz bz from (by unfold tTakes; rw [if_neg (fun z9 => z9.elim (fun z9 => (fun z9 => z9 c_3) z9.2) (fun z9 => (fun z9 => z9 c_1) z9.1)), if_neg (fun z9 => z9 c_5), if_neg (fun z9 => z9.elim (fun z9 => c_8 z9.2) (fun z9 => (fun z9 => z9 c_6) z9.1))])), ht⟩) (fun q h => by cases h) dX9_takes_60
        refine lv_iconst (v := nI 1) hx hb dX9_takes_55 (by decide) ?_
        refine lv_goto (tgt := 60) hx hb dX9_takes_56 (by decide) ?_
        exact W.iret (v := nI 1) hx hb hr (fun t ht hW => ⟨_, rfl, (show nI 1 = tTakes so ib nu gz bz from (by unfold tTakes; rw [if_neg (fun z9 => z9.elim (fun z9 => (fun z9 => z9 c_3) z9.2) (fun z9 => (fun z9 => z9 c_1) z9.1)), if_neg (fun z9 => z9 c_5), if_pos (Or.inl ⟨c_6, c_8⟩)])), ht⟩) (fun q h => by cases h) dX9_takes_60
      subst hr_4
      refine xr_ifn0 (tgt := 37) hx hb (by decide) dX9_takes_31 (by decide) ?_
      refine lv_bipush (v := (-2)) hx hb dX9_takes_34 (by decide) ?_
      exact W.iret (v := (-2)) hx hb hr (fun t ht hW => ⟨_, rfl, (show (-2) = tTakes so ib nu gz bz from (by unfold tTakes; rw [if_neg (fun z9 => z9.elim (fun z9 => (fun z9 => z9 c_3) z9.2) (fun z9 => (fun z9 => z9 c_1) z9.1)), if_pos c_5])), ht⟩) (fun q h => by cases h) dX9_takes_36
    subst hr_2
    refine xr_ifn0 (tgt := 25) hx hb (by decide) dX9_takes_20 (by decide) ?_
    refine lv_iconst (v := (-1)) hx hb dX9_takes_23 (by decide) ?_
    exact W.iret (v := (-1)) hx hb hr (fun t ht hW => ⟨_, rfl, (show (-1) = tTakes so ib nu gz bz from (by unfold tTakes; rw [if_pos (Or.inl ⟨c_1, c_3⟩)])), ht⟩) (fun q h => by cases h) dX9_takes_24
  refine lv_aload_n hx hb dX9_takes_4 rfl (lv_at hl 0 rfl) ?_
  refine lv_iload_n hx hb dX9_takes_5 rfl (lv_at hl 3 rfl) ?_
  refine xkRi (xV (As := [.int nu]) (rest := []) (wc := [(x0, .inr (9, [.ref o0, x0_snapshot, x0_trial, x0_history, x0_filling, x0_delivery, x0_text, x0_textLength, x0_hasSnapshot])), (o0, .inr (8, [.ref o1, .ref o6, o0_orders, o0_stages, o0_log, o0_settings, o0_rebate, o0_day])), (o6, .inr (0, [.int (nI bz), o6_good, o6_came, o6_left, o6_shelf, o6_sold, o6_given, o6_cents, o6_wasted]))]) hx hb hml hown hts (c_X9_hasBatch l dC dI cI cF cC cZ cQ cS x0 o0 x0_snapshot x0_trial x0_history x0_filling x0_delivery x0_text x0_textLength x0_hasSnapshot (.ref o1) o6 o0_orders o0_stages o0_log o0_settings o0_rebate o0_day bz o6_good o6_came o6_left o6_shelf o6_sold o6_given o6_cents o6_wasted nu (by omega)) 1 gX9_takes_X9_hasBatch rfl rfl rfl hdV_X9_hasBatch ⟨Nat.le_of_ble_eq_true rfl, Nat.le_of_ble_eq_true rfl⟩ hN hK hP hD [0, 1, 3] rfl rfl 9 0 rfl rfl rfl hl.1 rfl (Nat.le_of_ble_eq_true rfl) dX9_takes_6 ⟨Nat.zero_le _, Nat.zero_le _⟩) (fun r_9 hr_9 => ?_)
  have hr_9 : r_9 = (if xhas nu bz then nI 1 else nI 0) := hr_9
  rcases xi_ite inferInstance hr_9 with ⟨c_10, hr_9⟩ | ⟨c_10, hr_9⟩
  · subst hr_9
    refine xr_ifn1 (tgt := 25) hx hb (by decide) dX9_takes_9 (by decide) ?_
    refine lv_iload_n hx hb dX9_takes_25 rfl (lv_at hl 1 rfl) ?_
    refine lv_iconst (v := nI 0) hx hb dX9_takes_26 (by decide) ?_
    refine lv_iconst (v := nI 1) hx hb dX9_takes_27 (by decide) ?_
    refine xkRi (xSs (Ws' := ([] : List Cond)) (As := [.int so, .int (nI 0), .int (nI 1)]) (rest := []) (wc := []) hx hb hml hown hts (c_X9_within l dC dI cI cF cC cZ cQ cS so (nI 0) (nI 1)) 3 (fun hR => va_cwS 3 hts gX9_takes_X9_within rfl rfl rfl hdN_X9_within hR) ⟨Nat.le_of_ble_eq_true rfl, Nat.le_of_ble_eq_true rfl⟩ hN hK hP hD [] rfl rfl rfl hl.1 rfl (Nat.le_of_ble_eq_true rfl) dX9_takes_28 ⟨Nat.zero_le _, Nat.zero_le _⟩) (fun r_11 hr_11 => ?_)
    have hr_11 : r_11 = (if (nI 0) ≤ so ∧ so ≤ (nI 1) then nI 1 else nI 0) := hr_11
    rcases xi_ite inferInstance hr_11 with ⟨c_12, hr_11⟩ | ⟨c_12, hr_11⟩
    · subst hr_11
      refine xr_ifn1 (tgt := 37) hx hb (by decide) dX9_takes_31 (by decide) ?_
      refine lv_iload_n hx hb dX9_takes_37 rfl (lv_at hl 1 rfl) ?_
      refine lv_iconst (v := nI 1) hx hb dX9_takes_38 (by decide) ?_
      refine lv_icmp_ne (tgt := 46) hx hb dX9_takes_39 (by decide) (fun c_13 => ?_) (fun c_13 => ?_)
      · skip
        refine lv_iconst (v := nI 0) hx hb dX9_takes_46 (by decide) ?_
        refine lv_istore (lv' := [(4, .int (nI 0)), (0, .ref x0), (1, .int so), (2, .int ib), (3, .int nu)]) hx hb dX9_takes_47 hl (by decide) rfl (fun ls hl => ?_)
        refine lv_iload hx hb dX9_takes_49 (lv_at hl 0 rfl) ?_
        refine lv_iload_n hx hb dX9_takes_51 rfl (lv_at hl 3 rfl) ?_
        refine lv_icmp_ne (tgt := 59) hx hb dX9_takes_52 (by decide) (fun c_14 => ?_) (fun c_14 => ?_)
        · skip
          refine lv_iconst (v := nI 0) hx hb dX9_takes_59 (by decide) ?_
          exact W.iret (v := nI 0) hx hb hr (fun t ht hW => ⟨_, rfl, (show nI 0 = tTakes so ib nu gz bz from (by unfold tTakes; rw [if_neg (fun z9 => z9.elim (fun z9 => c_1 z9.1) (fun z9 => (fun z9 => z9 c_10) z9.2)), if_neg (fun z9 => z9 c_12), if_neg (fun z9 => z9.elim (fun z9 => c_13 z9.1) (fun z9 => c_14 z9.2))])), ht⟩) (fun q h => by cases h) dX9_takes_60
        refine lv_iconst (v := nI 1) hx hb dX9_takes_55 (by decide) ?_
        refine lv_goto (tgt := 60) hx hb dX9_takes_56 (by decide) ?_
        exact W.iret (v := nI 1) hx hb hr (fun t ht hW => ⟨_, rfl, (show nI 1 = tTakes so ib nu gz bz from (by unfold tTakes; rw [if_neg (fun z9 => z9.elim (fun z9 => c_1 z9.1) (fun z9 => (fun z9 => z9 c_10) z9.2)), if_neg (fun z9 => z9 c_12), if_pos (Or.inr ⟨c_13, c_14⟩)])), ht⟩) (fun q h => by cases h) dX9_takes_60
      refine lv_iconst (v := nI 1) hx hb dX9_takes_42 (by decide) ?_
      refine lv_goto (tgt := 47) hx hb dX9_takes_43 (by decide) ?_
      refine lv_istore (lv' := [(4, .int (nI 1)), (0, .ref x0), (1, .int so), (2, .int ib), (3, .int nu)]) hx hb dX9_takes_47 hl (by decide) rfl (fun ls hl => ?_)
      refine lv_iload hx hb dX9_takes_49 (lv_at hl 0 rfl) ?_
      refine lv_iload_n hx hb dX9_takes_51 rfl (lv_at hl 3 rfl) ?_
      refine lv_icmp_ne (tgt := 59) hx hb dX9_takes_52 (by decide) (fun c_15 => ?_) (fun c_15 => ?_)
      · skip
        refine lv_iconst (v := nI 0) hx hb dX9_takes_59 (by decide) ?_
        exact W.iret (v := nI 0) hx hb hr (fun t ht hW => ⟨_, rfl, (show nI 0 = tTakes so ib nu gz bz from (by unfold tTakes; rw [if_neg (fun z9 => z9.elim (fun z9 => c_1 z9.1) (fun z9 => (fun z9 => z9 c_10) z9.2)), if_neg (fun z9 => z9 c_12), if_neg (fun z9 => z9.elim (fun z9 => c_15 z9.2) (fun z9 => (fun z9 => z9 c_13) z9.1))])), ht⟩) (fun q h => by cases h) dX9_takes_60
      refine lv_iconst (v := nI 1) hx hb dX9_takes_55 (by decide) ?_
      refine lv_goto (tgt := 60) hx hb dX9_takes_56 (by decide) ?_
      exact W.iret (v := nI 1) hx hb hr (fun t ht hW => ⟨_, rfl, (show nI 1 = tTakes so ib nu gz bz from (by unfold tTakes; rw [if_neg (fun z9 => z9.elim (fun z9 => c_1 z9.1) (fun z9 => (fun z9 => z9 c_10) z9.2)), if_neg (fun z9 => z9 c_12), if_pos (Or.inl ⟨c_13, c_15⟩)])), ht⟩) (fun q h => by cases h) dX9_takes_60
    subst hr_11
    refine xr_ifn0 (tgt := 37) hx hb (by decide) dX9_takes_31 (by decide) ?_
    refine lv_bipush (v := (-2)) hx hb dX9_takes_34 (by decide) ?_
    exact W.iret (v := (-2)) hx hb hr (fun t ht hW => ⟨_, rfl, (show (-2) = tTakes so ib nu gz bz from (by unfold tTakes; rw [if_neg (fun z9 => z9.elim (fun z9 => c_1 z9.1) (fun z9 => (fun z9 => z9 c_10) z9.2)), if_pos c_12])), ht⟩) (fun q h => by cases h) dX9_takes_36
  subst hr_9
  refine xr_ifn0 (tgt := 25) hx hb (by decide) dX9_takes_9 (by decide) ?_
  refine lv_goto (tgt := 23) hx hb dX9_takes_12 (by decide) ?_
  refine lv_iconst (v := (-1)) hx hb dX9_takes_23 (by decide) ?_
  exact W.iret (v := (-1)) hx hb hr (fun t ht hW => ⟨_, rfl, (show (-1) = tTakes so ib nu gz bz from (by unfold tTakes; rw [if_pos (Or.inr ⟨c_1, c_10⟩)])), ht⟩) (fun q h => by cases h) dX9_takes_24
theorem hdV_X10_takes : yX10_takes.cls = RX10 ∧ yX10_takes.cls ≠ "java/lang/invoke/MethodHandle" ∧ yX10_takes.cls ≠ "java/lang/invoke/VarHandle" ∧ (parseMethodDescriptor yX10_takes.desc).map (fun d => d.parameters.length) = some 3 := by decide +kernel
set_option maxHeartbeats 4000000 in
set_option maxRecDepth 100000 in
theorem c_X10_takes (l : Launch) (dC : Nat → ClassId) (dI : Nat → Nat → Nat) (cI cF cC cZ cQ cS : ClassId) (h0 : Nat) (zq : Nat) (h0_past : Value) (h0_kept : Value) (h0_spare : Value) (h0_pastMany : Value) (h0_isKept : Value) (h0_text : Value) (h0_typed : Value) (h0_isUsed : Value) (h0_planBatch : Value) (h0_planUnits : Value) (h0_planCents : Value) (h0_planMany : Value) (h0_planGot : Value) (h0_planSubstitutes : Value) (h0_at : Value) (h0_fault : Value) (h0_entries : Value) (h0_entry : Value) (z : Nat → Int32) (gz : Nat) (bz : Nat) (so : Int32) (ib : Int32) (nu : Int32) (hz1 : z 1 = nI gz) (hgz : gz ≤ 12) (hz2 : z 2 = nI bz) (hbz : bz ≤ 40) : Met l yX10_takes wsX10_takes ({ frames := 1, cells := 0, slots := 0, locals := 22 }) (xPre (dC, dI) vwCl [.ref h0, .int so, .int ib, .int nu] (xtys cI cF cC cZ cQ cS) [(h0, .inr (10, [.ref zq, h0_past, h0_kept, h0_spare, h0_pastMany, h0_isKept, h0_text, h0_typed, h0_isUsed, h0_planBatch, h0_planUnits, h0_planCents, h0_planMany, h0_planGot, h0_planSubstitutes, h0_at, h0_fault, h0_entries, h0_entry])), (zq, .inl (cI, 1002, .inl z))]) (vp_Si (fun r0 => r0 = tTakes so ib nu gz bz)) 0 0 (fun _ => False) := by
  refine Met.ofW (cc := cX10_takes) (maxL := 5) (ret := (some .int)) (by decide) rfl ?_
  intro p e s m args below meth c s₁ B hml hv
  obtain ⟨rfl, hP, hK, hD0, hN⟩ := hv
  have hx := B.exec
  have hb := B.bytes
  have hr := B.returns
  have hts := atoms_spec (ws := wsX10_takes) B.pre
  have hown : s.vm.findClass RX10 = some m.cls := findClass_of_methodNamed B.named
  have hlocks := B.notSynchronized
  have hD := hD0
  have hl := lv_entry ([.ref h0, .int so, .int ib, .int nu]) (n := 5) (Nat.le_of_ble_eq_true rfl)
  rw [lg_entry_eq]
  generalize (lg_sl ([.ref h0, .int so, .int ib, .int nu]) ++ List.replicate (5 - (lg_sl ([.ref h0, .int so, .int ib, .int nu])).length) Slot.unset).toArray = ls at hl ⊢
  have hl : lv_has ls 5 [(0, .ref h0), (1, .int so), (2, .int ib), (3, .int nu)] := hl
  refine lv_iload_n hx hb dX10_takes_0 rfl (lv_at hl 2 rfl) ?_
  refine lv_if_eq (tgt := 12) hx hb dX10_takes_1 (by decide) (fun c_1 => ?_) (fun c_1 => ?_)
  · skip
    refine lv_aload_n hx hb dX10_takes_12 rfl (lv_at hl 0 rfl) ?_
    refine lv_iload_n hx hb dX10_takes_13 rfl (lv_at hl 3 rfl) ?_
    refine xkRi (xV (As := [.int nu]) (rest := []) (wc := [(h0, .inr (10, [.ref zq, h0_past, h0_kept, h0_spare, h0_pastMany, h0_isKept, h0_text, h0_typed, h0_isUsed, h0_planBatch, h0_planUnits, h0_planCents, h0_planMany, h0_planGot, h0_planSubstitutes, h0_at, h0_fault, h0_entries, h0_entry])), (zq, .inl (cI, 1002, .inl z))]) hx hb hml hown hts (c_X10_isGood l dC dI cI cF cC cZ cQ cS h0 zq h0_past h0_kept h0_spare h0_pastMany h0_isKept h0_text h0_typed h0_isUsed h0_planBatch h0_planUnits h0_planCents h0_planMany h0_planGot h0_planSubstitutes h0_at h0_fault h0_entries h0_entry z nu gz (by omega) (by omega)) 1 gX10_takes_X10_isGood rfl rfl rfl hdV_X10_isGood ⟨Nat.le_of_ble_eq_true rfl, Nat.le_of_ble_eq_true rfl⟩ hN hK hP hD [0, 1] rfl rfl 10 0 rfl rfl rfl hl.1 rfl (Nat.le_of_ble_eq_true rfl) dX10_takes_14 ⟨Nat.zero_le _, Nat.zero_le _⟩) (fun r_2 hr_2 => ?_)
    have hr_2 : r_2 = (if xhas nu gz then nI 1 else nI 0) := hr_2
    rcases xi_ite inferInstance hr_2 with ⟨c_3, hr_2⟩ | ⟨c_3, hr_2⟩
    · subst hr_2
      refine lv_istore (lv' := [(4, .int (nI 1)), (0, .ref h0), (1, .int so), (2, .int ib), (3, .int nu)]) hx hb dX10_takes_17 hl (by decide) rfl (fun ls hl => ?_)
      refine lv_iload hx hb dX10_takes_19 (lv_at hl 0 rfl) ?_
      refine xr_ifn1 (tgt := 26) hx hb (by decide) dX10_takes_21 (by decide) ?_
      refine lv_iload_n hx hb dX10_takes_26 rfl (lv_at hl 2 rfl) ?_
      refine lv_iconst (v := nI 0) hx hb dX10_takes_27 (by decide) ?_
      refine lv_iconst (v := nI 1) hx hb dX10_takes_28 (by decide) ?_
      refine xkRi (xSs (Ws' := ([] : List Cond)) (As := [.int so, .int (nI 0), .int (nI 1)]) (rest := []) (wc := []) hx hb hml hown hts (c_X10_in l dC dI cI cF cC cZ cQ cS so (nI 0) (nI 1)) 3 (fun hR => va_cwS 3 hts gX10_takes_X10_in rfl rfl rfl hdN_X10_in hR) ⟨Nat.le_of_ble_eq_true rfl, Nat.le_of_ble_eq_true rfl⟩ hN hK hP hD [] rfl rfl rfl hl.1 rfl (Nat.le_of_ble_eq_true rfl) dX10_takes_29 ⟨Nat.zero_le _, Nat.zero_le _⟩) (fun r_4 hr_4 => ?_)
      have hr_4 : r_4 = (if (nI 0) ≤ so ∧ so ≤ (nI 1) then nI 1 else nI 0) := hr_4
      rcases xi_ite inferInstance hr_4 with ⟨c_5, hr_4⟩ | ⟨c_5, hr_4⟩
      · subst hr_4
        refine xr_ifn1 (tgt := 38) hx hb (by decide) dX10_takes_32 (by decide) ?_
        refine lv_iload_n hx hb dX10_takes_38 rfl (lv_at hl 3 rfl) ?_
        refine lv_iload_n hx hb dX10_takes_39 rfl (lv_at hl 2 rfl) ?_
        refine lv_iconst (v := nI 1) hx hb dX10_takes_40 (by decide) ?_
        refine lv_icmp_ne (tgt := 48) hx hb dX10_takes_41 (by decide) (fun c_6 => ?_) (fun c_6 => ?_)
        · skip
          refine lv_iconst (v := nI 0) hx hb dX10_takes_48 (by decide) ?_
          refine lv_icmp_ne (tgt := 56) hx hb dX10_takes_49 (by decide) (fun c_7 => ?_) (fun c_7 => ?_)
          · skip
            refine lv_iconst (v := nI 0) hx hb dX10_takes_56 (by decide) ?_
            exact W.iret (v := nI 0) hx hb hr (fun t ht hW => ⟨_, rfl, (show nI 0 = tTakes so ib nu gz bz from (by unfold tTakes; rw [if_neg (fun z9 => z9.elim (fun z9 => (fun z9 => z9 c_3) z9.2) (fun z9 => (fun z9 => z9 c_1) z9.1)), if_neg (fun z9 => z9 c_5), if_neg (fun z9 => z9.elim (fun z9 => c_6 z9.1) (fun z9 => (fun q => c_7 q.symm) z9.2))])), ht⟩) (fun q h => by cases h) dX10_takes_57
          refine lv_iconst (v := nI 1) hx hb dX10_takes_52 (by decide) ?_
          refine lv_goto (tgt := 57) hx hb dX10_takes_53 (by decide) ?_
          exact W.iret (v := nI 1) hx hb hr (fun t ht hW => ⟨_, rfl, (show nI 1 = tTakes so ib nu gz bz from (by unfold tTakes; rw [if_neg (fun z9 => z9.elim (fun z9 => (fun z9 => z9 c_3) z9.2) (fun z9 => (fun z9 => z9 c_1) z9.1)), if_neg (fun z9 => z9 c_5), if_pos (Or.inr ⟨c_6, c_7.symm⟩)])), ht⟩) (fun q h => by cases h) dX10_takes_57
        refine lv_iconst (v := nI 1) hx hb dX10_takes_44 (by decide) ?_
        refine lv_goto (tgt := 49) hx hb dX10_takes_45 (by decide) ?_
        refine lv_icmp_ne (tgt := 56) hx hb dX10_takes_49 (by decide) (fun c_8 => ?_) (fun c_8 => ?_)
        · skip
          refine lv_iconst (v := nI 0) hx hb dX10_takes_56 (by decide) ?_
          exact W.iret (v := nI 0) hx hb hr (fun t ht hW => ⟨_, rfl, (show nI 0 = tTakes so ib nu gz bz from (by unfold tTakes; rw [if_neg (fun z9 => z9.elim (fun z9 => (fun z9 => z9 c_3) z9.2) (fun z9 => (fun z9 => z9 c_1) z9.1)), if_neg (fun z9 => z9 c_5), if_neg (fun z9 => z9.elim (fun z9 => (fun q => c_8 q.symm) z9.2) (fun z9 => (fun z9 => z9 c_6) z9.1))])), ht⟩) (fun q h => by cases h) dX10_takes_57
        refine lv_iconst (v := nI 1) hx hb dX10_takes_52 (by decide) ?_
        refine lv_goto (tgt := 57) hx hb dX10_takes_53 (by decide) ?_
        exact W.iret (v := nI 1) hx hb hr (fun t ht hW => ⟨_, rfl, (show nI 1 = tTakes so ib nu gz bz from (by unfold tTakes; rw [if_neg (fun z9 => z9.elim (fun z9 => (fun z9 => z9 c_3) z9.2) (fun z9 => (fun z9 => z9 c_1) z9.1)), if_neg (fun z9 => z9 c_5), if_pos (Or.inl ⟨c_6, c_8.symm⟩)])), ht⟩) (fun q h => by cases h) dX10_takes_57
      subst hr_4
      refine xr_ifn0 (tgt := 38) hx hb (by decide) dX10_takes_32 (by decide) ?_
      refine lv_bipush (v := (-2)) hx hb dX10_takes_35 (by decide) ?_
      exact W.iret (v := (-2)) hx hb hr (fun t ht hW => ⟨_, rfl, (show (-2) = tTakes so ib nu gz bz from (by unfold tTakes; rw [if_neg (fun z9 => z9.elim (fun z9 => (fun z9 => z9 c_3) z9.2) (fun z9 => (fun z9 => z9 c_1) z9.1)), if_pos c_5])), ht⟩) (fun q h => by cases h) dX10_takes_37
    subst hr_2
    refine lv_istore (lv' := [(4, .int (nI 0)), (0, .ref h0), (1, .int so), (2, .int ib), (3, .int nu)]) hx hb dX10_takes_17 hl (by decide) rfl (fun ls hl => ?_)
    refine lv_iload hx hb dX10_takes_19 (lv_at hl 0 rfl) ?_
    refine xr_ifn0 (tgt := 26) hx hb (by decide) dX10_takes_21 (by decide) ?_
    refine lv_iconst (v := (-1)) hx hb dX10_takes_24 (by decide) ?_
    exact W.iret (v := (-1)) hx hb hr (fun t ht hW => ⟨_, rfl, (show (-1) = tTakes so ib nu gz bz from (by unfold tTakes; rw [if_pos (Or.inl ⟨c_1, c_3⟩)])), ht⟩) (fun q h => by cases h) dX10_takes_25
  refine lv_aload_n hx hb dX10_takes_4 rfl (lv_at hl 0 rfl) ?_
  refine lv_iload_n hx hb dX10_takes_5 rfl (lv_at hl 3 rfl) ?_
  refine xkRi (xV (As := [.int nu]) (rest := []) (wc := [(h0, .inr (10, [.ref zq, h0_past, h0_kept, h0_spare, h0_pastMany, h0_isKept, h0_text, h0_typed, h0_isUsed, h0_planBatch, h0_planUnits, h0_planCents, h0_planMany, h0_planGot, h0_planSubstitutes, h0_at, h0_fault, h0_entries, h0_entry])), (zq, .inl (cI, 1002, .inl z))]) hx hb hml hown hts (c_X10_isBatch l dC dI cI cF cC cZ cQ cS h0 zq h0_past h0_kept h0_spare h0_pastMany h0_isKept h0_text h0_typed h0_isUsed h0_planBatch h0_planUnits h0_planCents h0_planMany h0_planGot h0_planSubstitutes h0_at h0_fault h0_entries h0_entry z nu bz (by omega) (by omega)) 1 gX10_takes_X10_isBatch rfl rfl rfl hdV_X10_isBatch ⟨Nat.le_of_ble_eq_true rfl, Nat.le_of_ble_eq_true rfl⟩ hN hK hP hD [0, 1] rfl rfl 10 0 rfl rfl rfl hl.1 rfl (Nat.le_of_ble_eq_true rfl) dX10_takes_6 ⟨Nat.zero_le _, Nat.zero_le _⟩) (fun r_9 hr_9 => ?_)
  have hr_9 : r_9 = (if xhas nu bz then nI 1 else nI 0) := hr_9
  rcases xi_ite inferInstance hr_9 with ⟨c_10, hr_9⟩ | ⟨c_10, hr_9⟩
  · subst hr_9
    refine lv_goto (tgt := 17) hx hb dX10_takes_9 (by decide) ?_
    refine lv_istore (lv' := [(4, .int (nI 1)), (0, .ref h0), (1, .int so), (2, .int ib), (3, .int nu)]) hx hb dX10_takes_17 hl (by decide) rfl (fun ls hl => ?_)
    refine lv_iload hx hb dX10_takes_19 (lv_at hl 0 rfl) ?_
    refine xr_ifn1 (tgt := 26) hx hb (by decide) dX10_takes_21 (by decide) ?_
    refine lv_iload_n hx hb dX10_takes_26 rfl (lv_at hl 2 rfl) ?_
    refine lv_iconst (v := nI 0) hx hb dX10_takes_27 (by decide) ?_
    refine lv_iconst (v := nI 1) hx hb dX10_takes_28 (by decide) ?_
    refine xkRi (xSs (Ws' := ([] : List Cond)) (As := [.int so, .int (nI 0), .int (nI 1)]) (rest := []) (wc := []) hx hb hml hown hts (c_X10_in l dC dI cI cF cC cZ cQ cS so (nI 0) (nI 1)) 3 (fun hR => va_cwS 3 hts gX10_takes_X10_in rfl rfl rfl hdN_X10_in hR) ⟨Nat.le_of_ble_eq_true rfl, Nat.le_of_ble_eq_true rfl⟩ hN hK hP hD [] rfl rfl rfl hl.1 rfl (Nat.le_of_ble_eq_true rfl) dX10_takes_29 ⟨Nat.zero_le _, Nat.zero_le _⟩) (fun r_11 hr_11 => ?_)
    have hr_11 : r_11 = (if (nI 0) ≤ so ∧ so ≤ (nI 1) then nI 1 else nI 0) := hr_11
    rcases xi_ite inferInstance hr_11 with ⟨c_12, hr_11⟩ | ⟨c_12, hr_11⟩
    · subst hr_11
      refine xr_ifn1 (tgt := 38) hx hb (by decide) dX10_takes_32 (by decide) ?_
      refine lv_iload_n hx hb dX10_takes_38 rfl (lv_at hl 3 rfl) ?_
      refine lv_iload_n hx hb dX10_takes_39 rfl (lv_at hl 2 rfl) ?_
      refine lv_iconst (v := nI 1) hx hb dX10_takes_40 (by decide) ?_
      refine lv_icmp_ne (tgt := 48) hx hb dX10_takes_41 (by decide) (fun c_13 => ?_) (fun c_13 => ?_)
      · skip
        refine lv_iconst (v := nI 0) hx hb dX10_takes_48 (by decide) ?_
        refine lv_icmp_ne (tgt := 56) hx hb dX10_takes_49 (by decide) (fun c_14 => ?_) (fun c_14 => ?_)
        · skip
          refine lv_iconst (v := nI 0) hx hb dX10_takes_56 (by decide) ?_
          exact W.iret (v := nI 0) hx hb hr (fun t ht hW => ⟨_, rfl, (show nI 0 = tTakes so ib nu gz bz from (by unfold tTakes; rw [if_neg (fun z9 => z9.elim (fun z9 => c_1 z9.1) (fun z9 => (fun z9 => z9 c_10) z9.2)), if_neg (fun z9 => z9 c_12), if_neg (fun z9 => z9.elim (fun z9 => c_13 z9.1) (fun z9 => (fun q => c_14 q.symm) z9.2))])), ht⟩) (fun q h => by cases h) dX10_takes_57
        refine lv_iconst (v := nI 1) hx hb dX10_takes_52 (by decide) ?_
        refine lv_goto (tgt := 57) hx hb dX10_takes_53 (by decide) ?_
        exact W.iret (v := nI 1) hx hb hr (fun t ht hW => ⟨_, rfl, (show nI 1 = tTakes so ib nu gz bz from (by unfold tTakes; rw [if_neg (fun z9 => z9.elim (fun z9 => c_1 z9.1) (fun z9 => (fun z9 => z9 c_10) z9.2)), if_neg (fun z9 => z9 c_12), if_pos (Or.inr ⟨c_13, c_14.symm⟩)])), ht⟩) (fun q h => by cases h) dX10_takes_57
      refine lv_iconst (v := nI 1) hx hb dX10_takes_44 (by decide) ?_
      refine lv_goto (tgt := 49) hx hb dX10_takes_45 (by decide) ?_
      refine lv_icmp_ne (tgt := 56) hx hb dX10_takes_49 (by decide) (fun c_15 => ?_) (fun c_15 => ?_)
      · skip
        refine lv_iconst (v := nI 0) hx hb dX10_takes_56 (by decide) ?_
        exact W.iret (v := nI 0) hx hb hr (fun t ht hW => ⟨_, rfl, (show nI 0 = tTakes so ib nu gz bz from (by unfold tTakes; rw [if_neg (fun z9 => z9.elim (fun z9 => c_1 z9.1) (fun z9 => (fun z9 => z9 c_10) z9.2)), if_neg (fun z9 => z9 c_12), if_neg (fun z9 => z9.elim (fun z9 => (fun q => c_15 q.symm) z9.2) (fun z9 => (fun z9 => z9 c_13) z9.1))])), ht⟩) (fun q h => by cases h) dX10_takes_57
      refine lv_iconst (v := nI 1) hx hb dX10_takes_52 (by decide) ?_
      refine lv_goto (tgt := 57) hx hb dX10_takes_53 (by decide) ?_
      exact W.iret (v := nI 1) hx hb hr (fun t ht hW => ⟨_, rfl, (show nI 1 = tTakes so ib nu gz bz from (by unfold tTakes; rw [if_neg (fun z9 => z9.elim (fun z9 => c_1 z9.1) (fun z9 => (fun z9 => z9 c_10) z9.2)), if_neg (fun z9 => z9 c_12), if_pos (Or.inl ⟨c_13, c_15.symm⟩)])), ht⟩) (fun q h => by cases h) dX10_takes_57
    subst hr_11
    refine xr_ifn0 (tgt := 38) hx hb (by decide) dX10_takes_32 (by decide) ?_
    refine lv_bipush (v := (-2)) hx hb dX10_takes_35 (by decide) ?_
    exact W.iret (v := (-2)) hx hb hr (fun t ht hW => ⟨_, rfl, (show (-2) = tTakes so ib nu gz bz from (by unfold tTakes; rw [if_neg (fun z9 => z9.elim (fun z9 => c_1 z9.1) (fun z9 => (fun z9 => z9 c_10) z9.2)), if_pos c_12])), ht⟩) (fun q h => by cases h) dX10_takes_37
  subst hr_9
  refine lv_goto (tgt := 17) hx hb dX10_takes_9 (by decide) ?_
  refine lv_istore (lv' := [(4, .int (nI 0)), (0, .ref h0), (1, .int so), (2, .int ib), (3, .int nu)]) hx hb dX10_takes_17 hl (by decide) rfl (fun ls hl => ?_)
  refine lv_iload hx hb dX10_takes_19 (lv_at hl 0 rfl) ?_
  refine xr_ifn0 (tgt := 26) hx hb (by decide) dX10_takes_21 (by decide) ?_
  refine lv_iconst (v := (-1)) hx hb dX10_takes_24 (by decide) ?_
  exact W.iret (v := (-1)) hx hb hr (fun t ht hW => ⟨_, rfl, (show (-1) = tTakes so ib nu gz bz from (by unfold tTakes; rw [if_pos (Or.inr ⟨c_1, c_10⟩)])), ht⟩) (fun q h => by cases h) dX10_takes_25
