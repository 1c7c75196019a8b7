set_option maxHeartbeats 4000000 in
set_option maxRecDepth 100000 in
theorem c_X10_removeSubstitutes (l : Launch) (dC : Nat → ClassId) (dI : Nat → Nat → Nat) (cI cF cC cZ cQ cS : ClassId) (h0 : Nat) (zq : Nat) (pq : Nat) (h0_kept : Value) (h0_spare : Value) (h0_isKept : Value) (h0_text : Value) (h0_typed : Value) (h0_isUsed : Value) (h0_planBatch : Value) (h0_planUnits : Value) (h0_planCents : Value) (h0_planMany : Value) (h0_planGot : Value) (h0_planSubstitutes : Value) (h0_at : Value) (h0_fault : Value) (h0_entries : Value) (h0_entry : Value) (z : Nat → Int32) (past : Nat → Int32) (pm : Nat) (gz : Nat) (kg : Nat) (lm : Nat) (pl : Nat) (hpm : pm ≤ 4) (hz1 : z 1 = nI gz) (hgz : gz ≤ 12) (hk : kg < gz) (hls : zG z kg 2 = nI lm) (hl4 : lm ≤ 4) (hpl : pl < lm) : Met l yX10_removeSubstitute wsX10_removeSubstitute ({ frames := 1, cells := 0, slots := 0, locals := 22 }) (xPre (dC, dI) vwCl [.ref h0, .int (nI kg), .int (nI pl)] (xtys cI cF cC cZ cQ cS) [(h0, .inr (10, [.ref zq, .ref pq, h0_kept, h0_spare, .int (nI pm), h0_isKept, h0_text, h0_typed, h0_isUsed, h0_planBatch, h0_planUnits, h0_planCents, h0_planMany, h0_planGot, h0_planSubstitutes, h0_at, h0_fault, h0_entries, h0_entry])), (zq, .inl (cI, 1002, .inl z)), (pq, .inl (cI, 4008, .inl past))]) (xWi (dC, dI) vwCl [(h0, .inr (10, [.ref zq, .ref pq, h0_kept, h0_spare, .int (nI pm), h0_isKept, h0_text, h0_typed, h0_isUsed, h0_planBatch, h0_planUnits, h0_planCents, h0_planMany, h0_planGot, h0_planSubstitutes, h0_at, h0_fault, h0_entries, h0_entry])), (zq, .inl (cI, 1002, .inl z)), (pq, .inl (cI, 4008, .inl past))] (fun r0 w0 => r0 = z (10 + 7 * kg + 3 + pl) ∧ w0 = [(h0, .inr (10, [.ref zq, .ref pq, h0_kept, h0_spare, .int (nI (if pm = 4 then 4 else pm + 1)), h0_isKept, h0_text, h0_typed, h0_isUsed, h0_planBatch, h0_planUnits, h0_planCents, h0_planMany, h0_planGot, h0_planSubstitutes, h0_at, h0_fault, h0_entries, h0_entry])), (zq, .inl (cI, 1002, .inl (zrem z kg pl lm))), (pq, .inl (cI, 4008, .inl (zrec z past pm)))])) 0 0 (va_B [(h0, .inr (10, [.ref zq, .ref pq, h0_kept, h0_spare, .int (nI pm), h0_isKept, h0_text, h0_typed, h0_isUsed, h0_planBatch, h0_planUnits, h0_planCents, h0_planMany, h0_planGot, h0_planSubstitutes, h0_at, h0_fault, h0_entries, h0_entry])), (zq, .inl (cI, 1002, .inl z)), (pq, .inl (cI, 4008, .inl past))]) := by
  refine Met.ofW (cc := cX10_removeSubstitute) (maxL := 7) (ret := (some .int)) (by decide) rfl ?_
  intro p e s m args below meth c s₁ B hml hv
  obtain ⟨rfl, hP, hK, hD0, hN⟩ := hv
  have hx := B.exec
  have hb := B.bytes
  have hr := B.returns
  have hts := atoms_spec (ws := wsX10_removeSubstitute) B.pre
  have hown : s.vm.findClass RX10 = some m.cls := findClass_of_methodNamed B.named
  have hlocks := B.notSynchronized
  have k_7 := hts (Cond.fieldLink RX10 7 "ShelfStagesModel" "z" "[I") (by decide +kernel)
  have i_X10 : ∀ w ∈ wsX100, w ∈ wsX10_removeSubstitute := by decide +kernel
  obtain ⟨A, hA⟩ : ∃ A, A = va_B [(h0, .inr (10, [.ref zq, .ref pq, h0_kept, h0_spare, .int (nI pm), h0_isKept, h0_text, h0_typed, h0_isUsed, h0_planBatch, h0_planUnits, h0_planCents, h0_planMany, h0_planGot, h0_planSubstitutes, h0_at, h0_fault, h0_entries, h0_entry])), (zq, .inl (cI, 1002, .inl z)), (pq, .inl (cI, 4008, .inl past))] := ⟨_, rfl⟩
  have hD : va_D A [(h0, .inr (10, [.ref zq, .ref pq, h0_kept, h0_spare, .int (nI pm), h0_isKept, h0_text, h0_typed, h0_isUsed, h0_planBatch, h0_planUnits, h0_planCents, h0_planMany, h0_planGot, h0_planSubstitutes, h0_at, h0_fault, h0_entries, h0_entry])), (zq, .inl (cI, 1002, .inl z)), (pq, .inl (cI, 4008, .inl past))] := hA ▸ hD0.own
  have hS : va_S A s.heap s.heap [] := va_S.rf
  have hl := lv_entry ([.ref h0, .int (nI kg), .int (nI pl)]) (n := 7) (Nat.le_of_ble_eq_true rfl)
  rw [lg_entry_eq]
  generalize (lg_sl ([.ref h0, .int (nI kg), .int (nI pl)]) ++ List.replicate (7 - (lg_sl ([.ref h0, .int (nI kg), .int (nI pl)])).length) Slot.unset).toArray = ls at hl ⊢
  have hl : lv_has ls 7 [(0, .ref h0), (1, .int (nI kg)), (2, .int (nI pl))] := hl
  refine lv_aload_n hx hb dX10_removeSubstitute_0 rfl (lv_at hl 0 rfl) ?_
  refine lv_iload_n hx hb dX10_removeSubstitute_1 rfl (lv_at hl 1 rfl) ?_
  refine xkRi (xV (As := [.int (nI kg)]) (rest := []) (wc := [(h0, .inr (10, [.ref zq, .ref pq, h0_kept, h0_spare, .int (nI pm), h0_isKept, h0_text, h0_typed, h0_isUsed, h0_planBatch, h0_planUnits, h0_planCents, h0_planMany, h0_planGot, h0_planSubstitutes, h0_at, h0_fault, h0_entries, h0_entry])), (zq, .inl (cI, 1002, .inl z))]) hx hb hml hown hts (c_X10_isGood l dC dI cI cF cC cZ cQ cS h0 zq (.ref pq) h0_kept h0_spare (.int (nI pm)) h0_isKept h0_text h0_typed h0_isUsed h0_planBatch h0_planUnits h0_planCents h0_planMany h0_planGot h0_planSubstitutes h0_at h0_fault h0_entries h0_entry z (nI kg) gz (by omega) (by omega)) 1 gX10_removeSubstitute_X10_isGood rfl rfl rfl hdV_X10_isGood ⟨Nat.le_of_ble_eq_true rfl, Nat.le_of_ble_eq_true rfl⟩ hN hK hP hD [0, 1] rfl rfl 10 0 rfl rfl rfl hl.1 rfl (Nat.le_of_ble_eq_true rfl) dX10_removeSubstitute_2 ⟨Nat.zero_le _, Nat.zero_le _⟩) (fun r_1 hr_1 => ?_)
  have hr_1 : r_1 = (if xhas (nI kg) gz then nI 1 else nI 0) := hr_1
  obtain rfl : r_1 = nI 1 := hr_1.trans (if_pos (xhas_of hk (by omega)))
  refine xr_ifn1 (tgt := 10) hx hb (by decide) dX10_removeSubstitute_5 (by decide) ?_
  refine lv_iload_n hx hb dX10_removeSubstitute_10 rfl (lv_at hl 2 rfl) ?_
  refine xr_zge_n (tgt := 17) hx hb (by omega) dX10_removeSubstitute_11 (by decide) ?_
  refine lv_aload_n hx hb dX10_removeSubstitute_17 rfl (lv_at hl 0 rfl) ?_
  refine lv_iload_n hx hb dX10_removeSubstitute_18 rfl (lv_at hl 1 rfl) ?_
  refine lv_iconst (v := nI 2) hx hb dX10_removeSubstitute_19 (by decide) ?_
  refine xkRi (xV (As := [.int (nI kg), .int (nI 2)]) (rest := []) (wc := [(h0, .inr (10, [.ref zq, .ref pq, h0_kept, h0_spare, .int (nI pm), h0_isKept, h0_text, h0_typed, h0_isUsed, h0_planBatch, h0_planUnits, h0_planCents, h0_planMany, h0_planGot, h0_planSubstitutes, h0_at, h0_fault, h0_entries, h0_entry])), (zq, .inl (cI, 1002, .inl z))]) hx hb hml hown hts (c_X10_ofGood l dC dI cI cF cC cZ cQ cS h0 zq (.ref pq) h0_kept h0_spare (.int (nI pm)) h0_isKept h0_text h0_typed h0_isUsed h0_planBatch h0_planUnits h0_planCents h0_planMany h0_planGot h0_planSubstitutes h0_at h0_fault h0_entries h0_entry z kg 2 (by omega) (by omega)) 2 gX10_removeSubstitute_X10_ofGood rfl rfl rfl hdV_X10_ofGood ⟨Nat.le_of_ble_eq_true rfl, Nat.le_of_ble_eq_true rfl⟩ hN hK hP hD [0, 1] rfl rfl 10 0 rfl rfl rfl hl.1 rfl (Nat.le_of_ble_eq_true rfl) dX10_removeSubstitute_20 ⟨Nat.zero_le _, Nat.zero_le _⟩) (fun r_2 hr_2 => ?_)
  obtain rfl : r_2 = zG z kg 2 := hr_2
  refine xr_top (show zG z kg 2 = nI lm from hls) ?_
  refine lv_istore_n (lv' := [(3, .int (nI lm)), (0, .ref h0), (1, .int (nI kg)), (2, .int (nI pl))]) hx hb dX10_removeSubstitute_23 rfl hl (by decide) rfl (fun ls hl => ?_)
  refine lv_iload_n hx hb dX10_removeSubstitute_24 rfl (lv_at hl 3 rfl) ?_
  refine lv_iload_n hx hb dX10_removeSubstitute_25 rfl (lv_at hl 0 rfl) ?_
  refine xr_lt_n (tgt := 32) hx hb (by omega) (by omega) dX10_removeSubstitute_26 (by decide) (fun c_3 => ?_) (fun c_3 => False.elim (by omega))
  refine lv_aload_n hx hb dX10_removeSubstitute_32 rfl (lv_at hl 1 rfl) ?_
  refine xkV2 (xV (As := []) (rest := []) (wc := [(h0, .inr (10, [.ref zq, .ref pq, h0_kept, h0_spare, .int (nI pm), h0_isKept, h0_text, h0_typed, h0_isUsed, h0_planBatch, h0_planUnits, h0_planCents, h0_planMany, h0_planGot, h0_planSubstitutes, h0_at, h0_fault, h0_entries, h0_entry])), (zq, .inl (cI, 1002, .inl z)), (pq, .inl (cI, 4008, .inl past))]) hx hb hml hown hts (c_X10_record l dC dI cI cF cC cZ cQ cS h0 zq pq h0_kept h0_spare h0_isKept h0_text h0_typed h0_isUsed h0_planBatch h0_planUnits h0_planCents h0_planMany h0_planGot h0_planSubstitutes h0_at h0_fault h0_entries h0_entry z past pm (by omega)) 0 gX10_removeSubstitute_X10_record rfl rfl rfl hdV_X10_record ⟨Nat.le_of_ble_eq_true rfl, Nat.le_of_ble_eq_true rfl⟩ hN hK hP hD [0, 1, 2] rfl rfl 10 0 rfl rfl rfl hl.1 rfl (Nat.le_of_ble_eq_true rfl) dX10_removeSubstitute_33 ⟨Nat.zero_le _, Nat.zero_le _⟩) hP hD hS [0, 1, 2] [0, 1, 2] rfl rfl 3 rfl (by decide +kernel) (fun H locs hP hD hS => ?_)
  have hP : va_P (dC, dI) vwCl [(h0, .inr (10, [.ref zq, .ref pq, h0_kept, h0_spare, .int (nI (if pm = 4 then 4 else pm + 1)), h0_isKept, h0_text, h0_typed, h0_isUsed, h0_planBatch, h0_planUnits, h0_planCents, h0_planMany, h0_planGot, h0_planSubstitutes, h0_at, h0_fault, h0_entries, h0_entry])), (zq, .inl (cI, 1002, .inl z)), (pq, .inl (cI, 4008, .inl (zrec z past pm)))] H := hP
  have hD : va_D A [(h0, .inr (10, [.ref zq, .ref pq, h0_kept, h0_spare, .int (nI (if pm = 4 then 4 else pm + 1)), h0_isKept, h0_text, h0_typed, h0_isUsed, h0_planBatch, h0_planUnits, h0_planCents, h0_planMany, h0_planGot, h0_planSubstitutes, h0_at, h0_fault, h0_entries, h0_entry])), (zq, .inl (cI, 1002, .inl z)), (pq, .inl (cI, 4008, .inl (zrec z past pm)))] := hD
  refine lv_bipush (v := nI 10) hx hb dX10_removeSubstitute_36 (by decide) ?_
  refine lv_bipush (v := nI 7) hx hb dX10_removeSubstitute_38 (by decide) ?_
  refine lv_iload_n hx hb dX10_removeSubstitute_40 rfl (lv_at hl 2 rfl) ?_
  refine xr_imul_n hx hb dX10_removeSubstitute_41 ?_
  refine xr_iadd_n hx hb dX10_removeSubstitute_42 ?_
  refine lv_iconst (v := nI 3) hx hb dX10_removeSubstitute_43 (by decide) ?_
  refine xr_iadd_n hx hb dX10_removeSubstitute_44 ?_
  refine lv_istore (lv' := [(4, .int (nI ((10 + (7 * kg)) + 3))), (3, .int (nI lm)), (0, .ref h0), (1, .int (nI kg)), (2, .int (nI pl))]) hx hb dX10_removeSubstitute_45 hl (by decide) rfl (fun ls hl => ?_)
  refine lv_aload_n hx hb dX10_removeSubstitute_47 rfl (lv_at hl 2 rfl) ?_
  refine va_get (D := (dC, dI)) (ci := 10) (v := .ref zq) (C := RX10) (T := TX10) (N := 19) hx hb hts i_X10 hown hK hP 0 rfl rfl 0 (by decide) k_7 (fun _ h9 => h9) rfl dX10_removeSubstitute_48 ?_
  refine lv_iload hx hb dX10_removeSubstitute_51 (lv_at hl 0 rfl) ?_
  refine lv_iload_n hx hb dX10_removeSubstitute_53 rfl (lv_at hl 4 rfl) ?_
  refine xr_iadd_n hx hb dX10_removeSubstitute_54 ?_
  refine xr_iald hx hb hK hP 1 0 rfl rfl (i := ((10 + (7 * kg)) + 3) + pl) (by omega) (by decide) dX10_removeSubstitute_55 ?_
  refine lv_istore (lv' := [(5, .int (z (((10 + (7 * kg)) + 3) + pl))), (4, .int (nI ((10 + (7 * kg)) + 3))), (3, .int (nI lm)), (0, .ref h0), (1, .int (nI kg)), (2, .int (nI pl))]) hx hb dX10_removeSubstitute_56 hl (by decide) rfl (fun ls hl => ?_)
  refine lv_iload_n hx hb dX10_removeSubstitute_58 rfl (lv_at hl 5 rfl) ?_
  refine lv_istore (lv' := [(6, .int (nI pl)), (5, .int (z (((10 + (7 * kg)) + 3) + pl))), (4, .int (nI ((10 + (7 * kg)) + 3))), (3, .int (nI lm)), (0, .ref h0), (1, .int (nI kg)), (2, .int (nI pl))]) hx hb dX10_removeSubstitute_59 hl (by decide) rfl (fun ls hl => ?_)
  refine xr_loop (J := Nat) (fun n0 H locs g => ∃ (k : Nat) (lf : Nat → Int32) (ls : Array Slot), n0 = (lm + 1) - k ∧ g = F0 m 61 ls [] ∧ lv_has ls 7 [(6, .int (nI k)), (5, .int (z (((10 + (7 * kg)) + 3) + pl))), (4, .int (nI ((10 + (7 * kg)) + 3))), (3, .int (nI lm)), (0, .ref h0), (1, .int (nI kg)), (2, .int (nI pl))] ∧ va_P (dC, dI) vwCl [(h0, .inr (10, [.ref zq, .ref pq, h0_kept, h0_spare, .int (nI (if pm = 4 then 4 else pm + 1)), h0_isKept, h0_text, h0_typed, h0_isUsed, h0_planBatch, h0_planUnits, h0_planCents, h0_planMany, h0_planGot, h0_planSubstitutes, h0_at, h0_fault, h0_entries, h0_entry])), (zq, .inl (cI, 1002, .inl lf)), (pq, .inl (cI, 4008, .inl (zrec z past pm)))] H ∧ va_D A [(h0, .inr (10, [.ref zq, .ref pq, h0_kept, h0_spare, .int (nI (if pm = 4 then 4 else pm + 1)), h0_isKept, h0_text, h0_typed, h0_isUsed, h0_planBatch, h0_planUnits, h0_planCents, h0_planMany, h0_planGot, h0_planSubstitutes, h0_at, h0_fault, h0_entries, h0_entry])), (zq, .inl (cI, 1002, .inl lf)), (pq, .inl (cI, 4008, .inl (zrec z past pm)))] ∧ va_S A s.heap H locs ∧ (pl ≤ k ∧ k ≤ lm - 1) ∧ (lf = zsl z (10 + 7 * kg + 3) pl k)) (fun n => n) ?_ ((lm + 1) - pl) (g := F0 m 61 ls []) ⟨pl, z, ls, rfl, rfl, lv_sub hl [0, 1, 2, 3, 4, 5, 6] rfl, hP, hD, hS, (⟨Nat.le_refl _, by omega⟩), (zsl_0 _ _ _)⟩
  intro n0 ih_61 H locs g hp
  obtain ⟨k, lf, ls, rfl, rfl, hl, hP, hD, hS, hk9, hlf⟩ := hp
  refine lv_iload hx hb dX10_removeSubstitute_61 (lv_at hl 0 rfl) ?_
  refine lv_iload_n hx hb dX10_removeSubstitute_63 rfl (lv_at hl 3 rfl) ?_
  refine lv_iconst (v := nI 1) hx hb dX10_removeSubstitute_64 (by decide) ?_
  refine xr_isub_n hx hb (by omega) dX10_removeSubstitute_65 ?_
  refine xr_ge_n (tgt := 97) hx hb (by omega) (by omega) dX10_removeSubstitute_66 (by decide) (fun c_4 => ?_) (fun c_4 => ?_)
  · skip
    refine lv_aload_n hx hb dX10_removeSubstitute_97 rfl (lv_at hl 4 rfl) ?_
    refine va_get (D := (dC, dI)) (ci := 10) (v := .ref zq) (C := RX10) (T := TX10) (N := 19) hx hb hts i_X10 hown hK hP 0 rfl rfl 0 (by decide) k_7 (fun _ h9 => h9) rfl dX10_removeSubstitute_98 ?_
    refine lv_iload hx hb dX10_removeSubstitute_101 (lv_at hl 2 rfl) ?_
    refine lv_iload_n hx hb dX10_removeSubstitute_103 rfl (lv_at hl 3 rfl) ?_
    refine xr_iadd_n hx hb dX10_removeSubstitute_104 ?_
    refine lv_iconst (v := nI 1) hx hb dX10_removeSubstitute_105 (by decide) ?_
    refine xr_isub_n hx hb (by omega) dX10_removeSubstitute_106 ?_
    refine lv_iconst (v := nI 0) hx hb dX10_removeSubstitute_107 (by decide) ?_
    refine xr_iast hx hb hK hP hD hS 1 0 rfl rfl (i := (((10 + (7 * kg)) + 3) + lm) - 1) (by omega) (by decide) dX10_removeSubstitute_108 (fun H locs hP hD hS => ?_)
    have hP : va_P (dC, dI) vwCl [(h0, .inr (10, [.ref zq, .ref pq, h0_kept, h0_spare, .int (nI (if pm = 4 then 4 else pm + 1)), h0_isKept, h0_text, h0_typed, h0_isUsed, h0_planBatch, h0_planUnits, h0_planCents, h0_planMany, h0_planGot, h0_planSubstitutes, h0_at, h0_fault, h0_entries, h0_entry])), (zq, .inl (cI, 1002, .inl (upd lf ((((10 + (7 * kg)) + 3) + lm) - 1) (nI 0)))), (pq, .inl (cI, 4008, .inl (zrec z past pm)))] H := hP
    have hD : va_D A [(h0, .inr (10, [.ref zq, .ref pq, h0_kept, h0_spare, .int (nI (if pm = 4 then 4 else pm + 1)), h0_isKept, h0_text, h0_typed, h0_isUsed, h0_planBatch, h0_planUnits, h0_planCents, h0_planMany, h0_planGot, h0_planSubstitutes, h0_at, h0_fault, h0_entries, h0_entry])), (zq, .inl (cI, 1002, .inl (upd lf ((((10 + (7 * kg)) + 3) + lm) - 1) (nI 0)))), (pq, .inl (cI, 4008, .inl (zrec z past pm)))] := hD
    refine lv_aload_n hx hb dX10_removeSubstitute_109 rfl (lv_at hl 4 rfl) ?_
    refine va_get (D := (dC, dI)) (ci := 10) (v := .ref zq) (C := RX10) (T := TX10) (N := 19) hx hb hts i_X10 hown hK hP 0 rfl rfl 0 (by decide) k_7 (fun _ h9 => h9) rfl dX10_removeSubstitute_110 ?_
    refine lv_bipush (v := nI 10) hx hb dX10_removeSubstitute_113 (by decide) ?_
    refine lv_bipush (v := nI 7) hx hb dX10_removeSubstitute_115 (by decide) ?_
    refine lv_iload_n hx hb dX10_removeSubstitute_117 rfl (lv_at hl 5 rfl) ?_
    refine xr_imul_n hx hb dX10_removeSubstitute_118 ?_
    refine xr_iadd_n hx hb dX10_removeSubstitute_119 ?_
    refine lv_iconst (v := nI 2) hx hb dX10_removeSubstitute_120 (by decide) ?_
    refine xr_iadd_n hx hb dX10_removeSubstitute_121 ?_
    refine lv_dup2_11 hx hb dX10_removeSubstitute_122 rfl rfl ?_
    refine xr_iald hx hb hK hP 1 0 rfl rfl (i := (10 + (7 * kg)) + 2) (by omega) (by decide) dX10_removeSubstitute_123 ?_
    refine lv_iconst (v := nI 1) hx hb dX10_removeSubstitute_124 (by decide) ?_
    refine lv_isub hx hb dX10_removeSubstitute_125 ?_
    refine xr_iast hx hb hK hP hD hS 1 0 rfl rfl (i := (10 + (7 * kg)) + 2) (by omega) (by decide) dX10_removeSubstitute_126 (fun H locs hP hD hS => ?_)
    have hP : va_P (dC, dI) vwCl [(h0, .inr (10, [.ref zq, .ref pq, h0_kept, h0_spare, .int (nI (if pm = 4 then 4 else pm + 1)), h0_isKept, h0_text, h0_typed, h0_isUsed, h0_planBatch, h0_planUnits, h0_planCents, h0_planMany, h0_planGot, h0_planSubstitutes, h0_at, h0_fault, h0_entries, h0_entry])), (zq, .inl (cI, 1002, .inl (upd (upd lf ((((10 + (7 * kg)) + 3) + lm) - 1) (nI 0)) ((10 + (7 * kg)) + 2) (((upd lf ((((10 + (7 * kg)) + 3) + lm) - 1) (nI 0)) ((10 + (7 * kg)) + 2)) - (nI 1))))), (pq, .inl (cI, 4008, .inl (zrec z past pm)))] H := hP
    have hD : va_D A [(h0, .inr (10, [.ref zq, .ref pq, h0_kept, h0_spare, .int (nI (if pm = 4 then 4 else pm + 1)), h0_isKept, h0_text, h0_typed, h0_isUsed, h0_planBatch, h0_planUnits, h0_planCents, h0_planMany, h0_planGot, h0_planSubstitutes, h0_at, h0_fault, h0_entries, h0_entry])), (zq, .inl (cI, 1002, .inl (upd (upd lf ((((10 + (7 * kg)) + 3) + lm) - 1) (nI 0)) ((10 + (7 * kg)) + 2) (((upd lf ((((10 + (7 * kg)) + 3) + lm) - 1) (nI 0)) ((10 + (7 * kg)) + 2)) - (nI 1))))), (pq, .inl (cI, 4008, .inl (zrec z past pm)))] := hD
    refine lv_iload hx hb dX10_removeSubstitute_127 (lv_at hl 1 rfl) ?_
    have hE : k = lm - 1 := by omega
    rw [hlf, hE] at hP
    have hP9 : va_P (dC, dI) vwCl [(h0, .inr (10, [.ref zq, .ref pq, h0_kept, h0_spare, .int (nI (if pm = 4 then 4 else pm + 1)), h0_isKept, h0_text, h0_typed, h0_isUsed, h0_planBatch, h0_planUnits, h0_planCents, h0_planMany, h0_planGot, h0_planSubstitutes, h0_at, h0_fault, h0_entries, h0_entry])), (zq, .inl (cI, 1002, .inl (zrem z kg pl lm))), (pq, .inl (cI, 4008, .inl (zrec z past pm)))] H := hP
    have hS9 : va_S (va_B [(h0, .inr (10, [.ref zq, .ref pq, h0_kept, h0_spare, .int (nI pm), h0_isKept, h0_text, h0_typed, h0_isUsed, h0_planBatch, h0_planUnits, h0_planCents, h0_planMany, h0_planGot, h0_planSubstitutes, h0_at, h0_fault, h0_entries, h0_entry])), (zq, .inl (cI, 1002, .inl z)), (pq, .inl (cI, 4008, .inl past))]) s.heap H locs := by rw [← hA]; exact hS
    exact W.iret (v := z (((10 + (7 * kg)) + 3) + pl)) hx hb hr (fun t ht hW => ⟨⟨_, _, rfl, ⟨(show z (((10 + (7 * kg)) + 3) + pl) = z (10 + 7 * kg + 3 + pl) from rfl), rfl⟩, by rw [ht]; exact hP9⟩, hS9.X ht⟩) hS9.2.2 dX10_removeSubstitute_129
  refine lv_aload_n hx hb dX10_removeSubstitute_69 rfl (lv_at hl 4 rfl) ?_
  refine va_get (D := (dC, dI)) (ci := 10) (v := .ref zq) (C := RX10) (T := TX10) (N := 19) hx hb hts i_X10 hown hK hP 0 rfl rfl 0 (by decide) k_7 (fun _ h9 => h9) rfl dX10_removeSubstitute_70 ?_
  refine lv_iload hx hb dX10_removeSubstitute_73 (lv_at hl 2 rfl) ?_
  refine lv_iload hx hb dX10_removeSubstitute_75 (lv_at hl 0 rfl) ?_
  refine xr_iadd_n hx hb dX10_removeSubstitute_77 ?_
  refine lv_aload_n hx hb dX10_removeSubstitute_78 rfl (lv_at hl 4 rfl) ?_
  refine va_get (D := (dC, dI)) (ci := 10) (v := .ref zq) (C := RX10) (T := TX10) (N := 19) hx hb hts i_X10 hown hK hP 0 rfl rfl 0 (by decide) k_7 (fun _ h9 => h9) rfl dX10_removeSubstitute_79 ?_
  refine lv_iload hx hb dX10_removeSubstitute_82 (lv_at hl 2 rfl) ?_
  refine lv_iload hx hb dX10_removeSubstitute_84 (lv_at hl 0 rfl) ?_
  refine xr_iadd_n hx hb dX10_removeSubstitute_86 ?_
  refine lv_iconst (v := nI 1) hx hb dX10_removeSubstitute_87 (by decide) ?_
  refine xr_iadd_n hx hb dX10_removeSubstitute_88 ?_
  refine xr_iald hx hb hK hP 1 0 rfl rfl (i := (((10 + (7 * kg)) + 3) + k) + 1) (by omega) (by decide) dX10_removeSubstitute_89 ?_
  refine xr_iast hx hb hK hP hD hS 1 0 rfl rfl (i := ((10 + (7 * kg)) + 3) + k) (by omega) (by decide) dX10_removeSubstitute_90 (fun H locs hP hD hS => ?_)
  have hP : va_P (dC, dI) vwCl [(h0, .inr (10, [.ref zq, .ref pq, h0_kept, h0_spare, .int (nI (if pm = 4 then 4 else pm + 1)), h0_isKept, h0_text, h0_typed, h0_isUsed, h0_planBatch, h0_planUnits, h0_planCents, h0_planMany, h0_planGot, h0_planSubstitutes, h0_at, h0_fault, h0_entries, h0_entry])), (zq, .inl (cI, 1002, .inl (upd lf (((10 + (7 * kg)) + 3) + k) (lf ((((10 + (7 * kg)) + 3) + k) + 1))))), (pq, .inl (cI, 4008, .inl (zrec z past pm)))] H := hP
  have hD : va_D A [(h0, .inr (10, [.ref zq, .ref pq, h0_kept, h0_spare, .int (nI (if pm = 4 then 4 else pm + 1)), h0_isKept, h0_text, h0_typed, h0_isUsed, h0_planBatch, h0_planUnits, h0_planCents, h0_planMany, h0_planGot, h0_planSubstitutes, h0_at, h0_fault, h0_entries, h0_entry])), (zq, .inl (cI, 1002, .inl (upd lf (((10 + (7 * kg)) + 3) + k) (lf ((((10 + (7 * kg)) + 3) + k) + 1))))), (pq, .inl (cI, 4008, .inl (zrec z past pm)))] := hD
  refine lv_iinc (v := nI (k + 1)) (lv' := [(6, .int (nI (k + 1))), (5, .int (z (((10 + (7 * kg)) + 3) + pl))), (4, .int (nI ((10 + (7 * kg)) + 3))), (3, .int (nI lm)), (0, .ref h0), (1, .int (nI kg)), (2, .int (nI pl))]) hx hb dX10_removeSubstitute_91 hl (k := 0) rfl (nI_inc1 k) (by decide) rfl (fun ls hl => ?_)
  refine lv_goto (tgt := 61) hx hb dX10_removeSubstitute_94 (by decide) ?_
  exact ih_61 ((lm + 1) - (k + 1)) _ _ _ (show (lm + 1) - (k + 1) < (lm + 1) - k from by omega) ⟨(k + 1), (upd lf (((10 + (7 * kg)) + 3) + k) (lf ((((10 + (7 * kg)) + 3) + k) + 1))), ls, rfl, rfl, lv_sub hl [0, 1, 2, 3, 4, 5, 6] rfl, hP, hD, hS, (⟨by omega, by omega⟩), (by rw [hlf]; exact zsl_1 hk9.1)⟩
