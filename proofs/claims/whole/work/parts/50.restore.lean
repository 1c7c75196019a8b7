set_option maxHeartbeats 4000000 in
set_option maxRecDepth 100000 in
theorem c_X10_restores (l : Launch) (dC : Nat → ClassId) (dI : Nat → Nat → Nat) (cI cF cC cZ cQ cS : ClassId) (h0 : Nat) (zq : Nat) (pq : Nat) (yq : Nat) (h0_spare : Value) (h0_text : Value) (h0_typed : Value) (h0_isUsed : Value) (h0_planBatch : Value) (h0_planUnits : Value) (h0_planCents : Value) (h0_planMany : Value) (h0_planGot : Value) (h0_planSubstitutes : Value) (h0_at : Value) (h0_fault : Value) (h0_entries : Value) (h0_entry : Value) (z : Nat → Int32) (past : Nat → Int32) (kept : Nat → Int32) (pm : Nat) (hpm : pm ≤ 4) : Met l yX10_restore wsX10_restore ({ frames := 1, cells := 0, slots := 0, locals := 21 }) (xPre (dC, dI) vwCl [.ref h0] (xtys cI cF cC cZ cQ cS) [(h0, .inr (10, [.ref zq, .ref pq, .ref yq, h0_spare, .int (nI pm), .int (nI 1), h0_text, h0_typed, h0_isUsed, h0_planBatch, h0_planUnits, h0_planCents, h0_planMany, h0_planGot, h0_planSubstitutes, h0_at, h0_fault, h0_entries, h0_entry])), (zq, .inl (cI, 1002, .inl z)), (pq, .inl (cI, 4008, .inl past)), (yq, .inl (cI, 1002, .inl kept))]) (xWi (dC, dI) vwCl [(h0, .inr (10, [.ref zq, .ref pq, .ref yq, h0_spare, .int (nI pm), .int (nI 1), h0_text, h0_typed, h0_isUsed, h0_planBatch, h0_planUnits, h0_planCents, h0_planMany, h0_planGot, h0_planSubstitutes, h0_at, h0_fault, h0_entries, h0_entry])), (zq, .inl (cI, 1002, .inl z)), (pq, .inl (cI, 4008, .inl past)), (yq, .inl (cI, 1002, .inl kept))] (fun r0 w0 => r0 = zcp kept z 1002 0 ∧ w0 = [(h0, .inr (10, [.ref zq, .ref pq, .ref yq, h0_spare, .int (nI (if pm = 4 then 4 else pm + 1)), .int (nI 1), h0_text, h0_typed, h0_isUsed, h0_planBatch, h0_planUnits, h0_planCents, h0_planMany, h0_planGot, h0_planSubstitutes, h0_at, h0_fault, h0_entries, h0_entry])), (zq, .inl (cI, 1002, .inl (zcp kept z 1002))), (pq, .inl (cI, 4008, .inl (zrec z past pm))), (yq, .inl (cI, 1002, .inl kept))])) 0 0 (va_B [(h0, .inr (10, [.ref zq, .ref pq, .ref yq, h0_spare, .int (nI pm), .int (nI 1), h0_text, h0_typed, h0_isUsed, h0_planBatch, h0_planUnits, h0_planCents, h0_planMany, h0_planGot, h0_planSubstitutes, h0_at, h0_fault, h0_entries, h0_entry])), (zq, .inl (cI, 1002, .inl z)), (pq, .inl (cI, 4008, .inl past)), (yq, .inl (cI, 1002, .inl kept))]) := by
  refine Met.ofW (cc := cX10_restore) (maxL := 2) (ret := (some .int)) (by decide) rfl ?_
  intro p e s m args below meth c s₁ B hml hv
  obtain ⟨rfl, hP, hK, hD0, hN⟩ := hv
  have hx := B.exec
  have hb := B.bytes
  have hr := B.returns
  have hts := atoms_spec (ws := wsX10_restore) B.pre
  have hown : s.vm.findClass RX10 = some m.cls := findClass_of_methodNamed B.named
  have hlocks := B.notSynchronized
  have k_16 := hts (Cond.fieldLink RX10 16 "ShelfStagesModel" "kept" "[I") (by decide +kernel)
  have k_49 := hts (Cond.fieldLink RX10 49 "ShelfStagesModel" "isKept" "Z") (by decide +kernel)
  have k_7 := hts (Cond.fieldLink RX10 7 "ShelfStagesModel" "z" "[I") (by decide +kernel)
  have i_X10 : ∀ w ∈ wsX100, w ∈ wsX10_restore := by decide +kernel
  obtain ⟨A, hA⟩ : ∃ A, A = va_B [(h0, .inr (10, [.ref zq, .ref pq, .ref yq, h0_spare, .int (nI pm), .int (nI 1), h0_text, h0_typed, h0_isUsed, h0_planBatch, h0_planUnits, h0_planCents, h0_planMany, h0_planGot, h0_planSubstitutes, h0_at, h0_fault, h0_entries, h0_entry])), (zq, .inl (cI, 1002, .inl z)), (pq, .inl (cI, 4008, .inl past)), (yq, .inl (cI, 1002, .inl kept))] := ⟨_, rfl⟩
  have hD : va_D A [(h0, .inr (10, [.ref zq, .ref pq, .ref yq, h0_spare, .int (nI pm), .int (nI 1), h0_text, h0_typed, h0_isUsed, h0_planBatch, h0_planUnits, h0_planCents, h0_planMany, h0_planGot, h0_planSubstitutes, h0_at, h0_fault, h0_entries, h0_entry])), (zq, .inl (cI, 1002, .inl z)), (pq, .inl (cI, 4008, .inl past)), (yq, .inl (cI, 1002, .inl kept))] := hA ▸ hD0.own
  have hS : va_S A s.heap s.heap [] := va_S.rf
  have hl := lv_entry ([.ref h0]) (n := 2) (Nat.le_of_ble_eq_true rfl)
  rw [lg_entry_eq]
  generalize (lg_sl ([.ref h0]) ++ List.replicate (2 - (lg_sl ([.ref h0])).length) Slot.unset).toArray = ls at hl ⊢
  have hl : lv_has ls 2 [(0, .ref h0)] := hl
  refine lv_aload_n hx hb dX10_restore_0 rfl (lv_at hl 0 rfl) ?_
  refine va_get (D := (dC, dI)) (ci := 10) (v := .int (nI 1)) (C := RX10) (T := TX10) (N := 19) hx hb hts i_X10 hown hK hP 0 rfl rfl 5 (by decide) k_49 (fun _ h9 => h9) rfl dX10_restore_1 ?_
  refine xr_ifn1 (tgt := 10) hx hb (by decide) dX10_restore_4 (by decide) ?_
  refine lv_aload_n hx hb dX10_restore_10 rfl (lv_at hl 0 rfl) ?_
  refine xkV2 (xV (As := []) (rest := []) (wc := [(h0, .inr (10, [.ref zq, .ref pq, .ref yq, h0_spare, .int (nI pm), .int (nI 1), h0_text, h0_typed, h0_isUsed, h0_planBatch, h0_planUnits, h0_planCents, h0_planMany, h0_planGot, h0_planSubstitutes, h0_at, h0_fault, h0_entries, h0_entry])), (zq, .inl (cI, 1002, .inl z)), (pq, .inl (cI, 4008, .inl past))]) hx hb hml hown hts (c_X10_record l dC dI cI cF cC cZ cQ cS h0 zq pq (.ref yq) h0_spare (.int (nI 1)) h0_text h0_typed h0_isUsed h0_planBatch h0_planUnits h0_planCents h0_planMany h0_planGot h0_planSubstitutes h0_at h0_fault h0_entries h0_entry z past pm (by omega)) 0 gX10_restore_X10_record rfl rfl rfl hdV_X10_record ⟨Nat.le_of_ble_eq_true rfl, Nat.le_of_ble_eq_true rfl⟩ hN hK hP hD [0, 1, 2] rfl rfl 10 0 rfl rfl rfl hl.1 rfl (Nat.le_of_ble_eq_true rfl) dX10_restore_11 ⟨Nat.zero_le _, Nat.zero_le _⟩) hP hD hS [0, 1, 2] [0, 1, 2, 3] rfl rfl 4 rfl (by decide +kernel) (fun H locs hP hD hS => ?_)
  have hP : va_P (dC, dI) vwCl [(h0, .inr (10, [.ref zq, .ref pq, .ref yq, h0_spare, .int (nI (if pm = 4 then 4 else pm + 1)), .int (nI 1), h0_text, h0_typed, h0_isUsed, h0_planBatch, h0_planUnits, h0_planCents, h0_planMany, h0_planGot, h0_planSubstitutes, h0_at, h0_fault, h0_entries, h0_entry])), (zq, .inl (cI, 1002, .inl z)), (pq, .inl (cI, 4008, .inl (zrec z past pm))), (yq, .inl (cI, 1002, .inl kept))] H := hP
  have hD : va_D A [(h0, .inr (10, [.ref zq, .ref pq, .ref yq, h0_spare, .int (nI (if pm = 4 then 4 else pm + 1)), .int (nI 1), h0_text, h0_typed, h0_isUsed, h0_planBatch, h0_planUnits, h0_planCents, h0_planMany, h0_planGot, h0_planSubstitutes, h0_at, h0_fault, h0_entries, h0_entry])), (zq, .inl (cI, 1002, .inl z)), (pq, .inl (cI, 4008, .inl (zrec z past pm))), (yq, .inl (cI, 1002, .inl kept))] := hD
  refine lv_iconst (v := nI 0) hx hb dX10_restore_14 (by decide) ?_
  refine lv_istore_n (lv' := [(1, .int (nI 0)), (0, .ref h0)]) hx hb dX10_restore_15 rfl hl (by decide) rfl (fun ls hl => ?_)
  refine xr_loop (J := Nat) (fun n0 H locs g => ∃ (k : Nat) (lf : Nat → Int32) (ls : Array Slot), n0 = 1002 - k ∧ g = F0 m 16 ls [] ∧ lv_has ls 2 [(1, .int (nI k)), (0, .ref h0)] ∧ va_P (dC, dI) vwCl [(h0, .inr (10, [.ref zq, .ref pq, .ref yq, h0_spare, .int (nI (if pm = 4 then 4 else pm + 1)), .int (nI 1), h0_text, h0_typed, h0_isUsed, h0_planBatch, h0_planUnits, h0_planCents, h0_planMany, h0_planGot, h0_planSubstitutes, h0_at, h0_fault, h0_entries, h0_entry])), (zq, .inl (cI, 1002, .inl lf)), (pq, .inl (cI, 4008, .inl (zrec z past pm))), (yq, .inl (cI, 1002, .inl kept))] H ∧ va_D A [(h0, .inr (10, [.ref zq, .ref pq, .ref yq, h0_spare, .int (nI (if pm = 4 then 4 else pm + 1)), .int (nI 1), h0_text, h0_typed, h0_isUsed, h0_planBatch, h0_planUnits, h0_planCents, h0_planMany, h0_planGot, h0_planSubstitutes, h0_at, h0_fault, h0_entries, h0_entry])), (zq, .inl (cI, 1002, .inl lf)), (pq, .inl (cI, 4008, .inl (zrec z past pm))), (yq, .inl (cI, 1002, .inl kept))] ∧ va_S A s.heap H locs ∧ (k ≤ 1002) ∧ (lf = zcp kept z k)) (fun n => n) ?_ (1002 - 0) (g := F0 m 16 ls []) ⟨0, z, ls, rfl, rfl, lv_sub hl [0, 1] rfl, hP, hD, hS, (Nat.zero_le _), (zcp_0 _ _)⟩
  intro n0 ih_16 H locs g hp
  obtain ⟨k, lf, ls, rfl, rfl, hl, hP, hD, hS, hk, hlf⟩ := hp
  refine lv_iload_n hx hb dX10_restore_16 rfl (lv_at hl 0 rfl) ?_
  refine lv_sipush (v := nI 1002) hx hb dX10_restore_17 (by decide) ?_
  refine xr_ge_n (tgt := 41) hx hb (by omega) (by omega) dX10_restore_20 (by decide) (fun c_1 => ?_) (fun c_1 => ?_)
  · skip
    refine lv_aload_n hx hb dX10_restore_41 rfl (lv_at hl 1 rfl) ?_
    refine va_get (D := (dC, dI)) (ci := 10) (v := .ref zq) (C := RX10) (T := TX10) (N := 19) hx hb hts i_X10 hown hK hP 0 rfl rfl 0 (by decide) k_7 (fun _ h9 => h9) rfl dX10_restore_42 ?_
    refine lv_iconst (v := nI 0) hx hb dX10_restore_45 (by decide) ?_
    refine xr_iald hx hb hK hP 1 0 rfl rfl (i := 0) (by omega) (by decide) dX10_restore_46 ?_
    have hE : k = 1002 := by omega
    rw [hlf, hE] at hP
    have hP9 : va_P (dC, dI) vwCl [(h0, .inr (10, [.ref zq, .ref pq, .ref yq, h0_spare, .int (nI (if pm = 4 then 4 else pm + 1)), .int (nI 1), h0_text, h0_typed, h0_isUsed, h0_planBatch, h0_planUnits, h0_planCents, h0_planMany, h0_planGot, h0_planSubstitutes, h0_at, h0_fault, h0_entries, h0_entry])), (zq, .inl (cI, 1002, .inl (zcp kept z 1002))), (pq, .inl (cI, 4008, .inl (zrec z past pm))), (yq, .inl (cI, 1002, .inl kept))] H := hP
    have hS9 : va_S (va_B [(h0, .inr (10, [.ref zq, .ref pq, .ref yq, h0_spare, .int (nI pm), .int (nI 1), h0_text, h0_typed, h0_isUsed, h0_planBatch, h0_planUnits, h0_planCents, h0_planMany, h0_planGot, h0_planSubstitutes, h0_at, h0_fault, h0_entries, h0_entry])), (zq, .inl (cI, 1002, .inl z)), (pq, .inl (cI, 4008, .inl past)), (yq, .inl (cI, 1002, .inl kept))]) s.heap H locs := by rw [← hA]; exact hS
    exact W.iret (v := lf 0) hx hb hr (fun t ht hW => ⟨⟨_, _, rfl, ⟨(show lf 0 = zcp kept z 1002 0 from (by rw [hlf, hE])), rfl⟩, by rw [ht]; exact hP9⟩, hS9.X ht⟩) hS9.2.2 dX10_restore_47
  refine lv_aload_n hx hb dX10_restore_23 rfl (lv_at hl 1 rfl) ?_
  refine va_get (D := (dC, dI)) (ci := 10) (v := .ref zq) (C := RX10) (T := TX10) (N := 19) hx hb hts i_X10 hown hK hP 0 rfl rfl 0 (by decide) k_7 (fun _ h9 => h9) rfl dX10_restore_24 ?_
  refine lv_iload_n hx hb dX10_restore_27 rfl (lv_at hl 0 rfl) ?_
  refine lv_aload_n hx hb dX10_restore_28 rfl (lv_at hl 1 rfl) ?_
  refine va_get (D := (dC, dI)) (ci := 10) (v := .ref yq) (C := RX10) (T := TX10) (N := 19) hx hb hts i_X10 hown hK hP 0 rfl rfl 2 (by decide) k_16 (fun _ h9 => h9) rfl dX10_restore_29 ?_
  refine lv_iload_n hx hb dX10_restore_32 rfl (lv_at hl 0 rfl) ?_
  refine xr_iald hx hb hK hP 3 0 rfl rfl (i := k) (by omega) (by decide) dX10_restore_33 ?_
  refine xr_iast hx hb hK hP hD hS 1 0 rfl rfl (i := k) (by omega) (by decide) dX10_restore_34 (fun H locs hP hD hS => ?_)
  have hP : va_P (dC, dI) vwCl [(h0, .inr (10, [.ref zq, .ref pq, .ref yq, h0_spare, .int (nI (if pm = 4 then 4 else pm + 1)), .int (nI 1), h0_text, h0_typed, h0_isUsed, h0_planBatch, h0_planUnits, h0_planCents, h0_planMany, h0_planGot, h0_planSubstitutes, h0_at, h0_fault, h0_entries, h0_entry])), (zq, .inl (cI, 1002, .inl (upd lf k (kept k)))), (pq, .inl (cI, 4008, .inl (zrec z past pm))), (yq, .inl (cI, 1002, .inl kept))] H := hP
  have hD : va_D A [(h0, .inr (10, [.ref zq, .ref pq, .ref yq, h0_spare, .int (nI (if pm = 4 then 4 else pm + 1)), .int (nI 1), h0_text, h0_typed, h0_isUsed, h0_planBatch, h0_planUnits, h0_planCents, h0_planMany, h0_planGot, h0_planSubstitutes, h0_at, h0_fault, h0_entries, h0_entry])), (zq, .inl (cI, 1002, .inl (upd lf k (kept k)))), (pq, .inl (cI, 4008, .inl (zrec z past pm))), (yq, .inl (cI, 1002, .inl kept))] := hD
  refine lv_iinc (v := nI (k + 1)) (lv' := [(1, .int (nI (k + 1))), (0, .ref h0)]) hx hb dX10_restore_35 hl (k := 0) rfl (nI_inc1 k) (by decide) rfl (fun ls hl => ?_)
  refine lv_goto (tgt := 16) hx hb dX10_restore_38 (by decide) ?_
  exact ih_16 (1002 - (k + 1)) _ _ _ (show 1002 - (k + 1) < 1002 - k from by omega) ⟨(k + 1), (upd lf k (kept k)), ls, rfl, rfl, lv_sub hl [0, 1] rfl, hP, hD, hS, (by omega), (by rw [hlf]; exact zcp_1 _ _ _)⟩
