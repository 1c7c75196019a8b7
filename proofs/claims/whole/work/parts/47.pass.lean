set_option maxHeartbeats 4000000 in
set_option maxRecDepth 100000 in
theorem c_X10_passs (l : Launch) (dC : Nat → ClassId) (dI : Nat → Nat → Nat) (cI cF cC cZ cQ cS : ClassId) (h0 : Nat) (zq : Nat) (pq : Nat) (h0_kept : Value) (h0_spare : Value) (h0_isKept : Value) (h0_text : Value) (h0_typed : Value) (h0_isUsed : Value) (h0_planBatch : Value) (h0_planUnits : Value) (h0_planCents : Value) (h0_planMany : Value) (h0_planGot : Value) (h0_planSubstitutes : Value) (h0_at : Value) (h0_fault : Value) (h0_entries : Value) (h0_entry : Value) (z : Nat → Int32) (past : Nat → Int32) (pm : Nat) (bz : Nat) (dn : Nat) (hpm : pm ≤ 4) (hz2 : z 2 = nI bz) (hbz : bz ≤ 40) (hgi : zidx z bz) (hdn : dn ≤ 60) (hd : nI 1 ≤ nI dn ∧ nI dn ≤ nI 60) (hdy : z 0 + nI dn ≤ nI 9999) : Met l yX10_pass wsX10_pass ({ frames := 4, cells := 0, slots := 0, locals := 91 }) (xPre (dC, dI) vwCl [.ref h0, .int (nI dn)] (xtys cI cF cC cZ cQ cS) [(h0, .inr (10, [.ref zq, .ref pq, h0_kept, h0_spare, .int (nI pm), h0_isKept, h0_text, h0_typed, h0_isUsed, h0_planBatch, h0_planUnits, h0_planCents, h0_planMany, h0_planGot, h0_planSubstitutes, h0_at, h0_fault, h0_entries, h0_entry])), (zq, .inl (cI, 1002, .inl z)), (pq, .inl (cI, 4008, .inl past))]) (xWi (dC, dI) vwCl [(h0, .inr (10, [.ref zq, .ref pq, h0_kept, h0_spare, .int (nI pm), h0_isKept, h0_text, h0_typed, h0_isUsed, h0_planBatch, h0_planUnits, h0_planCents, h0_planMany, h0_planGot, h0_planSubstitutes, h0_at, h0_fault, h0_entries, h0_entry])), (zq, .inl (cI, 1002, .inl z)), (pq, .inl (cI, 4008, .inl past))] (fun r0 w0 => r0 = (zps z bz dn).1 ∧ w0 = [(h0, .inr (10, [.ref zq, .ref pq, h0_kept, h0_spare, .int (nI (if pm = 4 then 4 else pm + 1)), h0_isKept, h0_text, h0_typed, h0_isUsed, h0_planBatch, h0_planUnits, h0_planCents, h0_planMany, h0_planGot, h0_planSubstitutes, h0_at, h0_fault, h0_entries, h0_entry])), (zq, .inl (cI, 1002, .inl ((zps z bz dn).2))), (pq, .inl (cI, 4008, .inl (zrec z past pm)))])) 0 0 (va_B [(h0, .inr (10, [.ref zq, .ref pq, h0_kept, h0_spare, .int (nI pm), h0_isKept, h0_text, h0_typed, h0_isUsed, h0_planBatch, h0_planUnits, h0_planCents, h0_planMany, h0_planGot, h0_planSubstitutes, h0_at, h0_fault, h0_entries, h0_entry])), (zq, .inl (cI, 1002, .inl z)), (pq, .inl (cI, 4008, .inl past))]) := by
  refine Met.ofW (cc := cX10_pass) (maxL := 4) (ret := (some .int)) (by decide) rfl ?_
  intro p e s m args below meth c s₁ B hml hv
  obtain ⟨rfl, hP, hK, hD0, hN⟩ := hv
  have hx := B.exec
  have hb := B.bytes
  have hr := B.returns
  have hts := atoms_spec (ws := wsX10_pass) B.pre
  have hown : s.vm.findClass RX10 = some m.cls := findClass_of_methodNamed B.named
  have hlocks := B.notSynchronized
  have k_7 := hts (Cond.fieldLink RX10 7 "ShelfStagesModel" "z" "[I") (by decide +kernel)
  have i_X10 : ∀ w ∈ wsX100, w ∈ wsX10_pass := by decide +kernel
  obtain ⟨A, hA⟩ : ∃ A, A = va_B [(h0, .inr (10, [.ref zq, .ref pq, h0_kept, h0_spare, .int (nI pm), h0_isKept, h0_text, h0_typed, h0_isUsed, h0_planBatch, h0_planUnits, h0_planCents, h0_planMany, h0_planGot, h0_planSubstitutes, h0_at, h0_fault, h0_entries, h0_entry])), (zq, .inl (cI, 1002, .inl z)), (pq, .inl (cI, 4008, .inl past))] := ⟨_, rfl⟩
  have hD : va_D A [(h0, .inr (10, [.ref zq, .ref pq, h0_kept, h0_spare, .int (nI pm), h0_isKept, h0_text, h0_typed, h0_isUsed, h0_planBatch, h0_planUnits, h0_planCents, h0_planMany, h0_planGot, h0_planSubstitutes, h0_at, h0_fault, h0_entries, h0_entry])), (zq, .inl (cI, 1002, .inl z)), (pq, .inl (cI, 4008, .inl past))] := hA ▸ hD0.own
  have hS : va_S A s.heap s.heap [] := va_S.rf
  have hl := lv_entry ([.ref h0, .int (nI dn)]) (n := 4) (Nat.le_of_ble_eq_true rfl)
  rw [lg_entry_eq]
  generalize (lg_sl ([.ref h0, .int (nI dn)]) ++ List.replicate (4 - (lg_sl ([.ref h0, .int (nI dn)])).length) Slot.unset).toArray = ls at hl ⊢
  have hl : lv_has ls 4 [(0, .ref h0), (1, .int (nI dn))] := hl
  refine lv_iload_n hx hb dX10_pass_0 rfl (lv_at hl 1 rfl) ?_
  refine lv_iconst (v := nI 1) hx hb dX10_pass_1 (by decide) ?_
  refine lv_bipush (v := nI 60) hx hb dX10_pass_2 (by decide) ?_
  refine xkRi (xSs (Ws' := ([] : List Cond)) (As := [.int (nI dn), .int (nI 1), .int (nI 60)]) (rest := []) (wc := []) hx hb hml hown hts (c_X10_in l dC dI cI cF cC cZ cQ cS (nI dn) (nI 1) (nI 60)) 3 (fun hR => va_cwS 3 hts gX10_pass_X10_in rfl rfl rfl hdN_X10_in hR) ⟨Nat.le_of_ble_eq_true rfl, Nat.le_of_ble_eq_true rfl⟩ hN hK hP hD [] rfl rfl rfl hl.1 rfl (Nat.le_of_ble_eq_true rfl) dX10_pass_4 ⟨Nat.zero_le _, Nat.zero_le _⟩) (fun r_1 hr_1 => ?_)
  have hr_1 : r_1 = (if (nI 1) ≤ (nI dn) ∧ (nI dn) ≤ (nI 60) then nI 1 else nI 0) := hr_1
  obtain rfl : r_1 = nI 1 := hr_1.trans (if_pos hd)
  refine xr_ifn1 (tgt := 13) hx hb (by decide) dX10_pass_7 (by decide) ?_
  refine lv_aload_n hx hb dX10_pass_13 rfl (lv_at hl 0 rfl) ?_
  refine va_get (D := (dC, dI)) (ci := 10) (v := .ref zq) (C := RX10) (T := TX10) (N := 19) hx hb hts i_X10 hown hK hP 0 rfl rfl 0 (by decide) k_7 (fun _ h9 => h9) rfl dX10_pass_14 ?_
  refine lv_iconst (v := nI 0) hx hb dX10_pass_17 (by decide) ?_
  refine xr_iald hx hb hK hP 1 0 rfl rfl (i := 0) (by omega) (by decide) dX10_pass_18 ?_
  refine lv_iload_n hx hb dX10_pass_19 rfl (lv_at hl 1 rfl) ?_
  refine lv_iadd hx hb dX10_pass_20 ?_
  refine lv_sipush (v := nI 9999) hx hb dX10_pass_21 (by decide) ?_
  refine lv_icmp_le (tgt := 30) hx hb dX10_pass_24 (by decide) (fun c_2 => ?_) (fun c_2 => False.elim (by exact c_2 hdy))
  refine lv_aload_n hx hb dX10_pass_30 rfl (lv_at hl 0 rfl) ?_
  refine xkV2 (xV (As := []) (rest := []) (wc := [(h0, .inr (10, [.ref zq, .ref pq, h0_kept, h0_spare, .int (nI pm), h0_isKept, h0_text, h0_typed, h0_isUsed, h0_planBatch, h0_planUnits, h0_planCents, h0_planMany, h0_planGot, h0_planSubstitutes, h0_at, h0_fault, h0_entries, h0_entry])), (zq, .inl (cI, 1002, .inl z)), (pq, .inl (cI, 4008, .inl past))]) hx hb hml hown hts (c_X10_record l dC dI cI cF cC cZ cQ cS h0 zq pq h0_kept h0_spare h0_isKept h0_text h0_typed h0_isUsed h0_planBatch h0_planUnits h0_planCents h0_planMany h0_planGot h0_planSubstitutes h0_at h0_fault h0_entries h0_entry z past pm (by omega)) 0 gX10_pass_X10_record rfl rfl rfl hdV_X10_record ⟨Nat.le_of_ble_eq_true rfl, Nat.le_of_ble_eq_true rfl⟩ hN hK hP hD [0, 1, 2] rfl rfl 10 0 rfl rfl rfl hl.1 rfl (Nat.le_of_ble_eq_true rfl) dX10_pass_31 ⟨Nat.zero_le _, Nat.zero_le _⟩) hP hD hS [0, 1, 2] [0, 1, 2] rfl rfl 3 rfl (by decide +kernel) (fun H locs hP hD hS => ?_)
  have hP : va_P (dC, dI) vwCl [(h0, .inr (10, [.ref zq, .ref pq, h0_kept, h0_spare, .int (nI (if pm = 4 then 4 else pm + 1)), h0_isKept, h0_text, h0_typed, h0_isUsed, h0_planBatch, h0_planUnits, h0_planCents, h0_planMany, h0_planGot, h0_planSubstitutes, h0_at, h0_fault, h0_entries, h0_entry])), (zq, .inl (cI, 1002, .inl z)), (pq, .inl (cI, 4008, .inl (zrec z past pm)))] H := hP
  have hD : va_D A [(h0, .inr (10, [.ref zq, .ref pq, h0_kept, h0_spare, .int (nI (if pm = 4 then 4 else pm + 1)), h0_isKept, h0_text, h0_typed, h0_isUsed, h0_planBatch, h0_planUnits, h0_planCents, h0_planMany, h0_planGot, h0_planSubstitutes, h0_at, h0_fault, h0_entries, h0_entry])), (zq, .inl (cI, 1002, .inl z)), (pq, .inl (cI, 4008, .inl (zrec z past pm)))] := hD
  refine lv_iconst (v := nI 0) hx hb dX10_pass_34 (by decide) ?_
  refine lv_istore_n (lv' := [(2, .int (nI 0)), (0, .ref h0), (1, .int (nI dn))]) hx hb dX10_pass_35 rfl hl (by decide) rfl (fun ls hl => ?_)
  refine lv_iconst (v := nI 0) hx hb dX10_pass_36 (by decide) ?_
  refine lv_istore_n (lv' := [(3, .int (nI 0)), (2, .int (nI 0)), (0, .ref h0), (1, .int (nI dn))]) hx hb dX10_pass_37 rfl hl (by decide) rfl (fun ls hl => ?_)
  refine xr_loop (J := Nat) (fun n0 H locs g => ∃ (k : Nat) (acc : Int32) (lf : Nat → Int32) (ls : Array Slot), n0 = dn - k ∧ g = F0 m 38 ls [] ∧ lv_has ls 4 [(3, .int (nI k)), (2, .int acc), (0, .ref h0), (1, .int (nI dn))] ∧ va_P (dC, dI) vwCl [(h0, .inr (10, [.ref zq, .ref pq, h0_kept, h0_spare, .int (nI (if pm = 4 then 4 else pm + 1)), h0_isKept, h0_text, h0_typed, h0_isUsed, h0_planBatch, h0_planUnits, h0_planCents, h0_planMany, h0_planGot, h0_planSubstitutes, h0_at, h0_fault, h0_entries, h0_entry])), (zq, .inl (cI, 1002, .inl lf)), (pq, .inl (cI, 4008, .inl (zrec z past pm)))] H ∧ va_D A [(h0, .inr (10, [.ref zq, .ref pq, h0_kept, h0_spare, .int (nI (if pm = 4 then 4 else pm + 1)), h0_isKept, h0_text, h0_typed, h0_isUsed, h0_planBatch, h0_planUnits, h0_planCents, h0_planMany, h0_planGot, h0_planSubstitutes, h0_at, h0_fault, h0_entries, h0_entry])), (zq, .inl (cI, 1002, .inl lf)), (pq, .inl (cI, 4008, .inl (zrec z past pm)))] ∧ va_S A s.heap H locs ∧ (k ≤ dn) ∧ (lf 2 = nI bz) ∧ (zidx lf bz) ∧ (acc = (zps z bz k).1) ∧ (lf = (zps z bz k).2)) (fun n => n) ?_ (dn - 0) (g := F0 m 38 ls []) ⟨0, (nI 0), z, ls, rfl, rfl, lv_sub hl [0, 1, 2, 3] rfl, hP, hD, hS, (Nat.zero_le _), hz2, hgi, rfl, rfl⟩
  intro n0 ih_38 H locs g hp
  obtain ⟨k, acc, lf, ls, rfl, rfl, hl, hP, hD, hS, hk, hq2, hgl, hac, hlf⟩ := hp
  refine lv_iload_n hx hb dX10_pass_38 rfl (lv_at hl 0 rfl) ?_
  refine lv_iload_n hx hb dX10_pass_39 rfl (lv_at hl 3 rfl) ?_
  refine xr_ge_n (tgt := 56) hx hb (by omega) (by omega) dX10_pass_40 (by decide) (fun c_3 => ?_) (fun c_3 => ?_)
  · skip
    refine lv_iload_n hx hb dX10_pass_56 rfl (lv_at hl 1 rfl) ?_
    have hE : k = dn := by omega
    rw [hlf, hE] at hP
    have hP9 : va_P (dC, dI) vwCl [(h0, .inr (10, [.ref zq, .ref pq, h0_kept, h0_spare, .int (nI (if pm = 4 then 4 else pm + 1)), h0_isKept, h0_text, h0_typed, h0_isUsed, h0_planBatch, h0_planUnits, h0_planCents, h0_planMany, h0_planGot, h0_planSubstitutes, h0_at, h0_fault, h0_entries, h0_entry])), (zq, .inl (cI, 1002, .inl ((zps z bz dn).2))), (pq, .inl (cI, 4008, .inl (zrec z past pm)))] H := hP
    have hS9 : va_S (va_B [(h0, .inr (10, [.ref zq, .ref pq, h0_kept, h0_spare, .int (nI pm), h0_isKept, h0_text, h0_typed, h0_isUsed, h0_planBatch, h0_planUnits, h0_planCents, h0_planMany, h0_planGot, h0_planSubstitutes, h0_at, h0_fault, h0_entries, h0_entry])), (zq, .inl (cI, 1002, .inl z)), (pq, .inl (cI, 4008, .inl past))]) s.heap H locs := by rw [← hA]; exact hS
    exact W.iret (v := acc) hx hb hr (fun t ht hW => ⟨⟨_, _, rfl, ⟨(show acc = (zps z bz dn).1 from (by rw [hac, hE])), rfl⟩, by rw [ht]; exact hP9⟩, hS9.X ht⟩) hS9.2.2 dX10_pass_57
  refine lv_iload_n hx hb dX10_pass_43 rfl (lv_at hl 1 rfl) ?_
  refine lv_aload_n hx hb dX10_pass_44 rfl (lv_at hl 2 rfl) ?_
  refine xkI2 (xV (As := []) (rest := [.int acc]) (wc := [(h0, .inr (10, [.ref zq, .ref pq, h0_kept, h0_spare, .int (nI (if pm = 4 then 4 else pm + 1)), h0_isKept, h0_text, h0_typed, h0_isUsed, h0_planBatch, h0_planUnits, h0_planCents, h0_planMany, h0_planGot, h0_planSubstitutes, h0_at, h0_fault, h0_entries, h0_entry])), (zq, .inl (cI, 1002, .inl lf))]) hx hb hml hown hts (c_X10_passDay l dC dI cI cF cC cZ cQ cS h0 zq (.ref pq) h0_kept h0_spare (.int (nI (if pm = 4 then 4 else pm + 1))) h0_isKept h0_text h0_typed h0_isUsed h0_planBatch h0_planUnits h0_planCents h0_planMany h0_planGot h0_planSubstitutes h0_at h0_fault h0_entries h0_entry lf bz hq2 (by omega) hgl) 0 gX10_pass_X10_passDay rfl rfl rfl hdV_X10_passDay ⟨Nat.le_of_ble_eq_true rfl, Nat.le_of_ble_eq_true rfl⟩ hN hK hP hD [0, 1] rfl rfl 10 0 rfl rfl rfl hl.1 rfl (Nat.le_of_ble_eq_true rfl) dX10_pass_45 ⟨Nat.zero_le _, Nat.zero_le _⟩) hP hD hS [0, 1] [0, 1, 2] rfl rfl 3 rfl (by decide +kernel) (fun H locs hP hD hS => ?_)
  have hP : va_P (dC, dI) vwCl [(h0, .inr (10, [.ref zq, .ref pq, h0_kept, h0_spare, .int (nI (if pm = 4 then 4 else pm + 1)), h0_isKept, h0_text, h0_typed, h0_isUsed, h0_planBatch, h0_planUnits, h0_planCents, h0_planMany, h0_planGot, h0_planSubstitutes, h0_at, h0_fault, h0_entries, h0_entry])), (zq, .inl (cI, 1002, .inl ((zday lf bz).2))), (pq, .inl (cI, 4008, .inl (zrec z past pm)))] H := hP
  have hD : va_D A [(h0, .inr (10, [.ref zq, .ref pq, h0_kept, h0_spare, .int (nI (if pm = 4 then 4 else pm + 1)), h0_isKept, h0_text, h0_typed, h0_isUsed, h0_planBatch, h0_planUnits, h0_planCents, h0_planMany, h0_planGot, h0_planSubstitutes, h0_at, h0_fault, h0_entries, h0_entry])), (zq, .inl (cI, 1002, .inl ((zday lf bz).2))), (pq, .inl (cI, 4008, .inl (zrec z past pm)))] := hD
  refine lv_iadd hx hb dX10_pass_48 ?_
  refine lv_istore_n (lv' := [(2, .int (acc + ((zday lf bz).1))), (3, .int (nI k)), (0, .ref h0), (1, .int (nI dn))]) hx hb dX10_pass_49 rfl hl (by decide) rfl (fun ls hl => ?_)
  refine lv_iinc (v := nI (k + 1)) (lv' := [(3, .int (nI (k + 1))), (2, .int (acc + ((zday lf bz).1))), (0, .ref h0), (1, .int (nI dn))]) hx hb dX10_pass_50 hl (k := 1) rfl (nI_inc1 k) (by decide) rfl (fun ls hl => ?_)
  refine lv_goto (tgt := 38) hx hb dX10_pass_53 (by decide) ?_
  exact ih_38 (dn - (k + 1)) _ _ _ (show dn - (k + 1) < dn - k from by omega) ⟨(k + 1), (acc + ((zday lf bz).1)), ((zday lf bz).2), ls, rfl, rfl, lv_sub hl [0, 1, 2, 3] rfl, hP, hD, hS, (by omega), (zday_2 hq2), (zday_idx hgl hbz), (by rw [hac, hlf]; rfl), (by rw [hlf]; rfl)⟩
