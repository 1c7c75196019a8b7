set_option maxHeartbeats 4000000 in
set_option maxRecDepth 100000 in
theorem c_X10_wouldExpires (l : Launch) (dC : Nat → ClassId) (dI : Nat → Nat → Nat) (cI cF cC cZ cQ cS : ClassId) (h0 : Nat) (zq : Nat) (h0_past : Value) (h0_kept : Value) (sq : Nat) (h0_pastMany : Value) (h0_isKept : Value) (h0_text : Value) (h0_typed : Value) (h0_isUsed : Value) (h0_planBatch : Value) (h0_planUnits : Value) (h0_planCents : Value) (h0_planMany : Value) (h0_planGot : Value) (h0_planSubstitutes : Value) (h0_at : Value) (h0_fault : Value) (h0_entries : Value) (h0_entry : Value) (z : Nat → Int32) (spare : Nat → Int32) (bz : Nat) (kb : Nat) (dn : Nat) (hz2 : z 2 = nI bz) (hbz : bz ≤ 40) (hkb : kb < bz) (hgi : zidx z bz) (hdn : dn ≤ 60) (hd : nI 1 ≤ nI dn ∧ nI dn ≤ nI 60) : Met l yX10_wouldExpire wsX10_wouldExpire ({ frames := 4, cells := 0, slots := 0, locals := 91 }) (xPre (dC, dI) vwCl [.ref h0, .int (nI kb), .int (nI dn)] (xtys cI cF cC cZ cQ cS) [(h0, .inr (10, [.ref zq, h0_past, h0_kept, .ref sq, h0_pastMany, h0_isKept, h0_text, h0_typed, h0_isUsed, h0_planBatch, h0_planUnits, h0_planCents, h0_planMany, h0_planGot, h0_planSubstitutes, h0_at, h0_fault, h0_entries, h0_entry])), (zq, .inl (cI, 1002, .inl z)), (sq, .inl (cI, 1002, .inl spare))]) (xWi (dC, dI) vwCl [(h0, .inr (10, [.ref zq, h0_past, h0_kept, .ref sq, h0_pastMany, h0_isKept, h0_text, h0_typed, h0_isUsed, h0_planBatch, h0_planUnits, h0_planCents, h0_planMany, h0_planGot, h0_planSubstitutes, h0_at, h0_fault, h0_entries, h0_entry])), (zq, .inl (cI, 1002, .inl z)), (sq, .inl (cI, 1002, .inl spare))] (fun r0 w0 => r0 = zB (zps z bz dn).2 kb 6 - zB z kb 6 ∧ w0 = [(h0, .inr (10, [.ref zq, h0_past, h0_kept, .ref sq, h0_pastMany, h0_isKept, h0_text, h0_typed, h0_isUsed, h0_planBatch, h0_planUnits, h0_planCents, h0_planMany, h0_planGot, h0_planSubstitutes, h0_at, h0_fault, h0_entries, h0_entry])), (zq, .inl (cI, 1002, .inl (zcp (zcp z spare 1002) (zps z bz dn).2 1002))), (sq, .inl (cI, 1002, .inl (zcp z spare 1002)))])) 0 0 (va_B [(h0, .inr (10, [.ref zq, h0_past, h0_kept, .ref sq, h0_pastMany, h0_isKept, h0_text, h0_typed, h0_isUsed, h0_planBatch, h0_planUnits, h0_planCents, h0_planMany, h0_planGot, h0_planSubstitutes, h0_at, h0_fault, h0_entries, h0_entry])), (zq, .inl (cI, 1002, .inl z)), (sq, .inl (cI, 1002, .inl spare))]) := by
  refine Met.ofW (cc := cX10_wouldExpire) (maxL := 6) (ret := (some .int)) (by decide) rfl ?_
  intro p e s m args below meth c s₁ B hml hv
  obtain ⟨rfl, hP, hK, hD0, hN⟩ := hv
  have hx := B.exec
  have hb := B.bytes
  have hr := B.returns
  have hts := atoms_spec (ws := wsX10_wouldExpire) B.pre
  have hown : s.vm.findClass RX10 = some m.cls := findClass_of_methodNamed B.named
  have hlocks := B.notSynchronized
  have k_19 := hts (Cond.fieldLink RX10 19 "ShelfStagesModel" "spare" "[I") (by decide +kernel)
  have k_7 := hts (Cond.fieldLink RX10 7 "ShelfStagesModel" "z" "[I") (by decide +kernel)
  have i_X10 : ∀ w ∈ wsX100, w ∈ wsX10_wouldExpire := by decide +kernel
  obtain ⟨A, hA⟩ : ∃ A, A = va_B [(h0, .inr (10, [.ref zq, h0_past, h0_kept, .ref sq, h0_pastMany, h0_isKept, h0_text, h0_typed, h0_isUsed, h0_planBatch, h0_planUnits, h0_planCents, h0_planMany, h0_planGot, h0_planSubstitutes, h0_at, h0_fault, h0_entries, h0_entry])), (zq, .inl (cI, 1002, .inl z)), (sq, .inl (cI, 1002, .inl spare))] := ⟨_, rfl⟩
  have hD : va_D A [(h0, .inr (10, [.ref zq, h0_past, h0_kept, .ref sq, h0_pastMany, h0_isKept, h0_text, h0_typed, h0_isUsed, h0_planBatch, h0_planUnits, h0_planCents, h0_planMany, h0_planGot, h0_planSubstitutes, h0_at, h0_fault, h0_entries, h0_entry])), (zq, .inl (cI, 1002, .inl z)), (sq, .inl (cI, 1002, .inl spare))] := hA ▸ hD0.own
  have hS : va_S A s.heap s.heap [] := va_S.rf
  have hl := lv_entry ([.ref h0, .int (nI kb), .int (nI dn)]) (n := 6) (Nat.le_of_ble_eq_true rfl)
  rw [lg_entry_eq]
  generalize (lg_sl ([.ref h0, .int (nI kb), .int (nI dn)]) ++ List.replicate (6 - (lg_sl ([.ref h0, .int (nI kb), .int (nI dn)])).length) Slot.unset).toArray = ls at hl ⊢
  have hl : lv_has ls 6 [(0, .ref h0), (1, .int (nI kb)), (2, .int (nI dn))] := hl
  refine lv_aload_n hx hb dX10_wouldExpire_0 rfl (lv_at hl 0 rfl) ?_
  refine lv_iload_n hx hb dX10_wouldExpire_1 rfl (lv_at hl 1 rfl) ?_
  refine xkRi (xV (As := [.int (nI kb)]) (rest := []) (wc := [(h0, .inr (10, [.ref zq, h0_past, h0_kept, .ref sq, h0_pastMany, h0_isKept, h0_text, h0_typed, h0_isUsed, h0_planBatch, h0_planUnits, h0_planCents, h0_planMany, h0_planGot, h0_planSubstitutes, h0_at, h0_fault, h0_entries, h0_entry])), (zq, .inl (cI, 1002, .inl z))]) hx hb hml hown hts (c_X10_isBatch l dC dI cI cF cC cZ cQ cS h0 zq h0_past h0_kept (.ref sq) h0_pastMany h0_isKept h0_text h0_typed h0_isUsed h0_planBatch h0_planUnits h0_planCents h0_planMany h0_planGot h0_planSubstitutes h0_at h0_fault h0_entries h0_entry z (nI kb) bz (by omega) (by omega)) 1 gX10_wouldExpire_X10_isBatch rfl rfl rfl hdV_X10_isBatch ⟨Nat.le_of_ble_eq_true rfl, Nat.le_of_ble_eq_true rfl⟩ hN hK hP hD [0, 1] rfl rfl 10 0 rfl rfl rfl hl.1 rfl (Nat.le_of_ble_eq_true rfl) dX10_wouldExpire_2 ⟨Nat.zero_le _, Nat.zero_le _⟩) (fun r_1 hr_1 => ?_)
  have hr_1 : r_1 = (if xhas (nI kb) bz then nI 1 else nI 0) := hr_1
  obtain rfl : r_1 = nI 1 := hr_1.trans (if_pos (xhas_of hkb (by omega)))
  refine xr_ifn1 (tgt := 10) hx hb (by decide) dX10_wouldExpire_5 (by decide) ?_
  refine lv_iload_n hx hb dX10_wouldExpire_10 rfl (lv_at hl 2 rfl) ?_
  refine lv_iconst (v := nI 1) hx hb dX10_wouldExpire_11 (by decide) ?_
  refine lv_bipush (v := nI 60) hx hb dX10_wouldExpire_12 (by decide) ?_
  refine xkRi (xSs (Ws' := ([] : List Cond)) (As := [.int (nI dn), .int (nI 1), .int (nI 60)]) (rest := []) (wc := []) hx hb hml hown hts (c_X10_in l dC dI cI cF cC cZ cQ cS (nI dn) (nI 1) (nI 60)) 3 (fun hR => va_cwS 3 hts gX10_wouldExpire_X10_in rfl rfl rfl hdN_X10_in hR) ⟨Nat.le_of_ble_eq_true rfl, Nat.le_of_ble_eq_true rfl⟩ hN hK hP hD [] rfl rfl rfl hl.1 rfl (Nat.le_of_ble_eq_true rfl) dX10_wouldExpire_14 ⟨Nat.zero_le _, Nat.zero_le _⟩) (fun r_2 hr_2 => ?_)
  have hr_2 : r_2 = (if (nI 1) ≤ (nI dn) ∧ (nI dn) ≤ (nI 60) then nI 1 else nI 0) := hr_2
  obtain rfl : r_2 = nI 1 := hr_2.trans (if_pos hd)
  refine xr_ifn1 (tgt := 23) hx hb (by decide) dX10_wouldExpire_17 (by decide) ?_
  refine lv_iconst (v := nI 0) hx hb dX10_wouldExpire_23 (by decide) ?_
  refine lv_istore_n (lv' := [(3, .int (nI 0)), (0, .ref h0), (1, .int (nI kb)), (2, .int (nI dn))]) hx hb dX10_wouldExpire_24 rfl hl (by decide) rfl (fun ls hl => ?_)
  refine xr_loop (J := Nat) (fun n0 H locs g => ∃ (k : Nat) (lf : Nat → Int32) (ls : Array Slot), n0 = 1002 - k ∧ g = F0 m 25 ls [] ∧ lv_has ls 6 [(3, .int (nI k)), (0, .ref h0), (1, .int (nI kb)), (2, .int (nI dn))] ∧ va_P (dC, dI) vwCl [(h0, .inr (10, [.ref zq, h0_past, h0_kept, .ref sq, h0_pastMany, h0_isKept, h0_text, h0_typed, h0_isUsed, h0_planBatch, h0_planUnits, h0_planCents, h0_planMany, h0_planGot, h0_planSubstitutes, h0_at, h0_fault, h0_entries, h0_entry])), (zq, .inl (cI, 1002, .inl z)), (sq, .inl (cI, 1002, .inl lf))] H ∧ va_D A [(h0, .inr (10, [.ref zq, h0_past, h0_kept, .ref sq, h0_pastMany, h0_isKept, h0_text, h0_typed, h0_isUsed, h0_planBatch, h0_planUnits, h0_planCents, h0_planMany, h0_planGot, h0_planSubstitutes, h0_at, h0_fault, h0_entries, h0_entry])), (zq, .inl (cI, 1002, .inl z)), (sq, .inl (cI, 1002, .inl lf))] ∧ va_S A s.heap H locs ∧ (k ≤ 1002) ∧ (lf = zcp z spare k)) (fun n => n) ?_ (1002 - 0) (g := F0 m 25 ls []) ⟨0, spare, ls, rfl, rfl, lv_sub hl [0, 1, 2, 3] rfl, hP, hD, hS, (Nat.zero_le _), (zcp_0 _ _)⟩
  intro n0 ih_25 H locs g hp
  obtain ⟨k, lf, ls, rfl, rfl, hl, hP, hD, hS, hk, hlf⟩ := hp
  refine lv_iload_n hx hb dX10_wouldExpire_25 rfl (lv_at hl 0 rfl) ?_
  refine lv_sipush (v := nI 1002) hx hb dX10_wouldExpire_26 (by decide) ?_
  refine xr_ge_n (tgt := 50) hx hb (by omega) (by omega) dX10_wouldExpire_29 (by decide) (fun c_3 => ?_) (fun c_3 => ?_)
  · skip
    refine lv_aload_n hx hb dX10_wouldExpire_50 rfl (lv_at hl 1 rfl) ?_
    refine lv_iload_n hx hb dX10_wouldExpire_51 rfl (lv_at hl 2 rfl) ?_
    refine lv_bipush (v := nI 6) hx hb dX10_wouldExpire_52 (by decide) ?_
    refine xkRi (xV (As := [.int (nI kb), .int (nI 6)]) (rest := []) (wc := [(h0, .inr (10, [.ref zq, h0_past, h0_kept, .ref sq, h0_pastMany, h0_isKept, h0_text, h0_typed, h0_isUsed, h0_planBatch, h0_planUnits, h0_planCents, h0_planMany, h0_planGot, h0_planSubstitutes, h0_at, h0_fault, h0_entries, h0_entry])), (zq, .inl (cI, 1002, .inl z))]) hx hb hml hown hts (c_X10_ofBatch l dC dI cI cF cC cZ cQ cS h0 zq h0_past h0_kept (.ref sq) h0_pastMany h0_isKept h0_text h0_typed h0_isUsed h0_planBatch h0_planUnits h0_planCents h0_planMany h0_planGot h0_planSubstitutes h0_at h0_fault h0_entries h0_entry z kb 6 (by omega) (by omega)) 2 gX10_wouldExpire_X10_ofBatch rfl rfl rfl hdV_X10_ofBatch ⟨Nat.le_of_ble_eq_true rfl, Nat.le_of_ble_eq_true rfl⟩ hN hK hP hD [0, 1] rfl rfl 10 0 rfl rfl rfl hl.1 rfl (Nat.le_of_ble_eq_true rfl) dX10_wouldExpire_54 ⟨Nat.zero_le _, Nat.zero_le _⟩) (fun r_4 hr_4 => ?_)
    obtain rfl : r_4 = zB z kb 6 := hr_4
    refine lv_istore_n (lv' := [(3, .int (zB z kb 6)), (0, .ref h0), (1, .int (nI kb)), (2, .int (nI dn))]) hx hb dX10_wouldExpire_57 rfl hl (by decide) rfl (fun ls hl => ?_)
    refine lv_iconst (v := nI 0) hx hb dX10_wouldExpire_58 (by decide) ?_
    refine lv_istore (lv' := [(4, .int (nI 0)), (3, .int (zB z kb 6)), (0, .ref h0), (1, .int (nI kb)), (2, .int (nI dn))]) hx hb dX10_wouldExpire_59 hl (by decide) rfl (fun ls hl => ?_)
    refine xr_loop (J := Nat) (fun n0 H locs g => ∃ (j : Nat) (lg : Nat → Int32) (ls : Array Slot), n0 = dn - j ∧ g = F0 m 61 ls [] ∧ lv_has ls 6 [(4, .int (nI j)), (3, .int (zB z kb 6)), (0, .ref h0), (1, .int (nI kb)), (2, .int (nI dn))] ∧ va_P (dC, dI) vwCl [(h0, .inr (10, [.ref zq, h0_past, h0_kept, .ref sq, h0_pastMany, h0_isKept, h0_text, h0_typed, h0_isUsed, h0_planBatch, h0_planUnits, h0_planCents, h0_planMany, h0_planGot, h0_planSubstitutes, h0_at, h0_fault, h0_entries, h0_entry])), (zq, .inl (cI, 1002, .inl lg)), (sq, .inl (cI, 1002, .inl lf))] H ∧ va_D A [(h0, .inr (10, [.ref zq, h0_past, h0_kept, .ref sq, h0_pastMany, h0_isKept, h0_text, h0_typed, h0_isUsed, h0_planBatch, h0_planUnits, h0_planCents, h0_planMany, h0_planGot, h0_planSubstitutes, h0_at, h0_fault, h0_entries, h0_entry])), (zq, .inl (cI, 1002, .inl lg)), (sq, .inl (cI, 1002, .inl lf))] ∧ va_S A s.heap H locs ∧ (j ≤ dn) ∧ (lg 2 = nI bz) ∧ (zidx lg bz) ∧ (lg = (zps z bz j).2)) (fun n => n) ?_ (dn - 0) (g := F0 m 61 ls []) ⟨0, z, ls, rfl, rfl, lv_sub hl [0, 1, 2, 3, 4] rfl, hP, hD, hS, (Nat.zero_le _), hz2, hgi, rfl⟩
    intro n0 ih_61 H locs g hp
    obtain ⟨j, lg, ls, rfl, rfl, hl, hP, hD, hS, hj, hq2, hgl, hlg⟩ := hp
    refine lv_iload hx hb dX10_wouldExpire_61 (lv_at hl 0 rfl) ?_
    refine lv_iload_n hx hb dX10_wouldExpire_63 rfl (lv_at hl 4 rfl) ?_
    refine xr_ge_n (tgt := 78) hx hb (by omega) (by omega) dX10_wouldExpire_64 (by decide) (fun c_5 => ?_) (fun c_5 => ?_)
    · skip
      refine lv_aload_n hx hb dX10_wouldExpire_78 rfl (lv_at hl 2 rfl) ?_
      refine lv_iload_n hx hb dX10_wouldExpire_79 rfl (lv_at hl 3 rfl) ?_
      refine lv_bipush (v := nI 6) hx hb dX10_wouldExpire_80 (by decide) ?_
      refine xkRi (xV (As := [.int (nI kb), .int (nI 6)]) (rest := []) (wc := [(h0, .inr (10, [.ref zq, h0_past, h0_kept, .ref sq, h0_pastMany, h0_isKept, h0_text, h0_typed, h0_isUsed, h0_planBatch, h0_planUnits, h0_planCents, h0_planMany, h0_planGot, h0_planSubstitutes, h0_at, h0_fault, h0_entries, h0_entry])), (zq, .inl (cI, 1002, .inl lg))]) hx hb hml hown hts (c_X10_ofBatch l dC dI cI cF cC cZ cQ cS h0 zq h0_past h0_kept (.ref sq) h0_pastMany h0_isKept h0_text h0_typed h0_isUsed h0_planBatch h0_planUnits h0_planCents h0_planMany h0_planGot h0_planSubstitutes h0_at h0_fault h0_entries h0_entry lg kb 6 (by omega) (by omega)) 2 gX10_wouldExpire_X10_ofBatch rfl rfl rfl hdV_X10_ofBatch ⟨Nat.le_of_ble_eq_true rfl, Nat.le_of_ble_eq_true rfl⟩ hN hK hP hD [0, 1] rfl rfl 10 0 rfl rfl rfl hl.1 rfl (Nat.le_of_ble_eq_true rfl) dX10_wouldExpire_82 ⟨Nat.zero_le _, Nat.zero_le _⟩) (fun r_6 hr_6 => ?_)
      obtain rfl : r_6 = zB lg kb 6 := hr_6
      refine lv_iload_n hx hb dX10_wouldExpire_85 rfl (lv_at hl 1 rfl) ?_
      refine lv_isub hx hb dX10_wouldExpire_86 ?_
      refine lv_istore (lv' := [(4, .int ((zB lg kb 6) - (zB z kb 6))), (3, .int (zB z kb 6)), (0, .ref h0), (1, .int (nI kb)), (2, .int (nI dn))]) hx hb dX10_wouldExpire_87 hl (by decide) rfl (fun ls hl => ?_)
      refine lv_iconst (v := nI 0) hx hb dX10_wouldExpire_89 (by decide) ?_
      refine lv_istore (lv' := [(5, .int (nI 0)), (4, .int ((zB lg kb 6) - (zB z kb 6))), (3, .int (zB z kb 6)), (0, .ref h0), (1, .int (nI kb)), (2, .int (nI dn))]) hx hb dX10_wouldExpire_90 hl (by decide) rfl (fun ls hl => ?_)
      refine xr_loop (J := Nat) (fun n0 H locs g => ∃ (mk : Nat) (lh : Nat → Int32) (ls : Array Slot), n0 = 1002 - mk ∧ g = F0 m 92 ls [] ∧ lv_has ls 6 [(5, .int (nI mk)), (4, .int ((zB lg kb 6) - (zB z kb 6))), (3, .int (zB z kb 6)), (0, .ref h0), (1, .int (nI kb)), (2, .int (nI dn))] ∧ va_P (dC, dI) vwCl [(h0, .inr (10, [.ref zq, h0_past, h0_kept, .ref sq, h0_pastMany, h0_isKept, h0_text, h0_typed, h0_isUsed, h0_planBatch, h0_planUnits, h0_planCents, h0_planMany, h0_planGot, h0_planSubstitutes, h0_at, h0_fault, h0_entries, h0_entry])), (zq, .inl (cI, 1002, .inl lh)), (sq, .inl (cI, 1002, .inl lf))] H ∧ va_D A [(h0, .inr (10, [.ref zq, h0_past, h0_kept, .ref sq, h0_pastMany, h0_isKept, h0_text, h0_typed, h0_isUsed, h0_planBatch, h0_planUnits, h0_planCents, h0_planMany, h0_planGot, h0_planSubstitutes, h0_at, h0_fault, h0_entries, h0_entry])), (zq, .inl (cI, 1002, .inl lh)), (sq, .inl (cI, 1002, .inl lf))] ∧ va_S A s.heap H locs ∧ (mk ≤ 1002) ∧ (lh = zcp lf lg mk)) (fun n => n) ?_ (1002 - 0) (g := F0 m 92 ls []) ⟨0, lg, ls, rfl, rfl, lv_sub hl [0, 1, 2, 3, 4, 5] rfl, hP, hD, hS, (Nat.zero_le _), (zcp_0 _ _)⟩
      intro n0 ih_92 H locs g hp
      obtain ⟨mk, lh, ls, rfl, rfl, hl, hP, hD, hS, hm, hlh⟩ := hp
      refine lv_iload hx hb dX10_wouldExpire_92 (lv_at hl 0 rfl) ?_
      refine lv_sipush (v := nI 1002) hx hb dX10_wouldExpire_94 (by decide) ?_
      refine xr_ge_n (tgt := 120) hx hb (by omega) (by omega) dX10_wouldExpire_97 (by decide) (fun c_7 => ?_) (fun c_7 => ?_)
      · skip
        refine lv_iload hx hb dX10_wouldExpire_120 (lv_at hl 1 rfl) ?_
        have hE1 : k = 1002 := by omega
        have hE2 : j = dn := by omega
        have hE3 : mk = 1002 := by omega
        rw [hlh, hE3, hlg, hE2, hlf, hE1] at hP
        have hP9 : va_P (dC, dI) vwCl [(h0, .inr (10, [.ref zq, h0_past, h0_kept, .ref sq, h0_pastMany, h0_isKept, h0_text, h0_typed, h0_isUsed, h0_planBatch, h0_planUnits, h0_planCents, h0_planMany, h0_planGot, h0_planSubstitutes, h0_at, h0_fault, h0_entries, h0_entry])), (zq, .inl (cI, 1002, .inl (zcp (zcp z spare 1002) (zps z bz dn).2 1002))), (sq, .inl (cI, 1002, .inl (zcp z spare 1002)))] H := hP
        have hS9 : va_S (va_B [(h0, .inr (10, [.ref zq, h0_past, h0_kept, .ref sq, h0_pastMany, h0_isKept, h0_text, h0_typed, h0_isUsed, h0_planBatch, h0_planUnits, h0_planCents, h0_planMany, h0_planGot, h0_planSubstitutes, h0_at, h0_fault, h0_entries, h0_entry])), (zq, .inl (cI, 1002, .inl z)), (sq, .inl (cI, 1002, .inl spare))]) s.heap H locs := by rw [← hA]; exact hS
        exact W.iret (v := (zB lg kb 6) - (zB z kb 6)) hx hb hr (fun t ht hW => ⟨⟨_, _, rfl, ⟨(show (zB lg kb 6) - (zB z kb 6) = zB (zps z bz dn).2 kb 6 - zB z kb 6 from (by rw [hlg, show j = dn from by omega])), rfl⟩, by rw [ht]; exact hP9⟩, hS9.X ht⟩) hS9.2.2 dX10_wouldExpire_122
      refine lv_aload_n hx hb dX10_wouldExpire_100 rfl (lv_at hl 3 rfl) ?_
      refine va_get (D := (dC, dI)) (ci := 10) (v := .ref zq) (C := RX10) (T := TX10) (N := 19) hx hb hts i_X10 hown hK hP 0 rfl rfl 0 (by decide) k_7 (fun _ h9 => h9) rfl dX10_wouldExpire_101 ?_
      refine lv_iload hx hb dX10_wouldExpire_104 (lv_at hl 0 rfl) ?_
      refine lv_aload_n hx hb dX10_wouldExpire_106 rfl (lv_at hl 3 rfl) ?_
      refine va_get (D := (dC, dI)) (ci := 10) (v := .ref sq) (C := RX10) (T := TX10) (N := 19) hx hb hts i_X10 hown hK hP 0 rfl rfl 3 (by decide) k_19 (fun _ h9 => h9) rfl dX10_wouldExpire_107 ?_
      refine lv_iload hx hb dX10_wouldExpire_110 (lv_at hl 0 rfl) ?_
      refine xr_iald hx hb hK hP 2 0 rfl rfl (i := mk) (by omega) (by decide) dX10_wouldExpire_112 ?_
      refine xr_iast hx hb hK hP hD hS 1 0 rfl rfl (i := mk) (by omega) (by decide) dX10_wouldExpire_113 (fun H locs hP hD hS => ?_)
      have hP : va_P (dC, dI) vwCl [(h0, .inr (10, [.ref zq, h0_past, h0_kept, .ref sq, h0_pastMany, h0_isKept, h0_text, h0_typed, h0_isUsed, h0_planBatch, h0_planUnits, h0_planCents, h0_planMany, h0_planGot, h0_planSubstitutes, h0_at, h0_fault, h0_entries, h0_entry])), (zq, .inl (cI, 1002, .inl (upd lh mk (lf mk)))), (sq, .inl (cI, 1002, .inl lf))] H := hP
      have hD : va_D A [(h0, .inr (10, [.ref zq, h0_past, h0_kept, .ref sq, h0_pastMany, h0_isKept, h0_text, h0_typed, h0_isUsed, h0_planBatch, h0_planUnits, h0_planCents, h0_planMany, h0_planGot, h0_planSubstitutes, h0_at, h0_fault, h0_entries, h0_entry])), (zq, .inl (cI, 1002, .inl (upd lh mk (lf mk)))), (sq, .inl (cI, 1002, .inl lf))] := hD
      refine lv_iinc (v := nI (mk + 1)) (lv' := [(5, .int (nI (mk + 1))), (4, .int ((zB lg kb 6) - (zB z kb 6))), (3, .int (zB z kb 6)), (0, .ref h0), (1, .int (nI kb)), (2, .int (nI dn))]) hx hb dX10_wouldExpire_114 hl (k := 0) rfl (nI_inc1 mk) (by decide) rfl (fun ls hl => ?_)
      refine lv_goto (tgt := 92) hx hb dX10_wouldExpire_117 (by decide) ?_
      exact ih_92 (1002 - (mk + 1)) _ _ _ (show 1002 - (mk + 1) < 1002 - mk from by omega) ⟨(mk + 1), (upd lh mk (lf mk)), ls, rfl, rfl, lv_sub hl [0, 1, 2, 3, 4, 5] rfl, hP, hD, hS, (by omega), (by rw [hlh]; exact zcp_1 _ _ _)⟩
    refine lv_aload_n hx hb dX10_wouldExpire_67 rfl (lv_at hl 2 rfl) ?_
    refine xkI2 (xV (As := []) (rest := []) (wc := [(h0, .inr (10, [.ref zq, h0_past, h0_kept, .ref sq, h0_pastMany, h0_isKept, h0_text, h0_typed, h0_isUsed, h0_planBatch, h0_planUnits, h0_planCents, h0_planMany, h0_planGot, h0_planSubstitutes, h0_at, h0_fault, h0_entries, h0_entry])), (zq, .inl (cI, 1002, .inl lg))]) hx hb hml hown hts (c_X10_passDay l dC dI cI cF cC cZ cQ cS h0 zq h0_past h0_kept (.ref sq) h0_pastMany h0_isKept h0_text h0_typed h0_isUsed h0_planBatch h0_planUnits h0_planCents h0_planMany h0_planGot h0_planSubstitutes h0_at h0_fault h0_entries h0_entry lg bz hq2 (by omega) hgl) 0 gX10_wouldExpire_X10_passDay rfl rfl rfl hdV_X10_passDay ⟨Nat.le_of_ble_eq_true rfl, Nat.le_of_ble_eq_true rfl⟩ hN hK hP hD [0, 1] rfl rfl 10 0 rfl rfl rfl hl.1 rfl (Nat.le_of_ble_eq_true rfl) dX10_wouldExpire_68 ⟨Nat.zero_le _, Nat.zero_le _⟩) hP hD hS [0, 1] [0, 1, 2] rfl rfl 3 rfl (by decide +kernel) (fun H locs hP hD hS => ?_)
    have hP : va_P (dC, dI) vwCl [(h0, .inr (10, [.ref zq, h0_past, h0_kept, .ref sq, h0_pastMany, h0_isKept, h0_text, h0_typed, h0_isUsed, h0_planBatch, h0_planUnits, h0_planCents, h0_planMany, h0_planGot, h0_planSubstitutes, h0_at, h0_fault, h0_entries, h0_entry])), (zq, .inl (cI, 1002, .inl ((zday lg bz).2))), (sq, .inl (cI, 1002, .inl lf))] H := hP
    have hD : va_D A [(h0, .inr (10, [.ref zq, h0_past, h0_kept, .ref sq, h0_pastMany, h0_isKept, h0_text, h0_typed, h0_isUsed, h0_planBatch, h0_planUnits, h0_planCents, h0_planMany, h0_planGot, h0_planSubstitutes, h0_at, h0_fault, h0_entries, h0_entry])), (zq, .inl (cI, 1002, .inl ((zday lg bz).2))), (sq, .inl (cI, 1002, .inl lf))] := hD
    refine lv_pop hx hb dX10_wouldExpire_71 rfl ?_
    refine lv_iinc (v := nI (j + 1)) (lv' := [(4, .int (nI (j + 1))), (3, .int (zB z kb 6)), (0, .ref h0), (1, .int (nI kb)), (2, .int (nI dn))]) hx hb dX10_wouldExpire_72 hl (k := 0) rfl (nI_inc1 j) (by decide) rfl (fun ls hl => ?_)
    refine lv_goto (tgt := 61) hx hb dX10_wouldExpire_75 (by decide) ?_
    exact ih_61 (dn - (j + 1)) _ _ _ (show dn - (j + 1) < dn - j from by omega) ⟨(j + 1), ((zday lg bz).2), ls, rfl, rfl, lv_sub hl [0, 1, 2, 3, 4] rfl, hP, hD, hS, (by omega), (zday_2 hq2), (zday_idx hgl hbz), (by rw [hlg]; rfl)⟩
  refine lv_aload_n hx hb dX10_wouldExpire_32 rfl (lv_at hl 1 rfl) ?_
  refine va_get (D := (dC, dI)) (ci := 10) (v := .ref sq) (C := RX10) (T := TX10) (N := 19) hx hb hts i_X10 hown hK hP 0 rfl rfl 3 (by decide) k_19 (fun _ h9 => h9) rfl dX10_wouldExpire_33 ?_
  refine lv_iload_n hx hb dX10_wouldExpire_36 rfl (lv_at hl 0 rfl) ?_
  refine lv_aload_n hx hb dX10_wouldExpire_37 rfl (lv_at hl 1 rfl) ?_
  refine va_get (D := (dC, dI)) (ci := 10) (v := .ref zq) (C := RX10) (T := TX10) (N := 19) hx hb hts i_X10 hown hK hP 0 rfl rfl 0 (by decide) k_7 (fun _ h9 => h9) rfl dX10_wouldExpire_38 ?_
  refine lv_iload_n hx hb dX10_wouldExpire_41 rfl (lv_at hl 0 rfl) ?_
  refine xr_iald hx hb hK hP 1 0 rfl rfl (i := k) (by omega) (by decide) dX10_wouldExpire_42 ?_
  refine xr_iast hx hb hK hP hD hS 2 0 rfl rfl (i := k) (by omega) (by decide) dX10_wouldExpire_43 (fun H locs hP hD hS => ?_)
  have hP : va_P (dC, dI) vwCl [(h0, .inr (10, [.ref zq, h0_past, h0_kept, .ref sq, h0_pastMany, h0_isKept, h0_text, h0_typed, h0_isUsed, h0_planBatch, h0_planUnits, h0_planCents, h0_planMany, h0_planGot, h0_planSubstitutes, h0_at, h0_fault, h0_entries, h0_entry])), (zq, .inl (cI, 1002, .inl z)), (sq, .inl (cI, 1002, .inl (upd lf k (z k))))] H := hP
  have hD : va_D A [(h0, .inr (10, [.ref zq, h0_past, h0_kept, .ref sq, h0_pastMany, h0_isKept, h0_text, h0_typed, h0_isUsed, h0_planBatch, h0_planUnits, h0_planCents, h0_planMany, h0_planGot, h0_planSubstitutes, h0_at, h0_fault, h0_entries, h0_entry])), (zq, .inl (cI, 1002, .inl z)), (sq, .inl (cI, 1002, .inl (upd lf k (z k))))] := hD
  refine lv_iinc (v := nI (k + 1)) (lv' := [(3, .int (nI (k + 1))), (0, .ref h0), (1, .int (nI kb)), (2, .int (nI dn))]) hx hb dX10_wouldExpire_44 hl (k := 0) rfl (nI_inc1 k) (by decide) rfl (fun ls hl => ?_)
  refine lv_goto (tgt := 25) hx hb dX10_wouldExpire_47 (by decide) ?_
  exact ih_25 (1002 - (k + 1)) _ _ _ (show 1002 - (k + 1) < 1002 - k from by omega) ⟨(k + 1), (upd lf k (z k)), ls, rfl, rfl, lv_sub hl [0, 1, 2, 3] rfl, hP, hD, hS, (by omega), (by rw [hlf]; exact zcp_1 _ _ _)⟩
