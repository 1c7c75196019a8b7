set_option maxHeartbeats 4000000 in
set_option maxRecDepth 100000 in
theorem c_X10_goodb (l : Launch) (dC : Nat → ClassId) (dI : Nat → Nat → Nat) (cI cF cC cZ cQ cS : ClassId) (h0 : Nat) (zq : Nat) (h0_past : Value) (h0_kept : Value) (h0_spare : Value) (h0_pastMany : Value) (h0_isKept : Value) (h0_text : Value) (h0_typed : Value) (h0_isUsed : Value) (h0_planBatch : Value) (h0_planUnits : Value) (h0_planCents : Value) (h0_planMany : Value) (h0_planGot : Value) (h0_planSubstitutes : Value) (h0_at : Value) (h0_fault : Value) (h0_entries : Value) (h0_entry : Value) (z : Nat → Int32) (gz : Nat) (kg : Nat) (wh : Int32) (hz1 : z 1 = nI gz) (hgz : gz ≤ 12) (hk : kg < gz) (hw : ¬ (nI 0 ≤ wh ∧ wh ≤ nI 6)) : Met l yX10_good wsX10_good ({ frames := 1, cells := 0, slots := 0, locals := 22 }) (xPre (dC, dI) vwCl [.ref h0, .int (nI kg), .int wh] (xtys cI cF cC cZ cQ cS) [(h0, .inr (10, [.ref zq, h0_past, h0_kept, h0_spare, h0_pastMany, h0_isKept, h0_text, h0_typed, h0_isUsed, h0_planBatch, h0_planUnits, h0_planCents, h0_planMany, h0_planGot, h0_planSubstitutes, h0_at, h0_fault, h0_entries, h0_entry])), (zq, .inl (cI, 1002, .inl z))]) (vp_Si (fun r0 => r0 = (-2))) 0 0 (fun _ => False) := by
  refine Met.ofW (cc := cX10_good) (maxL := 5) (ret := (some .int)) (by decide) rfl ?_
  intro p e s m args below meth c s₁ B hml hv
  obtain ⟨rfl, hP, hK, hD0, hN⟩ := hv
  have hx := B.exec
  have hb := B.bytes
  have hr := B.returns
  have hts := atoms_spec (ws := wsX10_good) B.pre
  have hown : s.vm.findClass RX10 = some m.cls := findClass_of_methodNamed B.named
  have hlocks := B.notSynchronized
  have hD := hD0
  have hl := lv_entry ([.ref h0, .int (nI kg), .int wh]) (n := 5) (Nat.le_of_ble_eq_true rfl)
  rw [lg_entry_eq]
  generalize (lg_sl ([.ref h0, .int (nI kg), .int wh]) ++ List.replicate (5 - (lg_sl ([.ref h0, .int (nI kg), .int wh])).length) Slot.unset).toArray = ls at hl ⊢
  have hl : lv_has ls 5 [(0, .ref h0), (1, .int (nI kg)), (2, .int wh)] := hl
  refine lv_aload_n hx hb dX10_good_0 rfl (lv_at hl 0 rfl) ?_
  refine lv_iload_n hx hb dX10_good_1 rfl (lv_at hl 1 rfl) ?_
  refine xkRi (xV (As := [.int (nI kg)]) (rest := []) (wc := [(h0, .inr (10, [.ref zq, h0_past, h0_kept, h0_spare, h0_pastMany, h0_isKept, h0_text, h0_typed, h0_isUsed, h0_planBatch, h0_planUnits, h0_planCents, h0_planMany, h0_planGot, h0_planSubstitutes, h0_at, h0_fault, h0_entries, h0_entry])), (zq, .inl (cI, 1002, .inl z))]) hx hb hml hown hts (c_X10_isGood l dC dI cI cF cC cZ cQ cS h0 zq h0_past h0_kept h0_spare h0_pastMany h0_isKept h0_text h0_typed h0_isUsed h0_planBatch h0_planUnits h0_planCents h0_planMany h0_planGot h0_planSubstitutes h0_at h0_fault h0_entries h0_entry z (nI kg) gz (by omega) (by omega)) 1 gX10_good_X10_isGood rfl rfl rfl hdV_X10_isGood ⟨Nat.le_of_ble_eq_true rfl, Nat.le_of_ble_eq_true rfl⟩ hN hK hP hD [0, 1] rfl rfl 10 0 rfl rfl rfl hl.1 rfl (Nat.le_of_ble_eq_true rfl) dX10_good_2 ⟨Nat.zero_le _, Nat.zero_le _⟩) (fun r_1 hr_1 => ?_)
  have hr_1 : r_1 = (if xhas (nI kg) gz then nI 1 else nI 0) := hr_1
  obtain rfl : r_1 = nI 1 := hr_1.trans (if_pos (xhas_of hk (by omega)))
  refine xr_ifn1 (tgt := 10) hx hb (by decide) dX10_good_5 (by decide) ?_
  refine lv_iload_n hx hb dX10_good_10 rfl (lv_at hl 2 rfl) ?_
  refine lv_iconst (v := nI 0) hx hb dX10_good_11 (by decide) ?_
  refine lv_bipush (v := nI 6) hx hb dX10_good_12 (by decide) ?_
  refine xkRi (xSs (Ws' := ([] : List Cond)) (As := [.int wh, .int (nI 0), .int (nI 6)]) (rest := []) (wc := []) hx hb hml hown hts (c_X10_in l dC dI cI cF cC cZ cQ cS wh (nI 0) (nI 6)) 3 (fun hR => va_cwS 3 hts gX10_good_X10_in rfl rfl rfl hdN_X10_in hR) ⟨Nat.le_of_ble_eq_true rfl, Nat.le_of_ble_eq_true rfl⟩ hN hK hP hD [] rfl rfl rfl hl.1 rfl (Nat.le_of_ble_eq_true rfl) dX10_good_14 ⟨Nat.zero_le _, Nat.zero_le _⟩) (fun r_2 hr_2 => ?_)
  have hr_2 : r_2 = (if (nI 0) ≤ wh ∧ wh ≤ (nI 6) then nI 1 else nI 0) := hr_2
  obtain rfl : r_2 = nI 0 := hr_2.trans (if_neg hw)
  refine xr_ifn0 (tgt := 23) hx hb (by decide) dX10_good_17 (by decide) ?_
  refine lv_bipush (v := (-2)) hx hb dX10_good_20 (by decide) ?_
  exact W.iret (v := (-2)) hx hb hr (fun t ht hW => ⟨_, rfl, (show (-2) = (-2) from rfl), ht⟩) (fun q h => by cases h) dX10_good_22
set_option maxHeartbeats 4000000 in
set_option maxRecDepth 100000 in
theorem c_X10_goods (l : Launch) (dC : Nat → ClassId) (dI : Nat → Nat → Nat) (cI cF cC cZ cQ cS : ClassId) (h0 : Nat) (zq : Nat) (h0_past : Value) (h0_kept : Value) (h0_spare : Value) (h0_pastMany : Value) (h0_isKept : Value) (h0_text : Value) (h0_typed : Value) (h0_isUsed : Value) (h0_planBatch : Value) (h0_planUnits : Value) (h0_planCents : Value) (h0_planMany : Value) (h0_planGot : Value) (h0_planSubstitutes : Value) (h0_at : Value) (h0_fault : Value) (h0_entries : Value) (h0_entry : Value) (z : Nat → Int32) (gz : Nat) (kg : Nat) (wn : Nat) (bz : Nat) (oz : Nat) (hz1 : z 1 = nI gz) (hgz : gz ≤ 12) (hk : kg < gz) (hwn : wn ≤ 6) (hw : nI 0 ≤ nI wn ∧ nI wn ≤ nI 6) (hz2 : z 2 = nI bz) (hbz : bz ≤ 40) (hz3 : z 3 = nI oz) (hoz : oz ≤ 30) : Met l yX10_good wsX10_good ({ frames := 2, cells := 0, slots := 0, locals := 46 }) (xPre (dC, dI) vwCl [.ref h0, .int (nI kg), .int (nI wn)] (xtys cI cF cC cZ cQ cS) [(h0, .inr (10, [.ref zq, h0_past, h0_kept, h0_spare, h0_pastMany, h0_isKept, h0_text, h0_typed, h0_isUsed, h0_planBatch, h0_planUnits, h0_planCents, h0_planMany, h0_planGot, h0_planSubstitutes, h0_at, h0_fault, h0_entries, h0_entry])), (zq, .inl (cI, 1002, .inl z))]) (vp_Si (fun r0 => r0 = mGood wn (zG z kg wn) (zsumIf z 3 (nI kg) bz) (zcntIf z (nI kg) bz) (zsumOf z 4 (nI kg) bz) (zogIf z (nI kg) oz))) 0 0 (fun _ => False) := by
  refine Met.ofW (cc := cX10_good) (maxL := 5) (ret := (some .int)) (by decide) rfl ?_
  intro p e s m args below meth c s₁ B hml hv
  obtain ⟨rfl, hP, hK, hD0, hN⟩ := hv
  have hx := B.exec
  have hb := B.bytes
  have hr := B.returns
  have hts := atoms_spec (ws := wsX10_good) B.pre
  have hown : s.vm.findClass RX10 = some m.cls := findClass_of_methodNamed B.named
  have hlocks := B.notSynchronized
  have k_7 := hts (Cond.fieldLink RX10 7 "ShelfStagesModel" "z" "[I") (by decide +kernel)
  have i_X10 : ∀ w ∈ wsX100, w ∈ wsX10_good := by decide +kernel
  have hD := hD0
  have hl := lv_entry ([.ref h0, .int (nI kg), .int (nI wn)]) (n := 5) (Nat.le_of_ble_eq_true rfl)
  rw [lg_entry_eq]
  generalize (lg_sl ([.ref h0, .int (nI kg), .int (nI wn)]) ++ List.replicate (5 - (lg_sl ([.ref h0, .int (nI kg), .int (nI wn)])).length) Slot.unset).toArray = ls at hl ⊢
  have hl : lv_has ls 5 [(0, .ref h0), (1, .int (nI kg)), (2, .int (nI wn))] := hl
  refine lv_aload_n hx hb dX10_good_0 rfl (lv_at hl 0 rfl) ?_
  refine lv_iload_n hx hb dX10_good_1 rfl (lv_at hl 1 rfl) ?_
  refine xkRi (xV (As := [.int (nI kg)]) (rest := []) (wc := [(h0, .inr (10, [.ref zq, h0_past, h0_kept, h0_spare, h0_pastMany, h0_isKept, h0_text, h0_typed, h0_isUsed, h0_planBatch, h0_planUnits, h0_planCents, h0_planMany, h0_planGot, h0_planSubstitutes, h0_at, h0_fault, h0_entries, h0_entry])), (zq, .inl (cI, 1002, .inl z))]) hx hb hml hown hts (c_X10_isGood l dC dI cI cF cC cZ cQ cS h0 zq h0_past h0_kept h0_spare h0_pastMany h0_isKept h0_text h0_typed h0_isUsed h0_planBatch h0_planUnits h0_planCents h0_planMany h0_planGot h0_planSubstitutes h0_at h0_fault h0_entries h0_entry z (nI kg) gz (by omega) (by omega)) 1 gX10_good_X10_isGood rfl rfl rfl hdV_X10_isGood ⟨Nat.le_of_ble_eq_true rfl, Nat.le_of_ble_eq_true rfl⟩ hN hK hP hD [0, 1] rfl rfl 10 0 rfl rfl rfl hl.1 rfl (Nat.le_of_ble_eq_true rfl) dX10_good_2 ⟨Nat.zero_le _, Nat.zero_le _⟩) (fun r_1 hr_1 => ?_)
  have hr_1 : r_1 = (if xhas (nI kg) gz then nI 1 else nI 0) := hr_1
  obtain rfl : r_1 = nI 1 := hr_1.trans (if_pos (xhas_of hk (by omega)))
  refine xr_ifn1 (tgt := 10) hx hb (by decide) dX10_good_5 (by decide) ?_
  refine lv_iload_n hx hb dX10_good_10 rfl (lv_at hl 2 rfl) ?_
  refine lv_iconst (v := nI 0) hx hb dX10_good_11 (by decide) ?_
  refine lv_bipush (v := nI 6) hx hb dX10_good_12 (by decide) ?_
  refine xkRi (xSs (Ws' := ([] : List Cond)) (As := [.int (nI wn), .int (nI 0), .int (nI 6)]) (rest := []) (wc := []) hx hb hml hown hts (c_X10_in l dC dI cI cF cC cZ cQ cS (nI wn) (nI 0) (nI 6)) 3 (fun hR => va_cwS 3 hts gX10_good_X10_in rfl rfl rfl hdN_X10_in hR) ⟨Nat.le_of_ble_eq_true rfl, Nat.le_of_ble_eq_true rfl⟩ hN hK hP hD [] rfl rfl rfl hl.1 rfl (Nat.le_of_ble_eq_true rfl) dX10_good_14 ⟨Nat.zero_le _, Nat.zero_le _⟩) (fun r_2 hr_2 => ?_)
  have hr_2 : r_2 = (if (nI 0) ≤ (nI wn) ∧ (nI wn) ≤ (nI 6) then nI 1 else nI 0) := hr_2
  obtain rfl : r_2 = nI 1 := hr_2.trans (if_pos hw)
  refine xr_ifn1 (tgt := 23) hx hb (by decide) dX10_good_17 (by decide) ?_
  refine lv_iload_n hx hb dX10_good_23 rfl (lv_at hl 2 rfl) ?_
  refine lv_iconst (v := nI 3) hx hb dX10_good_24 (by decide) ?_
  refine xr_ge_n (tgt := 35) hx hb (by omega) (by omega) dX10_good_25 (by decide) (fun c_3 => ?_) (fun c_3 => ?_)
  · skip
    refine lv_iload_n hx hb dX10_good_35 rfl (lv_at hl 2 rfl) ?_
    refine lv_iconst (v := nI 3) hx hb dX10_good_36 (by decide) ?_
    refine xr_ne_n (tgt := 46) hx hb (by omega) (by omega) dX10_good_37 (by decide) (fun c_4 => ?_) (fun c_4 => ?_)
    · skip
      refine lv_iload_n hx hb dX10_good_46 rfl (lv_at hl 2 rfl) ?_
      refine lv_iconst (v := nI 4) hx hb dX10_good_47 (by decide) ?_
      refine xr_ne_n (tgt := 57) hx hb (by omega) (by omega) dX10_good_48 (by decide) (fun c_5 => ?_) (fun c_5 => ?_)
      · skip
        refine lv_iload_n hx hb dX10_good_57 rfl (lv_at hl 2 rfl) ?_
        refine lv_iconst (v := nI 5) hx hb dX10_good_58 (by decide) ?_
        refine xr_ne_n (tgt := 69) hx hb (by omega) (by omega) dX10_good_59 (by decide) (fun c_6 => ?_) (fun c_6 => ?_)
        · skip
          refine lv_iconst (v := nI 0) hx hb dX10_good_69 (by decide) ?_
          refine lv_istore_n (lv' := [(3, .int (nI 0)), (0, .ref h0), (1, .int (nI kg)), (2, .int (nI wn))]) hx hb dX10_good_70 rfl hl (by decide) rfl (fun ls hl => ?_)
          refine lv_iconst (v := nI 0) hx hb dX10_good_71 (by decide) ?_
          refine lv_istore (lv' := [(4, .int (nI 0)), (3, .int (nI 0)), (0, .ref h0), (1, .int (nI kg)), (2, .int (nI wn))]) hx hb dX10_good_72 hl (by decide) rfl (fun ls hl => ?_)
          refine xr_loop (J := Nat) (fun n0 H locs g => ∃ (k : Nat) (acc : Int32) (ls : Array Slot), H = s.heap ∧ locs = [] ∧ n0 = oz - k ∧ g = F0 m 74 ls [] ∧ lv_has ls 5 [(4, .int (nI k)), (3, .int acc), (0, .ref h0), (1, .int (nI kg)), (2, .int (nI wn))] ∧ (k ≤ oz) ∧ (acc = zogIf z (nI kg) k)) (fun n => n) ?_ (oz - 0) (g := F0 m 74 ls []) ⟨0, (nI 0), ls, rfl, rfl, rfl, rfl, lv_sub hl [0, 1, 2, 3, 4] rfl, (Nat.zero_le _), rfl⟩
          intro n0 ih_74 H locs g hp
          obtain ⟨k, acc, ls, rfl, rfl, rfl, rfl, hl, hk, hac⟩ := hp
          refine lv_iload hx hb dX10_good_74 (lv_at hl 0 rfl) ?_
          refine lv_aload_n hx hb dX10_good_76 rfl (lv_at hl 2 rfl) ?_
          refine va_get (D := (dC, dI)) (ci := 10) (v := .ref zq) (C := RX10) (T := TX10) (N := 19) hx hb hts i_X10 hown hK hP 0 rfl rfl 0 (by decide) k_7 (fun _ h9 => h9) rfl dX10_good_77 ?_
          refine lv_iconst (v := nI 3) hx hb dX10_good_80 (by decide) ?_
          refine xr_iald hx hb hK hP 1 0 rfl rfl (i := 3) (by omega) (by decide) dX10_good_81 ?_
          refine xr_top (show z 3 = nI oz from hz3) ?_
          refine xr_ge_n (tgt := 116) hx hb (by omega) (by omega) dX10_good_82 (by decide) (fun c_7 => ?_) (fun c_7 => ?_)
          · skip
            refine lv_iload_n hx hb dX10_good_116 rfl (lv_at hl 1 rfl) ?_
            exact W.iret (v := acc) hx hb hr (fun t ht hW => ⟨_, rfl, (show acc = mGood wn (zG z kg wn) (zsumIf z 3 (nI kg) bz) (zcntIf z (nI kg) bz) (zsumOf z 4 (nI kg) bz) (zogIf z (nI kg) oz) from (by rw [hac, show k = oz from by omega]; unfold mGood; rw [if_neg (by omega), if_neg c_4, if_neg c_5, if_neg c_6])), ht⟩) (fun q h => by cases h) dX10_good_117
          refine lv_iload_n hx hb dX10_good_85 rfl (lv_at hl 1 rfl) ?_
          refine xr_cut (g2 := F0 m 108 ls [.int (if zO z k 0 = nI kg then zO z k 2 else nI 0), .int acc]) (fun kj_8 => ?_) ?_
          · skip
            refine lv_aload_n hx hb dX10_good_86 rfl (lv_at hl 2 rfl) ?_
            refine lv_iload hx hb dX10_good_87 (lv_at hl 0 rfl) ?_
            refine lv_iconst (v := nI 0) hx hb dX10_good_89 (by decide) ?_
            refine xkRi (xV (As := [.int (nI k), .int (nI 0)]) (rest := [.int acc]) (wc := [(h0, .inr (10, [.ref zq, h0_past, h0_kept, h0_spare, h0_pastMany, h0_isKept, h0_text, h0_typed, h0_isUsed, h0_planBatch, h0_planUnits, h0_planCents, h0_planMany, h0_planGot, h0_planSubstitutes, h0_at, h0_fault, h0_entries, h0_entry])), (zq, .inl (cI, 1002, .inl z))]) hx hb hml hown hts (c_X10_ofOrder l dC dI cI cF cC cZ cQ cS h0 zq h0_past h0_kept h0_spare h0_pastMany h0_isKept h0_text h0_typed h0_isUsed h0_planBatch h0_planUnits h0_planCents h0_planMany h0_planGot h0_planSubstitutes h0_at h0_fault h0_entries h0_entry z k 0 (by omega) (by omega)) 2 gX10_good_X10_ofOrder rfl rfl rfl hdV_X10_ofOrder ⟨Nat.le_of_ble_eq_true rfl, Nat.le_of_ble_eq_true rfl⟩ hN hK hP hD [0, 1] rfl rfl 10 0 rfl rfl rfl hl.1 rfl (Nat.le_of_ble_eq_true rfl) dX10_good_90 ⟨Nat.zero_le _, Nat.zero_le _⟩) (fun r_9 hr_9 => ?_)
            obtain rfl : r_9 = zO z k 0 := hr_9
            refine lv_iload_n hx hb dX10_good_93 rfl (lv_at hl 3 rfl) ?_
            refine lv_icmp_ne (tgt := 107) hx hb dX10_good_94 (by decide) (fun c_10 => ?_) (fun c_10 => ?_)
            · skip
              refine lv_iconst (v := nI 0) hx hb dX10_good_107 (by decide) ?_
              refine xr_top (show nI 0 = if zO z k 0 = nI kg then zO z k 2 else nI 0 from (if_neg c_10).symm) ?_
              exact kj_8
            refine lv_aload_n hx hb dX10_good_97 rfl (lv_at hl 2 rfl) ?_
            refine lv_iload hx hb dX10_good_98 (lv_at hl 0 rfl) ?_
            refine lv_iconst (v := nI 2) hx hb dX10_good_100 (by decide) ?_
            refine xkRi (xV (As := [.int (nI k), .int (nI 2)]) (rest := [.int acc]) (wc := [(h0, .inr (10, [.ref zq, h0_past, h0_kept, h0_spare, h0_pastMany, h0_isKept, h0_text, h0_typed, h0_isUsed, h0_planBatch, h0_planUnits, h0_planCents, h0_planMany, h0_planGot, h0_planSubstitutes, h0_at, h0_fault, h0_entries, h0_entry])), (zq, .inl (cI, 1002, .inl z))]) hx hb hml hown hts (c_X10_ofOrder l dC dI cI cF cC cZ cQ cS h0 zq h0_past h0_kept h0_spare h0_pastMany h0_isKept h0_text h0_typed h0_isUsed h0_planBatch h0_planUnits h0_planCents h0_planMany h0_planGot h0_planSubstitutes h0_at h0_fault h0_entries h0_entry z k 2 (by omega) (by omega)) 2 gX10_good_X10_ofOrder rfl rfl rfl hdV_X10_ofOrder ⟨Nat.le_of_ble_eq_true rfl, Nat.le_of_ble_eq_true rfl⟩ hN hK hP hD [0, 1] rfl rfl 10 0 rfl rfl rfl hl.1 rfl (Nat.le_of_ble_eq_true rfl) dX10_good_101 ⟨Nat.zero_le _, Nat.zero_le _⟩) (fun r_11 hr_11 => ?_)
            obtain rfl : r_11 = zO z k 2 := hr_11
            refine lv_goto (tgt := 108) hx hb dX10_good_104 (by decide) ?_
            refine xr_top (show zO z k 2 = if zO z k 0 = nI kg then zO z k 2 else nI 0 from (if_pos c_10).symm) ?_
            exact kj_8
          refine lv_iadd hx hb dX10_good_108 ?_
          refine lv_istore_n (lv' := [(3, .int (acc + (if zO z k 0 = nI kg then zO z k 2 else nI 0))), (4, .int (nI k)), (0, .ref h0), (1, .int (nI kg)), (2, .int (nI wn))]) hx hb dX10_good_109 rfl hl (by decide) rfl (fun ls hl => ?_)
          refine lv_iinc (v := nI (k + 1)) (lv' := [(4, .int (nI (k + 1))), (3, .int (acc + (if zO z k 0 = nI kg then zO z k 2 else nI 0))), (0, .ref h0), (1, .int (nI kg)), (2, .int (nI wn))]) hx hb dX10_good_110 hl (k := 1) rfl (nI_inc1 k) (by decide) rfl (fun ls hl => ?_)
          refine lv_goto (tgt := 74) hx hb dX10_good_113 (by decide) ?_
          exact ih_74 (oz - (k + 1)) _ _ _ (show oz - (k + 1) < oz - k from by omega) ⟨(k + 1), (acc + (if zO z k 0 = nI kg then zO z k 2 else nI 0)), ls, rfl, rfl, rfl, rfl, lv_sub hl [0, 1, 2, 3, 4] rfl, (by omega), (by rw [hac]; rfl)⟩
        refine lv_aload_n hx hb dX10_good_62 rfl (lv_at hl 0 rfl) ?_
        refine lv_iload_n hx hb dX10_good_63 rfl (lv_at hl 1 rfl) ?_
        refine lv_iconst (v := nI 4) hx hb dX10_good_64 (by decide) ?_
        refine xkRi (xV (As := [.int (nI kg), .int (nI 4)]) (rest := []) (wc := [(h0, .inr (10, [.ref zq, h0_past, h0_kept, h0_spare, h0_pastMany, h0_isKept, h0_text, h0_typed, h0_isUsed, h0_planBatch, h0_planUnits, h0_planCents, h0_planMany, h0_planGot, h0_planSubstitutes, h0_at, h0_fault, h0_entries, h0_entry])), (zq, .inl (cI, 1002, .inl z))]) hx hb hml hown hts (c_X10_sumOfBatches l dC dI cI cF cC cZ cQ cS h0 zq h0_past h0_kept h0_spare h0_pastMany h0_isKept h0_text h0_typed h0_isUsed h0_planBatch h0_planUnits h0_planCents h0_planMany h0_planGot h0_planSubstitutes h0_at h0_fault h0_entries h0_entry z (nI kg) 4 bz (by omega) (by omega) (by omega)) 2 gX10_good_X10_sumOfBatches rfl rfl rfl hdV_X10_sumOfBatches ⟨Nat.le_of_ble_eq_true rfl, Nat.le_of_ble_eq_true rfl⟩ hN hK hP hD [0, 1] rfl rfl 10 0 rfl rfl rfl hl.1 rfl (Nat.le_of_ble_eq_true rfl) dX10_good_65 ⟨Nat.zero_le _, Nat.zero_le _⟩) (fun r_12 hr_12 => ?_)
        obtain rfl : r_12 = zsumOf z 4 (nI kg) bz := hr_12
        exact W.iret (v := zsumOf z 4 (nI kg) bz) hx hb hr (fun t ht hW => ⟨_, rfl, (show zsumOf z 4 (nI kg) bz = mGood wn (zG z kg wn) (zsumIf z 3 (nI kg) bz) (zcntIf z (nI kg) bz) (zsumOf z 4 (nI kg) bz) (zogIf z (nI kg) oz) from (by unfold mGood; rw [if_neg (by omega), if_neg c_4, if_neg c_5, if_pos c_6])), ht⟩) (fun q h => by cases h) dX10_good_68
      refine lv_aload_n hx hb dX10_good_51 rfl (lv_at hl 0 rfl) ?_
      refine lv_iload_n hx hb dX10_good_52 rfl (lv_at hl 1 rfl) ?_
      refine xkRi (xV (As := [.int (nI kg)]) (rest := []) (wc := [(h0, .inr (10, [.ref zq, h0_past, h0_kept, h0_spare, h0_pastMany, h0_isKept, h0_text, h0_typed, h0_isUsed, h0_planBatch, h0_planUnits, h0_planCents, h0_planMany, h0_planGot, h0_planSubstitutes, h0_at, h0_fault, h0_entries, h0_entry])), (zq, .inl (cI, 1002, .inl z))]) hx hb hml hown hts (c_X10_batchesOf l dC dI cI cF cC cZ cQ cS h0 zq h0_past h0_kept h0_spare h0_pastMany h0_isKept h0_text h0_typed h0_isUsed h0_planBatch h0_planUnits h0_planCents h0_planMany h0_planGot h0_planSubstitutes h0_at h0_fault h0_entries h0_entry z (nI kg) bz (by omega) (by omega)) 1 gX10_good_X10_batchesOf rfl rfl rfl hdV_X10_batchesOf ⟨Nat.le_of_ble_eq_true rfl, Nat.le_of_ble_eq_true rfl⟩ hN hK hP hD [0, 1] rfl rfl 10 0 rfl rfl rfl hl.1 rfl (Nat.le_of_ble_eq_true rfl) dX10_good_53 ⟨Nat.zero_le _, Nat.zero_le _⟩) (fun r_13 hr_13 => ?_)
      obtain rfl : r_13 = zcntIf z (nI kg) bz := hr_13
      exact W.iret (v := zcntIf z (nI kg) bz) hx hb hr (fun t ht hW => ⟨_, rfl, (show zcntIf z (nI kg) bz = mGood wn (zG z kg wn) (zsumIf z 3 (nI kg) bz) (zcntIf z (nI kg) bz) (zsumOf z 4 (nI kg) bz) (zogIf z (nI kg) oz) from (by unfold mGood; rw [if_neg (by omega), if_neg c_4, if_pos c_5])), ht⟩) (fun q h => by cases h) dX10_good_56
    refine lv_aload_n hx hb dX10_good_40 rfl (lv_at hl 0 rfl) ?_
    refine lv_iload_n hx hb dX10_good_41 rfl (lv_at hl 1 rfl) ?_
    refine xkRi (xV (As := [.int (nI kg)]) (rest := []) (wc := [(h0, .inr (10, [.ref zq, h0_past, h0_kept, h0_spare, h0_pastMany, h0_isKept, h0_text, h0_typed, h0_isUsed, h0_planBatch, h0_planUnits, h0_planCents, h0_planMany, h0_planGot, h0_planSubstitutes, h0_at, h0_fault, h0_entries, h0_entry])), (zq, .inl (cI, 1002, .inl z))]) hx hb hml hown hts (c_X10_shelfOf l dC dI cI cF cC cZ cQ cS h0 zq h0_past h0_kept h0_spare h0_pastMany h0_isKept h0_text h0_typed h0_isUsed h0_planBatch h0_planUnits h0_planCents h0_planMany h0_planGot h0_planSubstitutes h0_at h0_fault h0_entries h0_entry z (nI kg) bz (by omega) (by omega)) 1 gX10_good_X10_shelfOf rfl rfl rfl hdV_X10_shelfOf ⟨Nat.le_of_ble_eq_true rfl, Nat.le_of_ble_eq_true rfl⟩ hN hK hP hD [0, 1] rfl rfl 10 0 rfl rfl rfl hl.1 rfl (Nat.le_of_ble_eq_true rfl) dX10_good_42 ⟨Nat.zero_le _, Nat.zero_le _⟩) (fun r_14 hr_14 => ?_)
    obtain rfl : r_14 = zsumIf z 3 (nI kg) bz := hr_14
    exact W.iret (v := zsumIf z 3 (nI kg) bz) hx hb hr (fun t ht hW => ⟨_, rfl, (show zsumIf z 3 (nI kg) bz = mGood wn (zG z kg wn) (zsumIf z 3 (nI kg) bz) (zcntIf z (nI kg) bz) (zsumOf z 4 (nI kg) bz) (zogIf z (nI kg) oz) from (by unfold mGood; rw [if_neg (by omega), if_pos c_4])), ht⟩) (fun q h => by cases h) dX10_good_45
  refine lv_aload_n hx hb dX10_good_28 rfl (lv_at hl 0 rfl) ?_
  refine lv_iload_n hx hb dX10_good_29 rfl (lv_at hl 1 rfl) ?_
  refine lv_iload_n hx hb dX10_good_30 rfl (lv_at hl 2 rfl) ?_
  refine xkRi (xV (As := [.int (nI kg), .int (nI wn)]) (rest := []) (wc := [(h0, .inr (10, [.ref zq, h0_past, h0_kept, h0_spare, h0_pastMany, h0_isKept, h0_text, h0_typed, h0_isUsed, h0_planBatch, h0_planUnits, h0_planCents, h0_planMany, h0_planGot, h0_planSubstitutes, h0_at, h0_fault, h0_entries, h0_entry])), (zq, .inl (cI, 1002, .inl z))]) hx hb hml hown hts (c_X10_ofGood l dC dI cI cF cC cZ cQ cS h0 zq h0_past h0_kept h0_spare h0_pastMany h0_isKept h0_text h0_typed h0_isUsed h0_planBatch h0_planUnits h0_planCents h0_planMany h0_planGot h0_planSubstitutes h0_at h0_fault h0_entries h0_entry z kg wn (by omega) (by omega)) 2 gX10_good_X10_ofGood rfl rfl rfl hdV_X10_ofGood ⟨Nat.le_of_ble_eq_true rfl, Nat.le_of_ble_eq_true rfl⟩ hN hK hP hD [0, 1] rfl rfl 10 0 rfl rfl rfl hl.1 rfl (Nat.le_of_ble_eq_true rfl) dX10_good_31 ⟨Nat.zero_le _, Nat.zero_le _⟩) (fun r_15 hr_15 => ?_)
  obtain rfl : r_15 = zG z kg wn := hr_15
  exact W.iret (v := zG z kg wn) hx hb hr (fun t ht hW => ⟨_, rfl, (show zG z kg wn = mGood wn (zG z kg wn) (zsumIf z 3 (nI kg) bz) (zcntIf z (nI kg) bz) (zsumOf z 4 (nI kg) bz) (zogIf z (nI kg) oz) from (by unfold mGood; rw [if_pos c_3])), ht⟩) (fun q h => by cases h) dX10_good_34
set_option maxHeartbeats 4000000 in
set_option maxRecDepth 100000 in
theorem c_X10_batchb (l : Launch) (dC : Nat → ClassId) (dI : Nat → Nat → Nat) (cI cF cC cZ cQ cS : ClassId) (h0 : Nat) (zq : Nat) (h0_past : Value) (h0_kept : Value) (h0_spare : Value) (h0_pastMany : Value) (h0_isKept : Value) (h0_text : Value) (h0_typed : Value) (h0_isUsed : Value) (h0_planBatch : Value) (h0_planUnits : Value) (h0_planCents : Value) (h0_planMany : Value) (h0_planGot : Value) (h0_planSubstitutes : Value) (h0_at : Value) (h0_fault : Value) (h0_entries : Value) (h0_entry : Value) (z : Nat → Int32) (bz : Nat) (kb : Nat) (wh : Int32) (hz2 : z 2 = nI bz) (hbz : bz ≤ 40) (hk : kb < bz) (hw : ¬ (nI 0 ≤ wh ∧ wh ≤ nI 11)) : Met l yX10_batch wsX10_batch ({ frames := 1, cells := 0, slots := 0, locals := 22 }) (xPre (dC, dI) vwCl [.ref h0, .int (nI kb), .int wh] (xtys cI cF cC cZ cQ cS) [(h0, .inr (10, [.ref zq, h0_past, h0_kept, h0_spare, h0_pastMany, h0_isKept, h0_text, h0_typed, h0_isUsed, h0_planBatch, h0_planUnits, h0_planCents, h0_planMany, h0_planGot, h0_planSubstitutes, h0_at, h0_fault, h0_entries, h0_entry])), (zq, .inl (cI, 1002, .inl z))]) (vp_Si (fun r0 => r0 = (-2))) 0 0 (fun _ => False) := by
  refine Met.ofW (cc := cX10_batch) (maxL := 3) (ret := (some .int)) (by decide) rfl ?_
  intro p e s m args below meth c s₁ B hml hv
  obtain ⟨rfl, hP, hK, hD0, hN⟩ := hv
  have hx := B.exec
  have hb := B.bytes
  have hr := B.returns
  have hts := atoms_spec (ws := wsX10_batch) B.pre
  have hown : s.vm.findClass RX10 = some m.cls := findClass_of_methodNamed B.named
  have hlocks := B.notSynchronized
  have hD := hD0
  have hl := lv_entry ([.ref h0, .int (nI kb), .int wh]) (n := 3) (Nat.le_of_ble_eq_true rfl)
  rw [lg_entry_eq]
  generalize (lg_sl ([.ref h0, .int (nI kb), .int wh]) ++ List.replicate (3 - (lg_sl ([.ref h0, .int (nI kb), .int wh])).length) Slot.unset).toArray = ls at hl ⊢
  have hl : lv_has ls 3 [(0, .ref h0), (1, .int (nI kb)), (2, .int wh)] := hl
  refine lv_aload_n hx hb dX10_batch_0 rfl (lv_at hl 0 rfl) ?_
  refine lv_iload_n hx hb dX10_batch_1 rfl (lv_at hl 1 rfl) ?_
  refine xkRi (xV (As := [.int (nI kb)]) (rest := []) (wc := [(h0, .inr (10, [.ref zq, h0_past, h0_kept, h0_spare, h0_pastMany, h0_isKept, h0_text, h0_typed, h0_isUsed, h0_planBatch, h0_planUnits, h0_planCents, h0_planMany, h0_planGot, h0_planSubstitutes, h0_at, h0_fault, h0_entries, h0_entry])), (zq, .inl (cI, 1002, .inl z))]) hx hb hml hown hts (c_X10_isBatch l dC dI cI cF cC cZ cQ cS h0 zq h0_past h0_kept h0_spare h0_pastMany h0_isKept h0_text h0_typed h0_isUsed h0_planBatch h0_planUnits h0_planCents h0_planMany h0_planGot h0_planSubstitutes h0_at h0_fault h0_entries h0_entry z (nI kb) bz (by omega) (by omega)) 1 gX10_batch_X10_isBatch rfl rfl rfl hdV_X10_isBatch ⟨Nat.le_of_ble_eq_true rfl, Nat.le_of_ble_eq_true rfl⟩ hN hK hP hD [0, 1] rfl rfl 10 0 rfl rfl rfl hl.1 rfl (Nat.le_of_ble_eq_true rfl) dX10_batch_2 ⟨Nat.zero_le _, Nat.zero_le _⟩) (fun r_1 hr_1 => ?_)
  have hr_1 : r_1 = (if xhas (nI kb) bz then nI 1 else nI 0) := hr_1
  obtain rfl : r_1 = nI 1 := hr_1.trans (if_pos (xhas_of hk (by omega)))
  refine xr_ifn1 (tgt := 10) hx hb (by decide) dX10_batch_5 (by decide) ?_
  refine lv_iload_n hx hb dX10_batch_10 rfl (lv_at hl 2 rfl) ?_
  refine lv_iconst (v := nI 0) hx hb dX10_batch_11 (by decide) ?_
  refine lv_bipush (v := nI 11) hx hb dX10_batch_12 (by decide) ?_
  refine xkRi (xSs (Ws' := ([] : List Cond)) (As := [.int wh, .int (nI 0), .int (nI 11)]) (rest := []) (wc := []) hx hb hml hown hts (c_X10_in l dC dI cI cF cC cZ cQ cS wh (nI 0) (nI 11)) 3 (fun hR => va_cwS 3 hts gX10_batch_X10_in rfl rfl rfl hdN_X10_in hR) ⟨Nat.le_of_ble_eq_true rfl, Nat.le_of_ble_eq_true rfl⟩ hN hK hP hD [] rfl rfl rfl hl.1 rfl (Nat.le_of_ble_eq_true rfl) dX10_batch_14 ⟨Nat.zero_le _, Nat.zero_le _⟩) (fun r_2 hr_2 => ?_)
  have hr_2 : r_2 = (if (nI 0) ≤ wh ∧ wh ≤ (nI 11) then nI 1 else nI 0) := hr_2
  obtain rfl : r_2 = nI 0 := hr_2.trans (if_neg hw)
  refine xr_ifn0 (tgt := 23) hx hb (by decide) dX10_batch_17 (by decide) ?_
  refine lv_bipush (v := (-2)) hx hb dX10_batch_20 (by decide) ?_
  exact W.iret (v := (-2)) hx hb hr (fun t ht hW => ⟨_, rfl, (show (-2) = (-2) from rfl), ht⟩) (fun q h => by cases h) dX10_batch_22
set_option maxHeartbeats 4000000 in
set_option maxRecDepth 100000 in
theorem c_X10_batchs (l : Launch) (dC : Nat → ClassId) (dI : Nat → Nat → Nat) (cI cF cC cZ cQ cS : ClassId) (h0 : Nat) (zq : Nat) (h0_past : Value) (h0_kept : Value) (h0_spare : Value) (h0_pastMany : Value) (h0_isKept : Value) (h0_text : Value) (h0_typed : Value) (h0_isUsed : Value) (h0_planBatch : Value) (h0_planUnits : Value) (h0_planCents : Value) (h0_planMany : Value) (h0_planGot : Value) (h0_planSubstitutes : Value) (h0_at : Value) (h0_fault : Value) (h0_entries : Value) (h0_entry : Value) (z : Nat → Int32) (bz : Nat) (kb : Nat) (wn : Nat) (hz2 : z 2 = nI bz) (hbz : bz ≤ 40) (hk : kb < bz) (hwn : wn ≤ 11) (hw : nI 0 ≤ nI wn ∧ nI wn ≤ nI 11) (hg0 : (zB z kb 0).toNatClampNeg < 12 ∧ zB z kb 0 = nI (zB z kb 0).toNatClampNeg) : Met l yX10_batch wsX10_batch ({ frames := 2, cells := 0, slots := 0, locals := 45 }) (xPre (dC, dI) vwCl [.ref h0, .int (nI kb), .int (nI wn)] (xtys cI cF cC cZ cQ cS) [(h0, .inr (10, [.ref zq, h0_past, h0_kept, h0_spare, h0_pastMany, h0_isKept, h0_text, h0_typed, h0_isUsed, h0_planBatch, h0_planUnits, h0_planCents, h0_planMany, h0_planGot, h0_planSubstitutes, h0_at, h0_fault, h0_entries, h0_entry])), (zq, .inl (cI, 1002, .inl z))]) (vp_Si (fun r0 => r0 = mBatch wn (zB z kb wn) ((zB z kb 6 + zB z kb 7) + zB z kb 8) (zB z kb (6 + wn - 7)) (nI (zstg z kb)) (zB z kb 9))) 0 0 (fun _ => False) := by
  refine Met.ofW (cc := cX10_batch) (maxL := 3) (ret := (some .int)) (by decide) rfl ?_
  intro p e s m args below meth c s₁ B hml hv
  obtain ⟨rfl, hP, hK, hD0, hN⟩ := hv
  have hx := B.exec
  have hb := B.bytes
  have hr := B.returns
  have hts := atoms_spec (ws := wsX10_batch) B.pre
  have hown : s.vm.findClass RX10 = some m.cls := findClass_of_methodNamed B.named
  have hlocks := B.notSynchronized
  have hD := hD0
  have hl := lv_entry ([.ref h0, .int (nI kb), .int (nI wn)]) (n := 3) (Nat.le_of_ble_eq_true rfl)
  rw [lg_entry_eq]
  generalize (lg_sl ([.ref h0, .int (nI kb), .int (nI wn)]) ++ List.replicate (3 - (lg_sl ([.ref h0, .int (nI kb), .int (nI wn)])).length) Slot.unset).toArray = ls at hl ⊢
  have hl : lv_has ls 3 [(0, .ref h0), (1, .int (nI kb)), (2, .int (nI wn))] := hl
  refine lv_aload_n hx hb dX10_batch_0 rfl (lv_at hl 0 rfl) ?_
  refine lv_iload_n hx hb dX10_batch_1 rfl (lv_at hl 1 rfl) ?_
  refine xkRi (xV (As := [.int (nI kb)]) (rest := []) (wc := [(h0, .inr (10, [.ref zq, h0_past, h0_kept, h0_spare, h0_pastMany, h0_isKept, h0_text, h0_typed, h0_isUsed, h0_planBatch, h0_planUnits, h0_planCents, h0_planMany, h0_planGot, h0_planSubstitutes, h0_at, h0_fault, h0_entries, h0_entry])), (zq, .inl (cI, 1002, .inl z))]) hx hb hml hown hts (c_X10_isBatch l dC dI cI cF cC cZ cQ cS h0 zq h0_past h0_kept h0_spare h0_pastMany h0_isKept h0_text h0_typed h0_isUsed h0_planBatch h0_planUnits h0_planCents h0_planMany h0_planGot h0_planSubstitutes h0_at h0_fault h0_entries h0_entry z (nI kb) bz (by omega) (by omega)) 1 gX10_batch_X10_isBatch rfl rfl rfl hdV_X10_isBatch ⟨Nat.le_of_ble_eq_true rfl, Nat.le_of_ble_eq_true rfl⟩ hN hK hP hD [0, 1] rfl rfl 10 0 rfl rfl rfl hl.1 rfl (Nat.le_of_ble_eq_true rfl) dX10_batch_2 ⟨Nat.zero_le _, Nat.zero_le _⟩) (fun r_1 hr_1 => ?_)
  have hr_1 : r_1 = (if xhas (nI kb) bz then nI 1 else nI 0) := hr_1
  obtain rfl : r_1 = nI 1 := hr_1.trans (if_pos (xhas_of hk (by omega)))
  refine xr_ifn1 (tgt := 10) hx hb (by decide) dX10_batch_5 (by decide) ?_
  refine lv_iload_n hx hb dX10_batch_10 rfl (lv_at hl 2 rfl) ?_
  refine lv_iconst (v := nI 0) hx hb dX10_batch_11 (by decide) ?_
  refine lv_bipush (v := nI 11) hx hb dX10_batch_12 (by decide) ?_
  refine xkRi (xSs (Ws' := ([] : List Cond)) (As := [.int (nI wn), .int (nI 0), .int (nI 11)]) (rest := []) (wc := []) hx hb hml hown hts (c_X10_in l dC dI cI cF cC cZ cQ cS (nI wn) (nI 0) (nI 11)) 3 (fun hR => va_cwS 3 hts gX10_batch_X10_in rfl rfl rfl hdN_X10_in hR) ⟨Nat.le_of_ble_eq_true rfl, Nat.le_of_ble_eq_true rfl⟩ hN hK hP hD [] rfl rfl rfl hl.1 rfl (Nat.le_of_ble_eq_true rfl) dX10_batch_14 ⟨Nat.zero_le _, Nat.zero_le _⟩) (fun r_2 hr_2 => ?_)
  have hr_2 : r_2 = (if (nI 0) ≤ (nI wn) ∧ (nI wn) ≤ (nI 11) then nI 1 else nI 0) := hr_2
  obtain rfl : r_2 = nI 1 := hr_2.trans (if_pos hw)
  refine xr_ifn1 (tgt := 23) hx hb (by decide) dX10_batch_17 (by decide) ?_
  refine lv_iload_n hx hb dX10_batch_23 rfl (lv_at hl 2 rfl) ?_
  refine lv_bipush (v := nI 6) hx hb dX10_batch_24 (by decide) ?_
  refine xr_ge_n (tgt := 36) hx hb (by omega) (by omega) dX10_batch_26 (by decide) (fun c_3 => ?_) (fun c_3 => ?_)
  · skip
    refine lv_iload_n hx hb dX10_batch_36 rfl (lv_at hl 2 rfl) ?_
    refine lv_bipush (v := nI 6) hx hb dX10_batch_37 (by decide) ?_
    refine xr_ne_n (tgt := 48) hx hb (by omega) (by omega) dX10_batch_39 (by decide) (fun c_4 => ?_) (fun c_4 => ?_)
    · skip
      refine lv_iload_n hx hb dX10_batch_48 rfl (lv_at hl 2 rfl) ?_
      refine lv_bipush (v := nI 10) hx hb dX10_batch_49 (by decide) ?_
      refine xr_ge_n (tgt := 67) hx hb (by omega) (by omega) dX10_batch_51 (by decide) (fun c_5 => ?_) (fun c_5 => ?_)
      · skip
        refine lv_iload_n hx hb dX10_batch_67 rfl (lv_at hl 2 rfl) ?_
        refine lv_bipush (v := nI 10) hx hb dX10_batch_68 (by decide) ?_
        refine xr_ne_n (tgt := 81) hx hb (by omega) (by omega) dX10_batch_70 (by decide) (fun c_6 => ?_) (fun c_6 => ?_)
        · skip
          refine lv_aload_n hx hb dX10_batch_81 rfl (lv_at hl 0 rfl) ?_
          refine lv_iload_n hx hb dX10_batch_82 rfl (lv_at hl 1 rfl) ?_
          refine lv_bipush (v := nI 9) hx hb dX10_batch_83 (by decide) ?_
          refine xkRi (xV (As := [.int (nI kb), .int (nI 9)]) (rest := []) (wc := [(h0, .inr (10, [.ref zq, h0_past, h0_kept, h0_spare, h0_pastMany, h0_isKept, h0_text, h0_typed, h0_isUsed, h0_planBatch, h0_planUnits, h0_planCents, h0_planMany, h0_planGot, h0_planSubstitutes, h0_at, h0_fault, h0_entries, h0_entry])), (zq, .inl (cI, 1002, .inl z))]) hx hb hml hown hts (c_X10_ofBatch l dC dI cI cF cC cZ cQ cS h0 zq h0_past h0_kept h0_spare h0_pastMany h0_isKept h0_text h0_typed h0_isUsed h0_planBatch h0_planUnits h0_planCents h0_planMany h0_planGot h0_planSubstitutes h0_at h0_fault h0_entries h0_entry z kb 9 (by omega) (by omega)) 2 gX10_batch_X10_ofBatch rfl rfl rfl hdV_X10_ofBatch ⟨Nat.le_of_ble_eq_true rfl, Nat.le_of_ble_eq_true rfl⟩ hN hK hP hD [0, 1] rfl rfl 10 0 rfl rfl rfl hl.1 rfl (Nat.le_of_ble_eq_true rfl) dX10_batch_85 ⟨Nat.zero_le _, Nat.zero_le _⟩) (fun r_7 hr_7 => ?_)
          obtain rfl : r_7 = zB z kb 9 := hr_7
          exact W.iret (v := zB z kb 9) hx hb hr (fun t ht hW => ⟨_, rfl, (show zB z kb 9 = mBatch wn (zB z kb wn) ((zB z kb 6 + zB z kb 7) + zB z kb 8) (zB z kb (6 + wn - 7)) (nI (zstg z kb)) (zB z kb 9) from (by unfold mBatch; rw [if_neg (by omega), if_neg c_4, if_neg (by omega), if_neg c_6])), ht⟩) (fun q h => by cases h) dX10_batch_88
        refine lv_aload_n hx hb dX10_batch_73 rfl (lv_at hl 0 rfl) ?_
        refine lv_iload_n hx hb dX10_batch_74 rfl (lv_at hl 1 rfl) ?_
        refine xkRi (xV (As := [.int (nI kb)]) (rest := []) (wc := [(h0, .inr (10, [.ref zq, h0_past, h0_kept, h0_spare, h0_pastMany, h0_isKept, h0_text, h0_typed, h0_isUsed, h0_planBatch, h0_planUnits, h0_planCents, h0_planMany, h0_planGot, h0_planSubstitutes, h0_at, h0_fault, h0_entries, h0_entry])), (zq, .inl (cI, 1002, .inl z))]) hx hb hml hown hts (c_X10_stageOfBatch l dC dI cI cF cC cZ cQ cS h0 zq h0_past h0_kept h0_spare h0_pastMany h0_isKept h0_text h0_typed h0_isUsed h0_planBatch h0_planUnits h0_planCents h0_planMany h0_planGot h0_planSubstitutes h0_at h0_fault h0_entries h0_entry z kb (by omega) hg0) 1 gX10_batch_X10_stageOfBatch rfl rfl rfl hdV_X10_stageOfBatch ⟨Nat.le_of_ble_eq_true rfl, Nat.le_of_ble_eq_true rfl⟩ hN hK hP hD [0, 1] rfl rfl 10 0 rfl rfl rfl hl.1 rfl (Nat.le_of_ble_eq_true rfl) dX10_batch_75 ⟨Nat.zero_le _, Nat.zero_le _⟩) (fun r_8 hr_8 => ?_)
        obtain rfl : r_8 = nI (zstg z kb) := hr_8
        refine lv_goto (tgt := 88) hx hb dX10_batch_78 (by decide) ?_
        exact W.iret (v := nI (zstg z kb)) hx hb hr (fun t ht hW => ⟨_, rfl, (show nI (zstg z kb) = mBatch wn (zB z kb wn) ((zB z kb 6 + zB z kb 7) + zB z kb 8) (zB z kb (6 + wn - 7)) (nI (zstg z kb)) (zB z kb 9) from (by unfold mBatch; rw [if_neg (by omega), if_neg c_4, if_neg (by omega), if_pos c_6])), ht⟩) (fun q h => by cases h) dX10_batch_88
      refine lv_aload_n hx hb dX10_batch_54 rfl (lv_at hl 0 rfl) ?_
      refine lv_iload_n hx hb dX10_batch_55 rfl (lv_at hl 1 rfl) ?_
      refine lv_bipush (v := nI 6) hx hb dX10_batch_56 (by decide) ?_
      refine lv_iload_n hx hb dX10_batch_58 rfl (lv_at hl 2 rfl) ?_
      refine xr_iadd_n hx hb dX10_batch_59 ?_
      refine lv_bipush (v := nI 7) hx hb dX10_batch_60 (by decide) ?_
      refine xr_isub_n hx hb (by omega) dX10_batch_62 ?_
      refine xkRi (xV (As := [.int (nI kb), .int (nI ((6 + wn) - 7))]) (rest := []) (wc := [(h0, .inr (10, [.ref zq, h0_past, h0_kept, h0_spare, h0_pastMany, h0_isKept, h0_text, h0_typed, h0_isUsed, h0_planBatch, h0_planUnits, h0_planCents, h0_planMany, h0_planGot, h0_planSubstitutes, h0_at, h0_fault, h0_entries, h0_entry])), (zq, .inl (cI, 1002, .inl z))]) hx hb hml hown hts (c_X10_ofBatch l dC dI cI cF cC cZ cQ cS h0 zq h0_past h0_kept h0_spare h0_pastMany h0_isKept h0_text h0_typed h0_isUsed h0_planBatch h0_planUnits h0_planCents h0_planMany h0_planGot h0_planSubstitutes h0_at h0_fault h0_entries h0_entry z kb ((6 + wn) - 7) (by omega) (by omega)) 2 gX10_batch_X10_ofBatch rfl rfl rfl hdV_X10_ofBatch ⟨Nat.le_of_ble_eq_true rfl, Nat.le_of_ble_eq_true rfl⟩ hN hK hP hD [0, 1] rfl rfl 10 0 rfl rfl rfl hl.1 rfl (Nat.le_of_ble_eq_true rfl) dX10_batch_63 ⟨Nat.zero_le _, Nat.zero_le _⟩) (fun r_9 hr_9 => ?_)
      obtain rfl : r_9 = zB z kb ((6 + wn) - 7) := hr_9
      exact W.iret (v := zB z kb ((6 + wn) - 7)) hx hb hr (fun t ht hW => ⟨_, rfl, (show zB z kb ((6 + wn) - 7) = mBatch wn (zB z kb wn) ((zB z kb 6 + zB z kb 7) + zB z kb 8) (zB z kb (6 + wn - 7)) (nI (zstg z kb)) (zB z kb 9) from (by unfold mBatch; rw [if_neg (by omega), if_neg c_4, if_pos c_5])), ht⟩) (fun q h => by cases h) dX10_batch_66
    refine lv_aload_n hx hb dX10_batch_42 rfl (lv_at hl 0 rfl) ?_
    refine lv_iload_n hx hb dX10_batch_43 rfl (lv_at hl 1 rfl) ?_
    refine xkRi (xV (As := [.int (nI kb)]) (rest := []) (wc := [(h0, .inr (10, [.ref zq, h0_past, h0_kept, h0_spare, h0_pastMany, h0_isKept, h0_text, h0_typed, h0_isUsed, h0_planBatch, h0_planUnits, h0_planCents, h0_planMany, h0_planGot, h0_planSubstitutes, h0_at, h0_fault, h0_entries, h0_entry])), (zq, .inl (cI, 1002, .inl z))]) hx hb hml hown hts (c_X10_wasted l dC dI cI cF cC cZ cQ cS h0 zq h0_past h0_kept h0_spare h0_pastMany h0_isKept h0_text h0_typed h0_isUsed h0_planBatch h0_planUnits h0_planCents h0_planMany h0_planGot h0_planSubstitutes h0_at h0_fault h0_entries h0_entry z kb (by omega)) 1 gX10_batch_X10_wasted rfl rfl rfl hdV_X10_wasted ⟨Nat.le_of_ble_eq_true rfl, Nat.le_of_ble_eq_true rfl⟩ hN hK hP hD [0, 1] rfl rfl 10 0 rfl rfl rfl hl.1 rfl (Nat.le_of_ble_eq_true rfl) dX10_batch_44 ⟨Nat.zero_le _, Nat.zero_le _⟩) (fun r_10 hr_10 => ?_)
    obtain rfl : r_10 = (zB z kb 6 + zB z kb 7) + zB z kb 8 := hr_10
    exact W.iret (v := (zB z kb 6 + zB z kb 7) + zB z kb 8) hx hb hr (fun t ht hW => ⟨_, rfl, (show (zB z kb 6 + zB z kb 7) + zB z kb 8 = mBatch wn (zB z kb wn) ((zB z kb 6 + zB z kb 7) + zB z kb 8) (zB z kb (6 + wn - 7)) (nI (zstg z kb)) (zB z kb 9) from (by unfold mBatch; rw [if_neg (by omega), if_pos c_4])), ht⟩) (fun q h => by cases h) dX10_batch_47
  refine lv_aload_n hx hb dX10_batch_29 rfl (lv_at hl 0 rfl) ?_
  refine lv_iload_n hx hb dX10_batch_30 rfl (lv_at hl 1 rfl) ?_
  refine lv_iload_n hx hb dX10_batch_31 rfl (lv_at hl 2 rfl) ?_
  refine xkRi (xV (As := [.int (nI kb), .int (nI wn)]) (rest := []) (wc := [(h0, .inr (10, [.ref zq, h0_past, h0_kept, h0_spare, h0_pastMany, h0_isKept, h0_text, h0_typed, h0_isUsed, h0_planBatch, h0_planUnits, h0_planCents, h0_planMany, h0_planGot, h0_planSubstitutes, h0_at, h0_fault, h0_entries, h0_entry])), (zq, .inl (cI, 1002, .inl z))]) hx hb hml hown hts (c_X10_ofBatch l dC dI cI cF cC cZ cQ cS h0 zq h0_past h0_kept h0_spare h0_pastMany h0_isKept h0_text h0_typed h0_isUsed h0_planBatch h0_planUnits h0_planCents h0_planMany h0_planGot h0_planSubstitutes h0_at h0_fault h0_entries h0_entry z kb wn (by omega) (by omega)) 2 gX10_batch_X10_ofBatch rfl rfl rfl hdV_X10_ofBatch ⟨Nat.le_of_ble_eq_true rfl, Nat.le_of_ble_eq_true rfl⟩ hN hK hP hD [0, 1] rfl rfl 10 0 rfl rfl rfl hl.1 rfl (Nat.le_of_ble_eq_true rfl) dX10_batch_32 ⟨Nat.zero_le _, Nat.zero_le _⟩) (fun r_11 hr_11 => ?_)
  obtain rfl : r_11 = zB z kb wn := hr_11
  exact W.iret (v := zB z kb wn) hx hb hr (fun t ht hW => ⟨_, rfl, (show zB z kb wn = mBatch wn (zB z kb wn) ((zB z kb 6 + zB z kb 7) + zB z kb 8) (zB z kb (6 + wn - 7)) (nI (zstg z kb)) (zB z kb 9) from (by unfold mBatch; rw [if_pos c_3])), ht⟩) (fun q h => by cases h) dX10_batch_35
set_option maxHeartbeats 4000000 in
set_option maxRecDepth 100000 in
theorem c_X10_orderToldb (l : Launch) (dC : Nat → ClassId) (dI : Nat → Nat → Nat) (cI cF cC cZ cQ cS : ClassId) (h0 : Nat) (zq : Nat) (h0_past : Value) (h0_kept : Value) (h0_spare : Value) (h0_pastMany : Value) (h0_isKept : Value) (h0_text : Value) (h0_typed : Value) (h0_isUsed : Value) (h0_planBatch : Value) (h0_planUnits : Value) (h0_planCents : Value) (h0_planMany : Value) (h0_planGot : Value) (h0_planSubstitutes : Value) (h0_at : Value) (h0_fault : Value) (h0_entries : Value) (h0_entry : Value) (z : Nat → Int32) (oz : Nat) (ko : Nat) (wh : Int32) (hz3 : z 3 = nI oz) (hoz : oz ≤ 30) (hk : ko < oz) (hw : ¬ (nI 0 ≤ wh ∧ wh ≤ nI 8)) : Met l yX10_orderTold wsX10_orderTold ({ frames := 1, cells := 0, slots := 0, locals := 22 }) (xPre (dC, dI) vwCl [.ref h0, .int (nI ko), .int wh] (xtys cI cF cC cZ cQ cS) [(h0, .inr (10, [.ref zq, h0_past, h0_kept, h0_spare, h0_pastMany, h0_isKept, h0_text, h0_typed, h0_isUsed, h0_planBatch, h0_planUnits, h0_planCents, h0_planMany, h0_planGot, h0_planSubstitutes, h0_at, h0_fault, h0_entries, h0_entry])), (zq, .inl (cI, 1002, .inl z))]) (vp_Si (fun r0 => r0 = (-2))) 0 0 (fun _ => False) := by
  refine Met.ofW (cc := cX10_orderTold) (maxL := 3) (ret := (some .int)) (by decide) rfl ?_
  intro p e s m args below meth c s₁ B hml hv
  obtain ⟨rfl, hP, hK, hD0, hN⟩ := hv
  have hx := B.exec
  have hb := B.bytes
  have hr := B.returns
  have hts := atoms_spec (ws := wsX10_orderTold) B.pre
  have hown : s.vm.findClass RX10 = some m.cls := findClass_of_methodNamed B.named
  have hlocks := B.notSynchronized
  have hD := hD0
  have hl := lv_entry ([.ref h0, .int (nI ko), .int wh]) (n := 3) (Nat.le_of_ble_eq_true rfl)
  rw [lg_entry_eq]
  generalize (lg_sl ([.ref h0, .int (nI ko), .int wh]) ++ List.replicate (3 - (lg_sl ([.ref h0, .int (nI ko), .int wh])).length) Slot.unset).toArray = ls at hl ⊢
  have hl : lv_has ls 3 [(0, .ref h0), (1, .int (nI ko)), (2, .int wh)] := hl
  refine lv_aload_n hx hb dX10_orderTold_0 rfl (lv_at hl 0 rfl) ?_
  refine lv_iload_n hx hb dX10_orderTold_1 rfl (lv_at hl 1 rfl) ?_
  refine xkRi (xV (As := [.int (nI ko)]) (rest := []) (wc := [(h0, .inr (10, [.ref zq, h0_past, h0_kept, h0_spare, h0_pastMany, h0_isKept, h0_text, h0_typed, h0_isUsed, h0_planBatch, h0_planUnits, h0_planCents, h0_planMany, h0_planGot, h0_planSubstitutes, h0_at, h0_fault, h0_entries, h0_entry])), (zq, .inl (cI, 1002, .inl z))]) hx hb hml hown hts (c_X10_isOrder l dC dI cI cF cC cZ cQ cS h0 zq h0_past h0_kept h0_spare h0_pastMany h0_isKept h0_text h0_typed h0_isUsed h0_planBatch h0_planUnits h0_planCents h0_planMany h0_planGot h0_planSubstitutes h0_at h0_fault h0_entries h0_entry z (nI ko) oz (by omega) (by omega)) 1 gX10_orderTold_X10_isOrder rfl rfl rfl hdV_X10_isOrder ⟨Nat.le_of_ble_eq_true rfl, Nat.le_of_ble_eq_true rfl⟩ hN hK hP hD [0, 1] rfl rfl 10 0 rfl rfl rfl hl.1 rfl (Nat.le_of_ble_eq_true rfl) dX10_orderTold_2 ⟨Nat.zero_le _, Nat.zero_le _⟩) (fun r_1 hr_1 => ?_)
  have hr_1 : r_1 = (if xhas (nI ko) oz then nI 1 else nI 0) := hr_1
  obtain rfl : r_1 = nI 1 := hr_1.trans (if_pos (xhas_of hk (by omega)))
  refine xr_ifn1 (tgt := 10) hx hb (by decide) dX10_orderTold_5 (by decide) ?_
  refine lv_iload_n hx hb dX10_orderTold_10 rfl (lv_at hl 2 rfl) ?_
  refine lv_iconst (v := nI 0) hx hb dX10_orderTold_11 (by decide) ?_
  refine lv_bipush (v := nI 8) hx hb dX10_orderTold_12 (by decide) ?_
  refine xkRi (xSs (Ws' := ([] : List Cond)) (As := [.int wh, .int (nI 0), .int (nI 8)]) (rest := []) (wc := []) hx hb hml hown hts (c_X10_in l dC dI cI cF cC cZ cQ cS wh (nI 0) (nI 8)) 3 (fun hR => va_cwS 3 hts gX10_orderTold_X10_in rfl rfl rfl hdN_X10_in hR) ⟨Nat.le_of_ble_eq_true rfl, Nat.le_of_ble_eq_true rfl⟩ hN hK hP hD [] rfl rfl rfl hl.1 rfl (Nat.le_of_ble_eq_true rfl) dX10_orderTold_14 ⟨Nat.zero_le _, Nat.zero_le _⟩) (fun r_2 hr_2 => ?_)
  have hr_2 : r_2 = (if (nI 0) ≤ wh ∧ wh ≤ (nI 8) then nI 1 else nI 0) := hr_2
  obtain rfl : r_2 = nI 0 := hr_2.trans (if_neg hw)
  refine xr_ifn0 (tgt := 23) hx hb (by decide) dX10_orderTold_17 (by decide) ?_
  refine lv_bipush (v := (-2)) hx hb dX10_orderTold_20 (by decide) ?_
  exact W.iret (v := (-2)) hx hb hr (fun t ht hW => ⟨_, rfl, (show (-2) = (-2) from rfl), ht⟩) (fun q h => by cases h) dX10_orderTold_22
set_option maxHeartbeats 4000000 in
set_option maxRecDepth 100000 in
theorem c_X10_orderTolds (l : Launch) (dC : Nat → ClassId) (dI : Nat → Nat → Nat) (cI cF cC cZ cQ cS : ClassId) (h0 : Nat) (zq : Nat) (h0_past : Value) (h0_kept : Value) (h0_spare : Value) (h0_pastMany : Value) (h0_isKept : Value) (h0_text : Value) (h0_typed : Value) (h0_isUsed : Value) (h0_planBatch : Value) (h0_planUnits : Value) (h0_planCents : Value) (h0_planMany : Value) (h0_planGot : Value) (h0_planSubstitutes : Value) (h0_at : Value) (h0_fault : Value) (h0_entries : Value) (h0_entry : Value) (z : Nat → Int32) (oz : Nat) (ko : Nat) (wn : Nat) (hz3 : z 3 = nI oz) (hoz : oz ≤ 30) (hk : ko < oz) (hwn : wn ≤ 8) (hw : nI 0 ≤ nI wn ∧ nI wn ≤ nI 8) : Met l yX10_orderTold wsX10_orderTold ({ frames := 1, cells := 0, slots := 0, locals := 22 }) (xPre (dC, dI) vwCl [.ref h0, .int (nI ko), .int (nI wn)] (xtys cI cF cC cZ cQ cS) [(h0, .inr (10, [.ref zq, h0_past, h0_kept, h0_spare, h0_pastMany, h0_isKept, h0_text, h0_typed, h0_isUsed, h0_planBatch, h0_planUnits, h0_planCents, h0_planMany, h0_planGot, h0_planSubstitutes, h0_at, h0_fault, h0_entries, h0_entry])), (zq, .inl (cI, 1002, .inl z))]) (vp_Si (fun r0 => r0 = mOrder wn (zO z ko wn) (zO z ko 9) (zO z ko 6) (zO z ko 7))) 0 0 (fun _ => False) := by
  refine Met.ofW (cc := cX10_orderTold) (maxL := 3) (ret := (some .int)) (by decide) rfl ?_
  intro p e s m args below meth c s₁ B hml hv
  obtain ⟨rfl, hP, hK, hD0, hN⟩ := hv
  have hx := B.exec
  have hb := B.bytes
  have hr := B.returns
  have hts := atoms_spec (ws := wsX10_orderTold) B.pre
  have hown : s.vm.findClass RX10 = some m.cls := findClass_of_methodNamed B.named
  have hlocks := B.notSynchronized
  have hD := hD0
  have hl := lv_entry ([.ref h0, .int (nI ko), .int (nI wn)]) (n := 3) (Nat.le_of_ble_eq_true rfl)
  rw [lg_entry_eq]
  generalize (lg_sl ([.ref h0, .int (nI ko), .int (nI wn)]) ++ List.replicate (3 - (lg_sl ([.ref h0, .int (nI ko), .int (nI wn)])).length) Slot.unset).toArray = ls at hl ⊢
  have hl : lv_has ls 3 [(0, .ref h0), (1, .int (nI ko)), (2, .int (nI wn))] := hl
  refine lv_aload_n hx hb dX10_orderTold_0 rfl (lv_at hl 0 rfl) ?_
  refine lv_iload_n hx hb dX10_orderTold_1 rfl (lv_at hl 1 rfl) ?_
  refine xkRi (xV (As := [.int (nI ko)]) (rest := []) (wc := [(h0, .inr (10, [.ref zq, h0_past, h0_kept, h0_spare, h0_pastMany, h0_isKept, h0_text, h0_typed, h0_isUsed, h0_planBatch, h0_planUnits, h0_planCents, h0_planMany, h0_planGot, h0_planSubstitutes, h0_at, h0_fault, h0_entries, h0_entry])), (zq, .inl (cI, 1002, .inl z))]) hx hb hml hown hts (c_X10_isOrder l dC dI cI cF cC cZ cQ cS h0 zq h0_past h0_kept h0_spare h0_pastMany h0_isKept h0_text h0_typed h0_isUsed h0_planBatch h0_planUnits h0_planCents h0_planMany h0_planGot h0_planSubstitutes h0_at h0_fault h0_entries h0_entry z (nI ko) oz (by omega) (by omega)) 1 gX10_orderTold_X10_isOrder rfl rfl rfl hdV_X10_isOrder ⟨Nat.le_of_ble_eq_true rfl, Nat.le_of_ble_eq_true rfl⟩ hN hK hP hD [0, 1] rfl rfl 10 0 rfl rfl rfl hl.1 rfl (Nat.le_of_ble_eq_true rfl) dX10_orderTold_2 ⟨Nat.zero_le _, Nat.zero_le _⟩) (fun r_1 hr_1 => ?_)
  have hr_1 : r_1 = (if xhas (nI ko) oz then nI 1 else nI 0) := hr_1
  obtain rfl : r_1 = nI 1 := hr_1.trans (if_pos (xhas_of hk (by omega)))
  refine xr_ifn1 (tgt := 10) hx hb (by decide) dX10_orderTold_5 (by decide) ?_
  refine lv_iload_n hx hb dX10_orderTold_10 rfl (lv_at hl 2 rfl) ?_
  refine lv_iconst (v := nI 0) hx hb dX10_orderTold_11 (by decide) ?_
  refine lv_bipush (v := nI 8) hx hb dX10_orderTold_12 (by decide) ?_
  refine xkRi (xSs (Ws' := ([] : List Cond)) (As := [.int (nI wn), .int (nI 0), .int (nI 8)]) (rest := []) (wc := []) hx hb hml hown hts (c_X10_in l dC dI cI cF cC cZ cQ cS (nI wn) (nI 0) (nI 8)) 3 (fun hR => va_cwS 3 hts gX10_orderTold_X10_in rfl rfl rfl hdN_X10_in hR) ⟨Nat.le_of_ble_eq_true rfl, Nat.le_of_ble_eq_true rfl⟩ hN hK hP hD [] rfl rfl rfl hl.1 rfl (Nat.le_of_ble_eq_true rfl) dX10_orderTold_14 ⟨Nat.zero_le _, Nat.zero_le _⟩) (fun r_2 hr_2 => ?_)
  have hr_2 : r_2 = (if (nI 0) ≤ (nI wn) ∧ (nI wn) ≤ (nI 8) then nI 1 else nI 0) := hr_2
  obtain rfl : r_2 = nI 1 := hr_2.trans (if_pos hw)
  refine xr_ifn1 (tgt := 23) hx hb (by decide) dX10_orderTold_17 (by decide) ?_
  refine lv_iload_n hx hb dX10_orderTold_23 rfl (lv_at hl 2 rfl) ?_
  refine lv_bipush (v := nI 6) hx hb dX10_orderTold_24 (by decide) ?_
  refine xr_ge_n (tgt := 36) hx hb (by omega) (by omega) dX10_orderTold_26 (by decide) (fun c_3 => ?_) (fun c_3 => ?_)
  · skip
    refine lv_aload_n hx hb dX10_orderTold_36 rfl (lv_at hl 0 rfl) ?_
    refine lv_iload_n hx hb dX10_orderTold_37 rfl (lv_at hl 1 rfl) ?_
    refine lv_iload_n hx hb dX10_orderTold_38 rfl (lv_at hl 2 rfl) ?_
    refine lv_bipush (v := nI 6) hx hb dX10_orderTold_39 (by decide) ?_
    refine xr_ne_n (tgt := 49) hx hb (by omega) (by omega) dX10_orderTold_41 (by decide) (fun c_4 => ?_) (fun c_4 => ?_)
    · skip
      refine lv_iload_n hx hb dX10_orderTold_49 rfl (lv_at hl 2 rfl) ?_
      refine lv_bipush (v := nI 7) hx hb dX10_orderTold_50 (by decide) ?_
      refine xr_ne_n (tgt := 60) hx hb (by omega) (by omega) dX10_orderTold_52 (by decide) (fun c_5 => ?_) (fun c_5 => ?_)
      · skip
        refine lv_bipush (v := nI 7) hx hb dX10_orderTold_60 (by decide) ?_
        refine xkRi (xV (As := [.int (nI ko), .int (nI 7)]) (rest := []) (wc := [(h0, .inr (10, [.ref zq, h0_past, h0_kept, h0_spare, h0_pastMany, h0_isKept, h0_text, h0_typed, h0_isUsed, h0_planBatch, h0_planUnits, h0_planCents, h0_planMany, h0_planGot, h0_planSubstitutes, h0_at, h0_fault, h0_entries, h0_entry])), (zq, .inl (cI, 1002, .inl z))]) hx hb hml hown hts (c_X10_ofOrder l dC dI cI cF cC cZ cQ cS h0 zq h0_past h0_kept h0_spare h0_pastMany h0_isKept h0_text h0_typed h0_isUsed h0_planBatch h0_planUnits h0_planCents h0_planMany h0_planGot h0_planSubstitutes h0_at h0_fault h0_entries h0_entry z ko 7 (by omega) (by omega)) 2 gX10_orderTold_X10_ofOrder rfl rfl rfl hdV_X10_ofOrder ⟨Nat.le_of_ble_eq_true rfl, Nat.le_of_ble_eq_true rfl⟩ hN hK hP hD [0, 1] rfl rfl 10 0 rfl rfl rfl hl.1 rfl (Nat.le_of_ble_eq_true rfl) dX10_orderTold_62 ⟨Nat.zero_le _, Nat.zero_le _⟩) (fun r_6 hr_6 => ?_)
        obtain rfl : r_6 = zO z ko 7 := hr_6
        exact W.iret (v := zO z ko 7) hx hb hr (fun t ht hW => ⟨_, rfl, (show zO z ko 7 = mOrder wn (zO z ko wn) (zO z ko 9) (zO z ko 6) (zO z ko 7) from (by unfold mOrder; rw [if_neg (by omega), if_neg c_4, if_neg c_5])), ht⟩) (fun q h => by cases h) dX10_orderTold_65
      refine lv_bipush (v := nI 6) hx hb dX10_orderTold_55 (by decide) ?_
      refine lv_goto (tgt := 62) hx hb dX10_orderTold_57 (by decide) ?_
      refine xkRi (xV (As := [.int (nI ko), .int (nI 6)]) (rest := []) (wc := [(h0, .inr (10, [.ref zq, h0_past, h0_kept, h0_spare, h0_pastMany, h0_isKept, h0_text, h0_typed, h0_isUsed, h0_planBatch, h0_planUnits, h0_planCents, h0_planMany, h0_planGot, h0_planSubstitutes, h0_at, h0_fault, h0_entries, h0_entry])), (zq, .inl (cI, 1002, .inl z))]) hx hb hml hown hts (c_X10_ofOrder l dC dI cI cF cC cZ cQ cS h0 zq h0_past h0_kept h0_spare h0_pastMany h0_isKept h0_text h0_typed h0_isUsed h0_planBatch h0_planUnits h0_planCents h0_planMany h0_planGot h0_planSubstitutes h0_at h0_fault h0_entries h0_entry z ko 6 (by omega) (by omega)) 2 gX10_orderTold_X10_ofOrder rfl rfl rfl hdV_X10_ofOrder ⟨Nat.le_of_ble_eq_true rfl, Nat.le_of_ble_eq_true rfl⟩ hN hK hP hD [0, 1] rfl rfl 10 0 rfl rfl rfl hl.1 rfl (Nat.le_of_ble_eq_true rfl) dX10_orderTold_62 ⟨Nat.zero_le _, Nat.zero_le _⟩) (fun r_7 hr_7 => ?_)
      obtain rfl : r_7 = zO z ko 6 := hr_7
      exact W.iret (v := zO z ko 6) hx hb hr (fun t ht hW => ⟨_, rfl, (show zO z ko 6 = mOrder wn (zO z ko wn) (zO z ko 9) (zO z ko 6) (zO z ko 7) from (by unfold mOrder; rw [if_neg (by omega), if_neg c_4, if_pos c_5])), ht⟩) (fun q h => by cases h) dX10_orderTold_65
    refine lv_bipush (v := nI 9) hx hb dX10_orderTold_44 (by decide) ?_
    refine lv_goto (tgt := 62) hx hb dX10_orderTold_46 (by decide) ?_
    refine xkRi (xV (As := [.int (nI ko), .int (nI 9)]) (rest := []) (wc := [(h0, .inr (10, [.ref zq, h0_past, h0_kept, h0_spare, h0_pastMany, h0_isKept, h0_text, h0_typed, h0_isUsed, h0_planBatch, h0_planUnits, h0_planCents, h0_planMany, h0_planGot, h0_planSubstitutes, h0_at, h0_fault, h0_entries, h0_entry])), (zq, .inl (cI, 1002, .inl z))]) hx hb hml hown hts (c_X10_ofOrder l dC dI cI cF cC cZ cQ cS h0 zq h0_past h0_kept h0_spare h0_pastMany h0_isKept h0_text h0_typed h0_isUsed h0_planBatch h0_planUnits h0_planCents h0_planMany h0_planGot h0_planSubstitutes h0_at h0_fault h0_entries h0_entry z ko 9 (by omega) (by omega)) 2 gX10_orderTold_X10_ofOrder rfl rfl rfl hdV_X10_ofOrder ⟨Nat.le_of_ble_eq_true rfl, Nat.le_of_ble_eq_true rfl⟩ hN hK hP hD [0, 1] rfl rfl 10 0 rfl rfl rfl hl.1 rfl (Nat.le_of_ble_eq_true rfl) dX10_orderTold_62 ⟨Nat.zero_le _, Nat.zero_le _⟩) (fun r_8 hr_8 => ?_)
    obtain rfl : r_8 = zO z ko 9 := hr_8
    exact W.iret (v := zO z ko 9) hx hb hr (fun t ht hW => ⟨_, rfl, (show zO z ko 9 = mOrder wn (zO z ko wn) (zO z ko 9) (zO z ko 6) (zO z ko 7) from (by unfold mOrder; rw [if_neg (by omega), if_pos c_4])), ht⟩) (fun q h => by cases h) dX10_orderTold_65
  refine lv_aload_n hx hb dX10_orderTold_29 rfl (lv_at hl 0 rfl) ?_
  refine lv_iload_n hx hb dX10_orderTold_30 rfl (lv_at hl 1 rfl) ?_
  refine lv_iload_n hx hb dX10_orderTold_31 rfl (lv_at hl 2 rfl) ?_
  refine xkRi (xV (As := [.int (nI ko), .int (nI wn)]) (rest := []) (wc := [(h0, .inr (10, [.ref zq, h0_past, h0_kept, h0_spare, h0_pastMany, h0_isKept, h0_text, h0_typed, h0_isUsed, h0_planBatch, h0_planUnits, h0_planCents, h0_planMany, h0_planGot, h0_planSubstitutes, h0_at, h0_fault, h0_entries, h0_entry])), (zq, .inl (cI, 1002, .inl z))]) hx hb hml hown hts (c_X10_ofOrder l dC dI cI cF cC cZ cQ cS h0 zq h0_past h0_kept h0_spare h0_pastMany h0_isKept h0_text h0_typed h0_isUsed h0_planBatch h0_planUnits h0_planCents h0_planMany h0_planGot h0_planSubstitutes h0_at h0_fault h0_entries h0_entry z ko wn (by omega) (by omega)) 2 gX10_orderTold_X10_ofOrder rfl rfl rfl hdV_X10_ofOrder ⟨Nat.le_of_ble_eq_true rfl, Nat.le_of_ble_eq_true rfl⟩ hN hK hP hD [0, 1] rfl rfl 10 0 rfl rfl rfl hl.1 rfl (Nat.le_of_ble_eq_true rfl) dX10_orderTold_32 ⟨Nat.zero_le _, Nat.zero_le _⟩) (fun r_9 hr_9 => ?_)
  obtain rfl : r_9 = zO z ko wn := hr_9
  exact W.iret (v := zO z ko wn) hx hb hr (fun t ht hW => ⟨_, rfl, (show zO z ko wn = mOrder wn (zO z ko wn) (zO z ko 9) (zO z ko 6) (zO z ko 7) from (by unfold mOrder; rw [if_pos c_3])), ht⟩) (fun q h => by cases h) dX10_orderTold_35
