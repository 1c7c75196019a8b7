theorem hdV_X10_nextBatch : yX10_nextBatch.cls = RX10 ∧ yX10_nextBatch.cls ≠ "java/lang/invoke/MethodHandle" ∧ yX10_nextBatch.cls ≠ "java/lang/invoke/VarHandle" ∧ (parseMethodDescriptor yX10_nextBatch.desc).map (fun d => d.parameters.length) = some 2 := by decide +kernel
set_option maxHeartbeats 4000000 in
set_option maxRecDepth 100000 in
theorem c_X10_nextBatch (l : Launch) (dC : Nat → ClassId) (dI : Nat → Nat → Nat) (cI cF cC cZ cQ cS : ClassId) (h0 : Nat) (zq : Nat) (h0_past : Value) (h0_kept : Value) (h0_spare : Value) (h0_pastMany : Value) (h0_isKept : Value) (h0_text : Value) (h0_typed : Value) (uq : Nat) (h0_planBatch : Value) (h0_planUnits : Value) (h0_planCents : Value) (h0_planMany : Value) (h0_planGot : Value) (h0_planSubstitutes : Value) (h0_at : Value) (h0_fault : Value) (h0_entries : Value) (h0_entry : Value) (z : Nat → Int32) (us : Nat → Int32) (w : Int32) (le : Int32) (bz : Nat) (hz2 : z 2 = nI bz) (hbz : bz ≤ 40) (hgi : zidx z bz) (hmk : ∀ j, j < 4 → (z (958 + j)).toNatClampNeg ≤ 1120403456 ∧ z (958 + j) = nI (z (958 + j)).toNatClampNeg) : Met l yX10_nextBatch wsX10_nextBatch ({ frames := 4, cells := 0, slots := 0, locals := 93 }) (xPre (dC, dI) vwCl [.ref h0, .int w, .int le] (xtys cI cF cC cZ cQ cS) [(h0, .inr (10, [.ref zq, h0_past, h0_kept, h0_spare, h0_pastMany, h0_isKept, h0_text, h0_typed, .ref uq, h0_planBatch, h0_planUnits, h0_planCents, h0_planMany, h0_planGot, h0_planSubstitutes, h0_at, h0_fault, h0_entries, h0_entry])), (zq, .inl (cI, 1002, .inl z)), (uq, .inl (cZ, 40, .inl us))]) (vp_Si (fun r0 => r0 = zon (znb z le w bz us))) 0 0 (fun _ => False) := by
  refine Met.ofW (cc := cX10_nextBatch) (maxL := 6) (ret := (some .int)) (by decide) rfl ?_
  intro p e s m args below meth c s₁ B hml hv
  obtain ⟨rfl, hP, hK, hD0, hN⟩ := hv
  have hx := B.exec
  have hb := B.bytes
  have hr := B.returns
  have hts := atoms_spec (ws := wsX10_nextBatch) B.pre
  have hown : s.vm.findClass RX10 = some m.cls := findClass_of_methodNamed B.named
  have hlocks := B.notSynchronized
  have k_26 := hts (Cond.fieldLink RX10 26 "ShelfStagesModel" "isUsed" "[Z") (by decide +kernel)
  have k_7 := hts (Cond.fieldLink RX10 7 "ShelfStagesModel" "z" "[I") (by decide +kernel)
  have i_X10 : ∀ w ∈ wsX100, w ∈ wsX10_nextBatch := by decide +kernel
  have hD := hD0
  have hl := lv_entry ([.ref h0, .int w, .int le]) (n := 6) (Nat.le_of_ble_eq_true rfl)
  rw [lg_entry_eq]
  generalize (lg_sl ([.ref h0, .int w, .int le]) ++ List.replicate (6 - (lg_sl ([.ref h0, .int w, .int le])).length) Slot.unset).toArray = ls at hl ⊢
  have hl : lv_has ls 6 [(0, .ref h0), (1, .int w), (2, .int le)] := hl
  refine lv_bipush (v := (-5)) hx hb dX10_nextBatch_0 (by decide) ?_
  refine lv_istore_n (lv' := [(3, .int (-5)), (0, .ref h0), (1, .int w), (2, .int le)]) hx hb dX10_nextBatch_2 rfl hl (by decide) rfl (fun ls hl => ?_)
  refine lv_iconst (v := nI 0) hx hb dX10_nextBatch_3 (by decide) ?_
  refine lv_istore (lv' := [(4, .int (nI 0)), (3, .int (-5)), (0, .ref h0), (1, .int w), (2, .int le)]) hx hb dX10_nextBatch_4 hl (by decide) rfl (fun ls hl => ?_)
  refine xr_loop (J := Nat) (fun n0 H locs g => ∃ (k : Nat) (fo : Option Nat) (ls : Array Slot), H = s.heap ∧ locs = [] ∧ n0 = bz - k ∧ g = F0 m 6 ls [] ∧ lv_has ls 6 [(4, .int (nI k)), (3, .int (zon fo)), (0, .ref h0), (1, .int w), (2, .int le)] ∧ (k ≤ bz) ∧ (∀ b, fo = some b → b < k) ∧ (fo = xnb (fun b => decide (zopen z us le w b)) (fun b f => decide (zsooner z b f)) k)) (fun n => n) ?_ (bz - 0) (g := F0 m 6 ls []) ⟨0, none, ls, rfl, rfl, rfl, rfl, lv_sub hl [0, 1, 2, 3, 4] rfl, (Nat.zero_le _), (fun b h => by cases h), rfl⟩
  intro n0 ih_6 H locs g hp
  obtain ⟨k, fo, ls, rfl, rfl, rfl, rfl, hl, hk, hf, hfo⟩ := hp
  refine lv_iload hx hb dX10_nextBatch_6 (lv_at hl 0 rfl) ?_
  refine lv_aload_n hx hb dX10_nextBatch_8 rfl (lv_at hl 2 rfl) ?_
  refine va_get (D := (dC, dI)) (ci := 10) (v := .ref zq) (C := RX10) (T := TX10) (N := 19) hx hb hts i_X10 hown hK hP 0 rfl rfl 0 (by decide) k_7 (fun _ h9 => h9) rfl dX10_nextBatch_9 ?_
  refine lv_iconst (v := nI 2) hx hb dX10_nextBatch_12 (by decide) ?_
  refine xr_iald hx hb hK hP 1 0 rfl rfl (i := 2) (by omega) (by decide) dX10_nextBatch_13 ?_
  refine xr_top (show z 2 = nI bz from hz2) ?_
  refine xr_ge_n (tgt := 96) hx hb (by omega) (by omega) dX10_nextBatch_14 (by decide) (fun c_1 => ?_) (fun c_1 => ?_)
  · skip
    refine lv_iload_n hx hb dX10_nextBatch_96 rfl (lv_at hl 1 rfl) ?_
    exact W.iret (v := zon fo) hx hb hr (fun t ht hW => ⟨_, rfl, (show zon fo = zon (znb z le w bz us) from (by rw [hfo, show k = bz from by omega]; rfl)), ht⟩) (fun q h => by cases h) dX10_nextBatch_97
  refine lv_aload_n hx hb dX10_nextBatch_17 rfl (lv_at hl 2 rfl) ?_
  refine va_get (D := (dC, dI)) (ci := 10) (v := .ref uq) (C := RX10) (T := TX10) (N := 19) hx hb hts i_X10 hown hK hP 0 rfl rfl 8 (by decide) k_26 (fun _ h9 => h9) rfl dX10_nextBatch_18 ?_
  refine lv_iload hx hb dX10_nextBatch_21 (lv_at hl 0 rfl) ?_
  refine xr_zald hx hb hK hP 2 3 rfl rfl (i := k) (by omega) (by decide) dX10_nextBatch_23 ?_
  refine lv_if_ne (tgt := 63) hx hb dX10_nextBatch_24 (by decide) (fun c_2 => ?_) (fun c_2 => ?_)
  · skip
    refine lv_iconst (v := nI 0) hx hb dX10_nextBatch_63 (by decide) ?_
    refine lv_istore (lv' := [(5, .int (nI 0)), (4, .int (nI k)), (3, .int (zon fo)), (0, .ref h0), (1, .int w), (2, .int le)]) hx hb dX10_nextBatch_64 hl (by decide) rfl (fun ls hl => ?_)
    refine lv_iload hx hb dX10_nextBatch_66 (lv_at hl 0 rfl) ?_
    refine xr_if0 (tgt := 90) hx hb (by decide) dX10_nextBatch_68 (by decide) ?_
    refine lv_iinc (v := nI (k + 1)) (lv' := [(4, .int (nI (k + 1))), (5, .int (nI 0)), (3, .int (zon fo)), (0, .ref h0), (1, .int w), (2, .int le)]) hx hb dX10_nextBatch_90 hl (k := 1) rfl (nI_inc1 k) (by decide) rfl (fun ls hl => ?_)
    refine lv_goto (tgt := 6) hx hb dX10_nextBatch_93 (by decide) ?_
    exact ih_6 (bz - (k + 1)) _ _ _ (show bz - (k + 1) < bz - k from by omega) ⟨(k + 1), fo, ls, rfl, rfl, rfl, rfl, lv_sub hl [0, 2, 3, 4, 5] rfl, (by omega), (fun b h => Nat.lt_succ_of_lt (hf b h)), (xnb_0 hfo (decide_eq_false (fun q => c_2 q.1)))⟩
  refine lv_aload_n hx hb dX10_nextBatch_27 rfl (lv_at hl 2 rfl) ?_
  refine lv_iload hx hb dX10_nextBatch_28 (lv_at hl 0 rfl) ?_
  refine lv_iconst (v := nI 0) hx hb dX10_nextBatch_30 (by decide) ?_
  refine xkRi (xV (As := [.int (nI k), .int (nI 0)]) (rest := []) (wc := [(h0, .inr (10, [.ref zq, h0_past, h0_kept, h0_spare, h0_pastMany, h0_isKept, h0_text, h0_typed, .ref uq, h0_planBatch, h0_planUnits, h0_planCents, h0_planMany, h0_planGot, h0_planSubstitutes, h0_at, h0_fault, h0_entries, h0_entry])), (zq, .inl (cI, 1002, .inl z))]) hx hb hml hown hts (c_X10_ofBatch l dC dI cI cF cC cZ cQ cS h0 zq h0_past h0_kept h0_spare h0_pastMany h0_isKept h0_text h0_typed (.ref uq) h0_planBatch h0_planUnits h0_planCents h0_planMany h0_planGot h0_planSubstitutes h0_at h0_fault h0_entries h0_entry z k 0 (by omega) (by omega)) 2 gX10_nextBatch_X10_ofBatch rfl rfl rfl hdV_X10_ofBatch ⟨Nat.le_of_ble_eq_true rfl, Nat.le_of_ble_eq_true rfl⟩ hN hK hP hD [0, 1] rfl rfl 10 0 rfl rfl rfl hl.1 rfl (Nat.le_of_ble_eq_true rfl) dX10_nextBatch_31 ⟨Nat.zero_le _, Nat.zero_le _⟩) (fun r_3 hr_3 => ?_)
  obtain rfl : r_3 = zB z k 0 := hr_3
  refine lv_iload_n hx hb dX10_nextBatch_34 rfl (lv_at hl 3 rfl) ?_
  refine lv_icmp_ne (tgt := 63) hx hb dX10_nextBatch_35 (by decide) (fun c_4 => ?_) (fun c_4 => ?_)
  · skip
    refine lv_iconst (v := nI 0) hx hb dX10_nextBatch_63 (by decide) ?_
    refine lv_istore (lv' := [(5, .int (nI 0)), (4, .int (nI k)), (3, .int (zon fo)), (0, .ref h0), (1, .int w), (2, .int le)]) hx hb dX10_nextBatch_64 hl (by decide) rfl (fun ls hl => ?_)
    refine lv_iload hx hb dX10_nextBatch_66 (lv_at hl 0 rfl) ?_
    refine xr_if0 (tgt := 90) hx hb (by decide) dX10_nextBatch_68 (by decide) ?_
    refine lv_iinc (v := nI (k + 1)) (lv' := [(4, .int (nI (k + 1))), (5, .int (nI 0)), (3, .int (zon fo)), (0, .ref h0), (1, .int w), (2, .int le)]) hx hb dX10_nextBatch_90 hl (k := 1) rfl (nI_inc1 k) (by decide) rfl (fun ls hl => ?_)
    refine lv_goto (tgt := 6) hx hb dX10_nextBatch_93 (by decide) ?_
    exact ih_6 (bz - (k + 1)) _ _ _ (show bz - (k + 1) < bz - k from by omega) ⟨(k + 1), fo, ls, rfl, rfl, rfl, rfl, lv_sub hl [0, 2, 3, 4, 5] rfl, (by omega), (fun b h => Nat.lt_succ_of_lt (hf b h)), (xnb_0 hfo (decide_eq_false (fun q => c_4 q.2.1)))⟩
  refine lv_aload_n hx hb dX10_nextBatch_38 rfl (lv_at hl 2 rfl) ?_
  refine lv_iload hx hb dX10_nextBatch_39 (lv_at hl 0 rfl) ?_
  refine lv_iconst (v := nI 3) hx hb dX10_nextBatch_41 (by decide) ?_
  refine xkRi (xV (As := [.int (nI k), .int (nI 3)]) (rest := []) (wc := [(h0, .inr (10, [.ref zq, h0_past, h0_kept, h0_spare, h0_pastMany, h0_isKept, h0_text, h0_typed, .ref uq, h0_planBatch, h0_planUnits, h0_planCents, h0_planMany, h0_planGot, h0_planSubstitutes, h0_at, h0_fault, h0_entries, h0_entry])), (zq, .inl (cI, 1002, .inl z))]) hx hb hml hown hts (c_X10_ofBatch l dC dI cI cF cC cZ cQ cS h0 zq h0_past h0_kept h0_spare h0_pastMany h0_isKept h0_text h0_typed (.ref uq) h0_planBatch h0_planUnits h0_planCents h0_planMany h0_planGot h0_planSubstitutes h0_at h0_fault h0_entries h0_entry z k 3 (by omega) (by omega)) 2 gX10_nextBatch_X10_ofBatch rfl rfl rfl hdV_X10_ofBatch ⟨Nat.le_of_ble_eq_true rfl, Nat.le_of_ble_eq_true rfl⟩ hN hK hP hD [0, 1] rfl rfl 10 0 rfl rfl rfl hl.1 rfl (Nat.le_of_ble_eq_true rfl) dX10_nextBatch_42 ⟨Nat.zero_le _, Nat.zero_le _⟩) (fun r_5 hr_5 => ?_)
  obtain rfl : r_5 = zB z k 3 := hr_5
  refine lv_if_le (tgt := 63) hx hb dX10_nextBatch_45 (by decide) (fun c_6 => ?_) (fun c_6 => ?_)
  · skip
    refine lv_iconst (v := nI 0) hx hb dX10_nextBatch_63 (by decide) ?_
    refine lv_istore (lv' := [(5, .int (nI 0)), (4, .int (nI k)), (3, .int (zon fo)), (0, .ref h0), (1, .int w), (2, .int le)]) hx hb dX10_nextBatch_64 hl (by decide) rfl (fun ls hl => ?_)
    refine lv_iload hx hb dX10_nextBatch_66 (lv_at hl 0 rfl) ?_
    refine xr_if0 (tgt := 90) hx hb (by decide) dX10_nextBatch_68 (by decide) ?_
    refine lv_iinc (v := nI (k + 1)) (lv' := [(4, .int (nI (k + 1))), (5, .int (nI 0)), (3, .int (zon fo)), (0, .ref h0), (1, .int w), (2, .int le)]) hx hb dX10_nextBatch_90 hl (k := 1) rfl (nI_inc1 k) (by decide) rfl (fun ls hl => ?_)
    refine lv_goto (tgt := 6) hx hb dX10_nextBatch_93 (by decide) ?_
    exact ih_6 (bz - (k + 1)) _ _ _ (show bz - (k + 1) < bz - k from by omega) ⟨(k + 1), fo, ls, rfl, rfl, rfl, rfl, lv_sub hl [0, 2, 3, 4, 5] rfl, (by omega), (fun b h => Nat.lt_succ_of_lt (hf b h)), (xnb_0 hfo (decide_eq_false (fun q => q.2.2.1 c_6)))⟩
  refine lv_aload_n hx hb dX10_nextBatch_48 rfl (lv_at hl 2 rfl) ?_
  refine lv_iload hx hb dX10_nextBatch_49 (lv_at hl 0 rfl) ?_
  refine lv_iconst (v := nI 2) hx hb dX10_nextBatch_51 (by decide) ?_
  refine xkRi (xV (As := [.int (nI k), .int (nI 2)]) (rest := []) (wc := [(h0, .inr (10, [.ref zq, h0_past, h0_kept, h0_spare, h0_pastMany, h0_isKept, h0_text, h0_typed, .ref uq, h0_planBatch, h0_planUnits, h0_planCents, h0_planMany, h0_planGot, h0_planSubstitutes, h0_at, h0_fault, h0_entries, h0_entry])), (zq, .inl (cI, 1002, .inl z))]) hx hb hml hown hts (c_X10_ofBatch l dC dI cI cF cC cZ cQ cS h0 zq h0_past h0_kept h0_spare h0_pastMany h0_isKept h0_text h0_typed (.ref uq) h0_planBatch h0_planUnits h0_planCents h0_planMany h0_planGot h0_planSubstitutes h0_at h0_fault h0_entries h0_entry z k 2 (by omega) (by omega)) 2 gX10_nextBatch_X10_ofBatch rfl rfl rfl hdV_X10_ofBatch ⟨Nat.le_of_ble_eq_true rfl, Nat.le_of_ble_eq_true rfl⟩ hN hK hP hD [0, 1] rfl rfl 10 0 rfl rfl rfl hl.1 rfl (Nat.le_of_ble_eq_true rfl) dX10_nextBatch_52 ⟨Nat.zero_le _, Nat.zero_le _⟩) (fun r_7 hr_7 => ?_)
  obtain rfl : r_7 = zB z k 2 := hr_7
  refine lv_iload_n hx hb dX10_nextBatch_55 rfl (lv_at hl 4 rfl) ?_
  refine lv_icmp_lt (tgt := 63) hx hb dX10_nextBatch_56 (by decide) (fun c_8 => ?_) (fun c_8 => ?_)
  · skip
    refine lv_iconst (v := nI 0) hx hb dX10_nextBatch_63 (by decide) ?_
    refine lv_istore (lv' := [(5, .int (nI 0)), (4, .int (nI k)), (3, .int (zon fo)), (0, .ref h0), (1, .int w), (2, .int le)]) hx hb dX10_nextBatch_64 hl (by decide) rfl (fun ls hl => ?_)
    refine lv_iload hx hb dX10_nextBatch_66 (lv_at hl 0 rfl) ?_
    refine xr_if0 (tgt := 90) hx hb (by decide) dX10_nextBatch_68 (by decide) ?_
    refine lv_iinc (v := nI (k + 1)) (lv' := [(4, .int (nI (k + 1))), (5, .int (nI 0)), (3, .int (zon fo)), (0, .ref h0), (1, .int w), (2, .int le)]) hx hb dX10_nextBatch_90 hl (k := 1) rfl (nI_inc1 k) (by decide) rfl (fun ls hl => ?_)
    refine lv_goto (tgt := 6) hx hb dX10_nextBatch_93 (by decide) ?_
    exact ih_6 (bz - (k + 1)) _ _ _ (show bz - (k + 1) < bz - k from by omega) ⟨(k + 1), fo, ls, rfl, rfl, rfl, rfl, lv_sub hl [0, 2, 3, 4, 5] rfl, (by omega), (fun b h => Nat.lt_succ_of_lt (hf b h)), (xnb_0 hfo (decide_eq_false (fun q => q.2.2.2 c_8)))⟩
  refine lv_iconst (v := nI 1) hx hb dX10_nextBatch_59 (by decide) ?_
  refine lv_goto (tgt := 64) hx hb dX10_nextBatch_60 (by decide) ?_
  refine lv_istore (lv' := [(5, .int (nI 1)), (4, .int (nI k)), (3, .int (zon fo)), (0, .ref h0), (1, .int w), (2, .int le)]) hx hb dX10_nextBatch_64 hl (by decide) rfl (fun ls hl => ?_)
  refine lv_iload hx hb dX10_nextBatch_66 (lv_at hl 0 rfl) ?_
  refine xr_if1 (tgt := 90) hx hb (by decide) dX10_nextBatch_68 (by decide) ?_
  rcases fo with _ | fb
  · skip
    have hl : lv_has ls 6 [(5, .int (nI 1)), (4, .int (nI k)), (3, .int (-5)), (0, .ref h0), (1, .int w), (2, .int le)] := hl
    refine lv_iload_n hx hb dX10_nextBatch_71 rfl (lv_at hl 2 rfl) ?_
    refine lv_bipush (v := (-5)) hx hb dX10_nextBatch_72 (by decide) ?_
    refine lv_icmp_eq (tgt := 87) hx hb dX10_nextBatch_74 (by decide) (fun c_9 => ?_) (fun c_9 => False.elim (by exact c_9 rfl))
    refine lv_iload hx hb dX10_nextBatch_87 (lv_at hl 1 rfl) ?_
    refine lv_istore_n (lv' := [(3, .int (nI k)), (5, .int (nI 1)), (4, .int (nI k)), (0, .ref h0), (1, .int w), (2, .int le)]) hx hb dX10_nextBatch_89 rfl hl (by decide) rfl (fun ls hl => ?_)
    refine lv_iinc (v := nI (k + 1)) (lv' := [(4, .int (nI (k + 1))), (3, .int (nI k)), (5, .int (nI 1)), (0, .ref h0), (1, .int w), (2, .int le)]) hx hb dX10_nextBatch_90 hl (k := 2) rfl (nI_inc1 k) (by decide) rfl (fun ls hl => ?_)
    refine lv_goto (tgt := 6) hx hb dX10_nextBatch_93 (by decide) ?_
    exact ih_6 (bz - (k + 1)) _ _ _ (show bz - (k + 1) < bz - k from by omega) ⟨(k + 1), (some k), ls, rfl, rfl, rfl, rfl, lv_sub hl [0, 1, 3, 4, 5] rfl, (by omega), (fun b h => by cases h; omega), (xnb_1 hfo (decide_eq_true ⟨c_2, c_4, c_6, c_8⟩))⟩
  have hl : lv_has ls 6 [(5, .int (nI 1)), (4, .int (nI k)), (3, .int (nI fb)), (0, .ref h0), (1, .int w), (2, .int le)] := hl
  have hfb := hf fb rfl
  refine lv_iload_n hx hb dX10_nextBatch_71 rfl (lv_at hl 2 rfl) ?_
  refine lv_bipush (v := (-5)) hx hb dX10_nextBatch_72 (by decide) ?_
  refine lv_icmp_eq (tgt := 87) hx hb dX10_nextBatch_74 (by decide) (fun c_10 => False.elim (by exact nI_ne5 (by omega) c_10)) (fun c_10 => ?_)
  refine lv_aload_n hx hb dX10_nextBatch_77 rfl (lv_at hl 3 rfl) ?_
  refine lv_iload hx hb dX10_nextBatch_78 (lv_at hl 1 rfl) ?_
  refine lv_iload_n hx hb dX10_nextBatch_80 rfl (lv_at hl 2 rfl) ?_
  refine xkRi (xV (As := [.int (nI k), .int (nI fb)]) (rest := []) (wc := [(h0, .inr (10, [.ref zq, h0_past, h0_kept, h0_spare, h0_pastMany, h0_isKept, h0_text, h0_typed, .ref uq, h0_planBatch, h0_planUnits, h0_planCents, h0_planMany, h0_planGot, h0_planSubstitutes, h0_at, h0_fault, h0_entries, h0_entry])), (zq, .inl (cI, 1002, .inl z))]) hx hb hml hown hts (c_X10_isSooner l dC dI cI cF cC cZ cQ cS h0 zq h0_past h0_kept h0_spare h0_pastMany h0_isKept h0_text h0_typed (.ref uq) h0_planBatch h0_planUnits h0_planCents h0_planMany h0_planGot h0_planSubstitutes h0_at h0_fault h0_entries h0_entry z k fb (by omega) (by omega) (hgi k (by omega)) (hgi fb (by omega)) hmk) 2 gX10_nextBatch_X10_isSooner rfl rfl rfl hdV_X10_isSooner ⟨Nat.le_of_ble_eq_true rfl, Nat.le_of_ble_eq_true rfl⟩ hN hK hP hD [0, 1] rfl rfl 10 0 rfl rfl rfl hl.1 rfl (Nat.le_of_ble_eq_true rfl) dX10_nextBatch_81 ⟨Nat.zero_le _, Nat.zero_le _⟩) (fun r_11 hr_11 => ?_)
  have hr_11 : r_11 = (if zsooner z k fb then nI 1 else nI 0) := hr_11
  rcases xi_ite inferInstance hr_11 with ⟨c_12, hr_11⟩ | ⟨c_12, hr_11⟩
  · subst hr_11
    refine xr_if1 (tgt := 90) hx hb (by decide) dX10_nextBatch_84 (by decide) ?_
    refine lv_iload hx hb dX10_nextBatch_87 (lv_at hl 1 rfl) ?_
    refine lv_istore_n (lv' := [(3, .int (nI k)), (5, .int (nI 1)), (4, .int (nI k)), (0, .ref h0), (1, .int w), (2, .int le)]) hx hb dX10_nextBatch_89 rfl hl (by decide) rfl (fun ls hl => ?_)
    refine lv_iinc (v := nI (k + 1)) (lv' := [(4, .int (nI (k + 1))), (3, .int (nI k)), (5, .int (nI 1)), (0, .ref h0), (1, .int w), (2, .int le)]) hx hb dX10_nextBatch_90 hl (k := 2) rfl (nI_inc1 k) (by decide) rfl (fun ls hl => ?_)
    refine lv_goto (tgt := 6) hx hb dX10_nextBatch_93 (by decide) ?_
    exact ih_6 (bz - (k + 1)) _ _ _ (show bz - (k + 1) < bz - k from by omega) ⟨(k + 1), (some k), ls, rfl, rfl, rfl, rfl, lv_sub hl [0, 1, 3, 4, 5] rfl, (by omega), (fun b h => by cases h; omega), (xnb_2 hfo (decide_eq_true ⟨c_2, c_4, c_6, c_8⟩) (decide_eq_true c_12))⟩
  subst hr_11
  refine xr_if0 (tgt := 90) hx hb (by decide) dX10_nextBatch_84 (by decide) ?_
  refine lv_iinc (v := nI (k + 1)) (lv' := [(4, .int (nI (k + 1))), (5, .int (nI 1)), (3, .int (nI fb)), (0, .ref h0), (1, .int w), (2, .int le)]) hx hb dX10_nextBatch_90 hl (k := 1) rfl (nI_inc1 k) (by decide) rfl (fun ls hl => ?_)
  refine lv_goto (tgt := 6) hx hb dX10_nextBatch_93 (by decide) ?_
  exact ih_6 (bz - (k + 1)) _ _ _ (show bz - (k + 1) < bz - k from by omega) ⟨(k + 1), (some fb), ls, rfl, rfl, rfl, rfl, lv_sub hl [0, 2, 3, 4, 5] rfl, (by omega), (fun b h => by cases h; omega), (xnb_3 hfo (decide_eq_true ⟨c_2, c_4, c_6, c_8⟩) (decide_eq_false c_12))⟩
theorem hdV_X10_takeFrom : yX10_takeFrom.cls = RX10 ∧ yX10_takeFrom.cls ≠ "java/lang/invoke/MethodHandle" ∧ yX10_takeFrom.cls ≠ "java/lang/invoke/VarHandle" ∧ (parseMethodDescriptor yX10_takeFrom.desc).map (fun d => d.parameters.length) = some 4 := by decide +kernel
set_option maxHeartbeats 4000000 in
set_option maxRecDepth 100000 in
theorem c_X10_takeFrom (l : Launch) (dC : Nat → ClassId) (dI : Nat → Nat → Nat) (cI cF cC cZ cQ cS : ClassId) (h0 : Nat) (zq : Nat) (h0_past : Value) (h0_kept : Value) (h0_spare : Value) (h0_pastMany : Value) (h0_isKept : Value) (h0_text : Value) (h0_typed : Value) (uq : Nat) (p1 : Nat) (p2 : Nat) (p3 : Nat) (h0_at : Value) (h0_fault : Value) (h0_entries : Value) (h0_entry : Value) (z : Nat → Int32) (us : Nat → Int32) (pb : Nat → Int32) (pu : Nat → Int32) (pc : Nat → Int32) (pm : Nat) (got : Int32) (sub : Int32) (w : Int32) (gk : Nat) (un : Int32) (le : Int32) (bz : Nat) (hz2 : z 2 = nI bz) (hbz : bz ≤ 40) (hgi : zidx z bz) (hmk : ∀ j, j < 4 → (z (958 + j)).toNatClampNeg ≤ 1120403456 ∧ z (958 + j) = nI (z (958 + j)).toNatClampNeg) (hgk : gk < 12) (hcu0 : zcu us bz = pm) : Met l yX10_takeFrom wsX10_takeFrom ({ frames := 5, cells := 0, slots := 0, locals := 118 }) (xPre (dC, dI) vwCl [.ref h0, .int w, .int (nI gk), .int un, .int le] (xtys cI cF cC cZ cQ cS) [(h0, .inr (10, [.ref zq, h0_past, h0_kept, h0_spare, h0_pastMany, h0_isKept, h0_text, h0_typed, .ref uq, .ref p1, .ref p2, .ref p3, .int (nI pm), .int got, .int sub, h0_at, h0_fault, h0_entries, h0_entry])), (zq, .inl (cI, 1002, .inl z)), (uq, .inl (cZ, 40, .inl us)), (p1, .inl (cI, 40, .inl pb)), (p2, .inl (cI, 40, .inl pu)), (p3, .inl (cI, 40, .inl pc))]) (xWv (dC, dI) vwCl [(h0, .inr (10, [.ref zq, h0_past, h0_kept, h0_spare, h0_pastMany, h0_isKept, h0_text, h0_typed, .ref uq, .ref p1, .ref p2, .ref p3, .int (nI pm), .int got, .int sub, h0_at, h0_fault, h0_entries, h0_entry])), (zq, .inl (cI, 1002, .inl z)), (uq, .inl (cZ, 40, .inl us)), (p1, .inl (cI, 40, .inl pb)), (p2, .inl (cI, 40, .inl pu)), (p3, .inl (cI, 40, .inl pc))] (fun w0 => w0 = [(h0, .inr (10, [.ref zq, h0_past, h0_kept, h0_spare, h0_pastMany, h0_isKept, h0_text, h0_typed, .ref uq, .ref p1, .ref p2, .ref p3, .int (nI ((ztk z le un w gk bz (41 - pm) (pm, got, sub, us, pb, pu, pc)).1)), .int ((ztk z le un w gk bz (41 - pm) (pm, got, sub, us, pb, pu, pc)).2.1), .int ((ztk z le un w gk bz (41 - pm) (pm, got, sub, us, pb, pu, pc)).2.2.1), h0_at, h0_fault, h0_entries, h0_entry])), (zq, .inl (cI, 1002, .inl z)), (uq, .inl (cZ, 40, .inl ((ztk z le un w gk bz (41 - pm) (pm, got, sub, us, pb, pu, pc)).2.2.2.1))), (p1, .inl (cI, 40, .inl ((ztk z le un w gk bz (41 - pm) (pm, got, sub, us, pb, pu, pc)).2.2.2.2.1))), (p2, .inl (cI, 40, .inl ((ztk z le un w gk bz (41 - pm) (pm, got, sub, us, pb, pu, pc)).2.2.2.2.2.1))), (p3, .inl (cI, 40, .inl ((ztk z le un w gk bz (41 - pm) (pm, got, sub, us, pb, pu, pc)).2.2.2.2.2.2)))])) 0 0 (va_B [(h0, .inr (10, [.ref zq, h0_past, h0_kept, h0_spare, h0_pastMany, h0_isKept, h0_text, h0_typed, .ref uq, .ref p1, .ref p2, .ref p3, .int (nI pm), .int got, .int sub, h0_at, h0_fault, h0_entries, h0_entry])), (zq, .inl (cI, 1002, .inl z)), (uq, .inl (cZ, 40, .inl us)), (p1, .inl (cI, 40, .inl pb)), (p2, .inl (cI, 40, .inl pu)), (p3, .inl (cI, 40, .inl pc))]) := by
  refine Met.ofW (cc := cX10_takeFrom) (maxL := 8) (ret := none) (by decide) rfl ?_
  intro p e s m args below meth c s₁ B hml hv
  obtain ⟨rfl, hP, hK, hD0, hN⟩ := hv
  have hx := B.exec
  have hb := B.bytes
  have hr := B.returns
  have hts := atoms_spec (ws := wsX10_takeFrom) B.pre
  have hown : s.vm.findClass RX10 = some m.cls := findClass_of_methodNamed B.named
  have hlocks := B.notSynchronized
  have k_100 := hts (Cond.fieldLink RX10 100 "ShelfStagesModel" "planMany" "I") (by decide +kernel)
  have k_107 := hts (Cond.fieldLink RX10 107 "ShelfStagesModel" "planSubstitutes" "I") (by decide +kernel)
  have k_26 := hts (Cond.fieldLink RX10 26 "ShelfStagesModel" "isUsed" "[Z") (by decide +kernel)
  have k_30 := hts (Cond.fieldLink RX10 30 "ShelfStagesModel" "planBatch" "[I") (by decide +kernel)
  have k_33 := hts (Cond.fieldLink RX10 33 "ShelfStagesModel" "planUnits" "[I") (by decide +kernel)
  have k_36 := hts (Cond.fieldLink RX10 36 "ShelfStagesModel" "planCents" "[I") (by decide +kernel)
  have k_97 := hts (Cond.fieldLink RX10 97 "ShelfStagesModel" "planGot" "I") (by decide +kernel)
  have i_X10 : ∀ w ∈ wsX100, w ∈ wsX10_takeFrom := by decide +kernel
  obtain ⟨A, hA⟩ : ∃ A, A = va_B [(h0, .inr (10, [.ref zq, h0_past, h0_kept, h0_spare, h0_pastMany, h0_isKept, h0_text, h0_typed, .ref uq, .ref p1, .ref p2, .ref p3, .int (nI pm), .int got, .int sub, h0_at, h0_fault, h0_entries, h0_entry])), (zq, .inl (cI, 1002, .inl z)), (uq, .inl (cZ, 40, .inl us)), (p1, .inl (cI, 40, .inl pb)), (p2, .inl (cI, 40, .inl pu)), (p3, .inl (cI, 40, .inl pc))] := ⟨_, rfl⟩
  have hD : va_D A [(h0, .inr (10, [.ref zq, h0_past, h0_kept, h0_spare, h0_pastMany, h0_isKept, h0_text, h0_typed, .ref uq, .ref p1, .ref p2, .ref p3, .int (nI pm), .int got, .int sub, h0_at, h0_fault, h0_entries, h0_entry])), (zq, .inl (cI, 1002, .inl z)), (uq, .inl (cZ, 40, .inl us)), (p1, .inl (cI, 40, .inl pb)), (p2, .inl (cI, 40, .inl pu)), (p3, .inl (cI, 40, .inl pc))] := hA ▸ hD0.own
  have hS : va_S A s.heap s.heap [] := va_S.rf
  have hl := lv_entry ([.ref h0, .int w, .int (nI gk), .int un, .int le]) (n := 8) (Nat.le_of_ble_eq_true rfl)
  rw [lg_entry_eq]
  generalize (lg_sl ([.ref h0, .int w, .int (nI gk), .int un, .int le]) ++ List.replicate (8 - (lg_sl ([.ref h0, .int w, .int (nI gk), .int un, .int le])).length) Slot.unset).toArray = ls at hl ⊢
  have hl : lv_has ls 8 [(0, .ref h0), (1, .int w), (2, .int (nI gk)), (3, .int un), (4, .int le)] := hl
  refine lv_aload_n hx hb dX10_takeFrom_0 rfl (lv_at hl 0 rfl) ?_
  refine lv_iload_n hx hb dX10_takeFrom_1 rfl (lv_at hl 1 rfl) ?_
  refine lv_iload hx hb dX10_takeFrom_2 (lv_at hl 4 rfl) ?_
  refine xkRi (xV (As := [.int w, .int le]) (rest := []) (wc := [(h0, .inr (10, [.ref zq, h0_past, h0_kept, h0_spare, h0_pastMany, h0_isKept, h0_text, h0_typed, .ref uq, .ref p1, .ref p2, .ref p3, .int (nI pm), .int got, .int sub, h0_at, h0_fault, h0_entries, h0_entry])), (zq, .inl (cI, 1002, .inl z)), (uq, .inl (cZ, 40, .inl us))]) hx hb hml hown hts (c_X10_nextBatch l dC dI cI cF cC cZ cQ cS h0 zq h0_past h0_kept h0_spare h0_pastMany h0_isKept h0_text h0_typed uq (.ref p1) (.ref p2) (.ref p3) (.int (nI pm)) (.int got) (.int sub) h0_at h0_fault h0_entries h0_entry z us w le bz hz2 (by omega) hgi hmk) 2 gX10_takeFrom_X10_nextBatch rfl rfl rfl hdV_X10_nextBatch ⟨Nat.le_of_ble_eq_true rfl, Nat.le_of_ble_eq_true rfl⟩ hN hK hP hD [0, 1, 2] rfl rfl 10 0 rfl rfl rfl hl.1 rfl (Nat.le_of_ble_eq_true rfl) dX10_takeFrom_4 ⟨Nat.zero_le _, Nat.zero_le _⟩) (fun r_1 hr_1 => ?_)
  obtain rfl : r_1 = zon (znb z le w bz us) := hr_1
  refine lv_istore (lv' := [(5, .int (zon (znb z le w bz us))), (0, .ref h0), (1, .int w), (2, .int (nI gk)), (3, .int un), (4, .int le)]) hx hb dX10_takeFrom_7 hl (by decide) rfl (fun ls hl => ?_)
  have h00 := zcu_le us bz
  refine xr_loop (J := Nat) (fun n0 H locs g => ∃ (q : ZF) (ls : Array Slot), n0 = 41 - q.1 ∧ g = F0 m 9 ls [] ∧ lv_has ls 8 [(5, .int (zon (znb z le w bz q.2.2.2.1))), (0, .ref h0), (1, .int w), (2, .int (nI gk)), (3, .int un), (4, .int le)] ∧ va_P (dC, dI) vwCl [(h0, .inr (10, [.ref zq, h0_past, h0_kept, h0_spare, h0_pastMany, h0_isKept, h0_text, h0_typed, .ref uq, .ref p1, .ref p2, .ref p3, .int (nI q.1), .int q.2.1, .int q.2.2.1, h0_at, h0_fault, h0_entries, h0_entry])), (zq, .inl (cI, 1002, .inl z)), (uq, .inl (cZ, 40, .inl q.2.2.2.1)), (p1, .inl (cI, 40, .inl q.2.2.2.2.1)), (p2, .inl (cI, 40, .inl q.2.2.2.2.2.1)), (p3, .inl (cI, 40, .inl q.2.2.2.2.2.2))] H ∧ va_D A [(h0, .inr (10, [.ref zq, h0_past, h0_kept, h0_spare, h0_pastMany, h0_isKept, h0_text, h0_typed, .ref uq, .ref p1, .ref p2, .ref p3, .int (nI q.1), .int q.2.1, .int q.2.2.1, h0_at, h0_fault, h0_entries, h0_entry])), (zq, .inl (cI, 1002, .inl z)), (uq, .inl (cZ, 40, .inl q.2.2.2.1)), (p1, .inl (cI, 40, .inl q.2.2.2.2.1)), (p2, .inl (cI, 40, .inl q.2.2.2.2.2.1)), (p3, .inl (cI, 40, .inl q.2.2.2.2.2.2))] ∧ va_S A s.heap H locs ∧ (zcu q.2.2.2.1 bz = q.1) ∧ (q.1 ≤ 40) ∧ (ztk z le un w gk bz (41 - q.1) q = (ztk z le un w gk bz (41 - pm) (pm, got, sub, us, pb, pu, pc)))) (fun n => n) ?_ (41 - (pm, got, sub, us, pb, pu, pc).1) (g := F0 m 9 ls []) ⟨(pm, got, sub, us, pb, pu, pc), ls, rfl, rfl, lv_sub hl [0, 1, 2, 3, 4, 5] rfl, hP, hD, hS, hcu0, (show pm ≤ 40 by omega), rfl⟩
  intro n0 ih_9 H locs g hp
  obtain ⟨q, ls, rfl, rfl, hl, hP, hD, hS, hcu, h40, hq⟩ := hp
  rcases hnb : znb z le w bz q.2.2.2.1 with _ | nb
  · skip
    have hl : lv_has ls 8 [(5, .int (-5)), (0, .ref h0), (1, .int w), (2, .int (nI gk)), (3, .int un), (4, .int le)] := by rw [hnb] at hl; exact hl
    refine lv_iload hx hb dX10_takeFrom_9 (lv_at hl 0 rfl) ?_
    refine lv_bipush (v := (-5)) hx hb dX10_takeFrom_11 (by decide) ?_
    refine lv_icmp_eq (tgt := 158) hx hb dX10_takeFrom_13 (by decide) (fun c_2 => ?_) (fun c_2 => False.elim (by exact c_2 rfl))
    have hE : q = (ztk z le un w gk bz (41 - pm) (pm, got, sub, us, pb, pu, pc)) := ztk_none hnb h40 hq
    subst hE
    have hP9 : va_P (dC, dI) vwCl [(h0, .inr (10, [.ref zq, h0_past, h0_kept, h0_spare, h0_pastMany, h0_isKept, h0_text, h0_typed, .ref uq, .ref p1, .ref p2, .ref p3, .int (nI ((ztk z le un w gk bz (41 - pm) (pm, got, sub, us, pb, pu, pc)).1)), .int ((ztk z le un w gk bz (41 - pm) (pm, got, sub, us, pb, pu, pc)).2.1), .int ((ztk z le un w gk bz (41 - pm) (pm, got, sub, us, pb, pu, pc)).2.2.1), h0_at, h0_fault, h0_entries, h0_entry])), (zq, .inl (cI, 1002, .inl z)), (uq, .inl (cZ, 40, .inl ((ztk z le un w gk bz (41 - pm) (pm, got, sub, us, pb, pu, pc)).2.2.2.1))), (p1, .inl (cI, 40, .inl ((ztk z le un w gk bz (41 - pm) (pm, got, sub, us, pb, pu, pc)).2.2.2.2.1))), (p2, .inl (cI, 40, .inl ((ztk z le un w gk bz (41 - pm) (pm, got, sub, us, pb, pu, pc)).2.2.2.2.2.1))), (p3, .inl (cI, 40, .inl ((ztk z le un w gk bz (41 - pm) (pm, got, sub, us, pb, pu, pc)).2.2.2.2.2.2)))] H := hP
    have hS9 : va_S (va_B [(h0, .inr (10, [.ref zq, h0_past, h0_kept, h0_spare, h0_pastMany, h0_isKept, h0_text, h0_typed, .ref uq, .ref p1, .ref p2, .ref p3, .int (nI pm), .int got, .int sub, h0_at, h0_fault, h0_entries, h0_entry])), (zq, .inl (cI, 1002, .inl z)), (uq, .inl (cZ, 40, .inl us)), (p1, .inl (cI, 40, .inl pb)), (p2, .inl (cI, 40, .inl pu)), (p3, .inl (cI, 40, .inl pc))]) s.heap H locs := by rw [← hA]; exact hS
    exact W.vret hx hb hr (fun t ht hW => ⟨⟨_, rfl, rfl, by rw [ht]; exact hP9⟩, hS9.X ht⟩) hS9.2.2 dX10_takeFrom_158
  have hl : lv_has ls 8 [(5, .int (nI nb)), (0, .ref h0), (1, .int w), (2, .int (nI gk)), (3, .int un), (4, .int le)] := by rw [hnb] at hl; exact hl
  have hnbn := xnb_lt hnb
  have hnbo := of_decide_eq_true (xnb_p hnb)
  have hq40 := zcu_lt hnbo.1 hnbn
  rw [hcu] at hq40
  refine lv_iload hx hb dX10_takeFrom_9 (lv_at hl 0 rfl) ?_
  refine lv_bipush (v := (-5)) hx hb dX10_takeFrom_11 (by decide) ?_
  refine lv_icmp_eq (tgt := 158) hx hb dX10_takeFrom_13 (by decide) (fun c_3 => False.elim (by exact nI_ne5 (by omega) c_3)) (fun c_3 => ?_)
  refine lv_aload_n hx hb dX10_takeFrom_16 rfl (lv_at hl 1 rfl) ?_
  refine va_get (D := (dC, dI)) (ci := 10) (v := .int q.2.1) (C := RX10) (T := TX10) (N := 19) hx hb hts i_X10 hown hK hP 0 rfl rfl 13 (by decide) k_97 (fun _ h9 => h9) rfl dX10_takeFrom_17 ?_
  refine lv_iload_n hx hb dX10_takeFrom_20 rfl (lv_at hl 4 rfl) ?_
  refine lv_icmp_ge (tgt := 158) hx hb dX10_takeFrom_21 (by decide) (fun c_4 => ?_) (fun c_4 => ?_)
  · skip
    have hE : q = (ztk z le un w gk bz (41 - pm) (pm, got, sub, us, pb, pu, pc)) := ztk_done hnb c_4 h40 hq
    subst hE
    have hP9 : va_P (dC, dI) vwCl [(h0, .inr (10, [.ref zq, h0_past, h0_kept, h0_spare, h0_pastMany, h0_isKept, h0_text, h0_typed, .ref uq, .ref p1, .ref p2, .ref p3, .int (nI ((ztk z le un w gk bz (41 - pm) (pm, got, sub, us, pb, pu, pc)).1)), .int ((ztk z le un w gk bz (41 - pm) (pm, got, sub, us, pb, pu, pc)).2.1), .int ((ztk z le un w gk bz (41 - pm) (pm, got, sub, us, pb, pu, pc)).2.2.1), h0_at, h0_fault, h0_entries, h0_entry])), (zq, .inl (cI, 1002, .inl z)), (uq, .inl (cZ, 40, .inl ((ztk z le un w gk bz (41 - pm) (pm, got, sub, us, pb, pu, pc)).2.2.2.1))), (p1, .inl (cI, 40, .inl ((ztk z le un w gk bz (41 - pm) (pm, got, sub, us, pb, pu, pc)).2.2.2.2.1))), (p2, .inl (cI, 40, .inl ((ztk z le un w gk bz (41 - pm) (pm, got, sub, us, pb, pu, pc)).2.2.2.2.2.1))), (p3, .inl (cI, 40, .inl ((ztk z le un w gk bz (41 - pm) (pm, got, sub, us, pb, pu, pc)).2.2.2.2.2.2)))] H := hP
    have hS9 : va_S (va_B [(h0, .inr (10, [.ref zq, h0_past, h0_kept, h0_spare, h0_pastMany, h0_isKept, h0_text, h0_typed, .ref uq, .ref p1, .ref p2, .ref p3, .int (nI pm), .int got, .int sub, h0_at, h0_fault, h0_entries, h0_entry])), (zq, .inl (cI, 1002, .inl z)), (uq, .inl (cZ, 40, .inl us)), (p1, .inl (cI, 40, .inl pb)), (p2, .inl (cI, 40, .inl pu)), (p3, .inl (cI, 40, .inl pc))]) s.heap H locs := by rw [← hA]; exact hS
    exact W.vret hx hb hr (fun t ht hW => ⟨⟨_, rfl, rfl, by rw [ht]; exact hP9⟩, hS9.X ht⟩) hS9.2.2 dX10_takeFrom_158
  refine lv_aload_n hx hb dX10_takeFrom_24 rfl (lv_at hl 1 rfl) ?_
  refine lv_iload hx hb dX10_takeFrom_25 (lv_at hl 0 rfl) ?_
  refine lv_iconst (v := nI 3) hx hb dX10_takeFrom_27 (by decide) ?_
  refine xkRi (xV (As := [.int (nI nb), .int (nI 3)]) (rest := []) (wc := [(h0, .inr (10, [.ref zq, h0_past, h0_kept, h0_spare, h0_pastMany, h0_isKept, h0_text, h0_typed, .ref uq, .ref p1, .ref p2, .ref p3, .int (nI q.1), .int q.2.1, .int q.2.2.1, h0_at, h0_fault, h0_entries, h0_entry])), (zq, .inl (cI, 1002, .inl z))]) hx hb hml hown hts (c_X10_ofBatch l dC dI cI cF cC cZ cQ cS h0 zq h0_past h0_kept h0_spare h0_pastMany h0_isKept h0_text h0_typed (.ref uq) (.ref p1) (.ref p2) (.ref p3) (.int (nI q.1)) (.int q.2.1) (.int q.2.2.1) h0_at h0_fault h0_entries h0_entry z nb 3 (by omega) (by omega)) 2 gX10_takeFrom_X10_ofBatch rfl rfl rfl hdV_X10_ofBatch ⟨Nat.le_of_ble_eq_true rfl, Nat.le_of_ble_eq_true rfl⟩ hN hK hP hD [0, 1] rfl rfl 10 0 rfl rfl rfl hl.1 rfl (Nat.le_of_ble_eq_true rfl) dX10_takeFrom_28 ⟨Nat.zero_le _, Nat.zero_le _⟩) (fun r_5 hr_5 => ?_)
  obtain rfl : r_5 = zB z nb 3 := hr_5
  refine lv_istore (lv' := [(6, .int (zB z nb 3)), (5, .int (nI nb)), (0, .ref h0), (1, .int w), (2, .int (nI gk)), (3, .int un), (4, .int le)]) hx hb dX10_takeFrom_31 hl (by decide) rfl (fun ls hl => ?_)
  refine xr_cut (g2 := F0 m 55 ls [.int (ztake z un q nb)]) (fun kj_6 => ?_) ?_
  · skip
    refine lv_iload hx hb dX10_takeFrom_33 (lv_at hl 0 rfl) ?_
    refine lv_iload_n hx hb dX10_takeFrom_35 rfl (lv_at hl 5 rfl) ?_
    refine lv_aload_n hx hb dX10_takeFrom_36 rfl (lv_at hl 2 rfl) ?_
    refine va_get (D := (dC, dI)) (ci := 10) (v := .int q.2.1) (C := RX10) (T := TX10) (N := 19) hx hb hts i_X10 hown hK hP 0 rfl rfl 13 (by decide) k_97 (fun _ h9 => h9) rfl dX10_takeFrom_37 ?_
    refine lv_isub hx hb dX10_takeFrom_40 ?_
    refine lv_icmp_ge (tgt := 49) hx hb dX10_takeFrom_41 (by decide) (fun c_7 => ?_) (fun c_7 => ?_)
    · skip
      refine lv_iload_n hx hb dX10_takeFrom_49 rfl (lv_at hl 5 rfl) ?_
      refine lv_aload_n hx hb dX10_takeFrom_50 rfl (lv_at hl 2 rfl) ?_
      refine va_get (D := (dC, dI)) (ci := 10) (v := .int q.2.1) (C := RX10) (T := TX10) (N := 19) hx hb hts i_X10 hown hK hP 0 rfl rfl 13 (by decide) k_97 (fun _ h9 => h9) rfl dX10_takeFrom_51 ?_
      refine lv_isub hx hb dX10_takeFrom_54 ?_
      refine xr_top (show un - q.2.1 = ztake z un q nb from (if_neg (Int32.not_lt.mpr c_7)).symm) ?_
      exact kj_6
    refine lv_iload hx hb dX10_takeFrom_44 (lv_at hl 0 rfl) ?_
    refine lv_goto (tgt := 55) hx hb dX10_takeFrom_46 (by decide) ?_
    refine xr_top (show zB z nb 3 = ztake z un q nb from (if_pos (Int32.not_le.mp c_7)).symm) ?_
    exact kj_6
  obtain ⟨u9, hu9⟩ : ∃ x : Int32, x = ztake z un q nb := ⟨_, rfl⟩
  refine xr_top hu9.symm ?_
  refine lv_istore (lv' := [(7, .int u9), (6, .int (zB z nb 3)), (5, .int (nI nb)), (0, .ref h0), (1, .int w), (2, .int (nI gk)), (3, .int un), (4, .int le)]) hx hb dX10_takeFrom_55 hl (by decide) rfl (fun ls hl => ?_)
  refine lv_aload_n hx hb dX10_takeFrom_57 rfl (lv_at hl 3 rfl) ?_
  refine va_get (D := (dC, dI)) (ci := 10) (v := .ref uq) (C := RX10) (T := TX10) (N := 19) hx hb hts i_X10 hown hK hP 0 rfl rfl 8 (by decide) k_26 (fun _ h9 => h9) rfl dX10_takeFrom_58 ?_
  refine lv_iload hx hb dX10_takeFrom_61 (lv_at hl 2 rfl) ?_
  refine lv_iconst (v := nI 1) hx hb dX10_takeFrom_63 (by decide) ?_
  refine xr_zast hx hb hK hP hD hS 2 3 rfl rfl (i := nb) (by omega) (by decide) (y := nI 1) rfl dX10_takeFrom_64 (fun H locs hP hD hS => ?_)
  have hP : va_P (dC, dI) vwCl [(h0, .inr (10, [.ref zq, h0_past, h0_kept, h0_spare, h0_pastMany, h0_isKept, h0_text, h0_typed, .ref uq, .ref p1, .ref p2, .ref p3, .int (nI q.1), .int q.2.1, .int q.2.2.1, h0_at, h0_fault, h0_entries, h0_entry])), (zq, .inl (cI, 1002, .inl z)), (uq, .inl (cZ, 40, .inl (upd q.2.2.2.1 nb (nI 1)))), (p1, .inl (cI, 40, .inl q.2.2.2.2.1)), (p2, .inl (cI, 40, .inl q.2.2.2.2.2.1)), (p3, .inl (cI, 40, .inl q.2.2.2.2.2.2))] H := hP
  have hD : va_D A [(h0, .inr (10, [.ref zq, h0_past, h0_kept, h0_spare, h0_pastMany, h0_isKept, h0_text, h0_typed, .ref uq, .ref p1, .ref p2, .ref p3, .int (nI q.1), .int q.2.1, .int q.2.2.1, h0_at, h0_fault, h0_entries, h0_entry])), (zq, .inl (cI, 1002, .inl z)), (uq, .inl (cZ, 40, .inl (upd q.2.2.2.1 nb (nI 1)))), (p1, .inl (cI, 40, .inl q.2.2.2.2.1)), (p2, .inl (cI, 40, .inl q.2.2.2.2.2.1)), (p3, .inl (cI, 40, .inl q.2.2.2.2.2.2))] := hD
  refine lv_aload_n hx hb dX10_takeFrom_65 rfl (lv_at hl 3 rfl) ?_
  refine va_get (D := (dC, dI)) (ci := 10) (v := .ref p1) (C := RX10) (T := TX10) (N := 19) hx hb hts i_X10 hown hK hP 0 rfl rfl 9 (by decide) k_30 (fun _ h9 => h9) rfl dX10_takeFrom_66 ?_
  refine lv_aload_n hx hb dX10_takeFrom_69 rfl (lv_at hl 3 rfl) ?_
  refine va_get (D := (dC, dI)) (ci := 10) (v := .int (nI q.1)) (C := RX10) (T := TX10) (N := 19) hx hb hts i_X10 hown hK hP 0 rfl rfl 12 (by decide) k_100 (fun _ h9 => h9) rfl dX10_takeFrom_70 ?_
  refine lv_iload hx hb dX10_takeFrom_73 (lv_at hl 2 rfl) ?_
  refine xr_iast hx hb hK hP hD hS 3 0 rfl rfl (i := q.1) (by omega) (by decide) dX10_takeFrom_75 (fun H locs hP hD hS => ?_)
  have hP : va_P (dC, dI) vwCl [(h0, .inr (10, [.ref zq, h0_past, h0_kept, h0_spare, h0_pastMany, h0_isKept, h0_text, h0_typed, .ref uq, .ref p1, .ref p2, .ref p3, .int (nI q.1), .int q.2.1, .int q.2.2.1, h0_at, h0_fault, h0_entries, h0_entry])), (zq, .inl (cI, 1002, .inl z)), (uq, .inl (cZ, 40, .inl (upd q.2.2.2.1 nb (nI 1)))), (p1, .inl (cI, 40, .inl (upd q.2.2.2.2.1 q.1 (nI nb)))), (p2, .inl (cI, 40, .inl q.2.2.2.2.2.1)), (p3, .inl (cI, 40, .inl q.2.2.2.2.2.2))] H := hP
  have hD : va_D A [(h0, .inr (10, [.ref zq, h0_past, h0_kept, h0_spare, h0_pastMany, h0_isKept, h0_text, h0_typed, .ref uq, .ref p1, .ref p2, .ref p3, .int (nI q.1), .int q.2.1, .int q.2.2.1, h0_at, h0_fault, h0_entries, h0_entry])), (zq, .inl (cI, 1002, .inl z)), (uq, .inl (cZ, 40, .inl (upd q.2.2.2.1 nb (nI 1)))), (p1, .inl (cI, 40, .inl (upd q.2.2.2.2.1 q.1 (nI nb)))), (p2, .inl (cI, 40, .inl q.2.2.2.2.2.1)), (p3, .inl (cI, 40, .inl q.2.2.2.2.2.2))] := hD
  refine lv_aload_n hx hb dX10_takeFrom_76 rfl (lv_at hl 3 rfl) ?_
  refine va_get (D := (dC, dI)) (ci := 10) (v := .ref p2) (C := RX10) (T := TX10) (N := 19) hx hb hts i_X10 hown hK hP 0 rfl rfl 10 (by decide) k_33 (fun _ h9 => h9) rfl dX10_takeFrom_77 ?_
  refine lv_aload_n hx hb dX10_takeFrom_80 rfl (lv_at hl 3 rfl) ?_
  refine va_get (D := (dC, dI)) (ci := 10) (v := .int (nI q.1)) (C := RX10) (T := TX10) (N := 19) hx hb hts i_X10 hown hK hP 0 rfl rfl 12 (by decide) k_100 (fun _ h9 => h9) rfl dX10_takeFrom_81 ?_
  refine lv_iload hx hb dX10_takeFrom_84 (lv_at hl 0 rfl) ?_
  refine xr_iast hx hb hK hP hD hS 4 0 rfl rfl (i := q.1) (by omega) (by decide) dX10_takeFrom_86 (fun H locs hP hD hS => ?_)
  have hP : va_P (dC, dI) vwCl [(h0, .inr (10, [.ref zq, h0_past, h0_kept, h0_spare, h0_pastMany, h0_isKept, h0_text, h0_typed, .ref uq, .ref p1, .ref p2, .ref p3, .int (nI q.1), .int q.2.1, .int q.2.2.1, h0_at, h0_fault, h0_entries, h0_entry])), (zq, .inl (cI, 1002, .inl z)), (uq, .inl (cZ, 40, .inl (upd q.2.2.2.1 nb (nI 1)))), (p1, .inl (cI, 40, .inl (upd q.2.2.2.2.1 q.1 (nI nb)))), (p2, .inl (cI, 40, .inl (upd q.2.2.2.2.2.1 q.1 u9))), (p3, .inl (cI, 40, .inl q.2.2.2.2.2.2))] H := hP
  have hD : va_D A [(h0, .inr (10, [.ref zq, h0_past, h0_kept, h0_spare, h0_pastMany, h0_isKept, h0_text, h0_typed, .ref uq, .ref p1, .ref p2, .ref p3, .int (nI q.1), .int q.2.1, .int q.2.2.1, h0_at, h0_fault, h0_entries, h0_entry])), (zq, .inl (cI, 1002, .inl z)), (uq, .inl (cZ, 40, .inl (upd q.2.2.2.1 nb (nI 1)))), (p1, .inl (cI, 40, .inl (upd q.2.2.2.2.1 q.1 (nI nb)))), (p2, .inl (cI, 40, .inl (upd q.2.2.2.2.2.1 q.1 u9))), (p3, .inl (cI, 40, .inl q.2.2.2.2.2.2))] := hD
  refine lv_aload_n hx hb dX10_takeFrom_87 rfl (lv_at hl 3 rfl) ?_
  refine va_get (D := (dC, dI)) (ci := 10) (v := .ref p3) (C := RX10) (T := TX10) (N := 19) hx hb hts i_X10 hown hK hP 0 rfl rfl 11 (by decide) k_36 (fun _ h9 => h9) rfl dX10_takeFrom_88 ?_
  refine lv_aload_n hx hb dX10_takeFrom_91 rfl (lv_at hl 3 rfl) ?_
  refine va_get (D := (dC, dI)) (ci := 10) (v := .int (nI q.1)) (C := RX10) (T := TX10) (N := 19) hx hb hts i_X10 hown hK hP 0 rfl rfl 12 (by decide) k_100 (fun _ h9 => h9) rfl dX10_takeFrom_92 ?_
  refine lv_aload_n hx hb dX10_takeFrom_95 rfl (lv_at hl 3 rfl) ?_
  refine lv_iload hx hb dX10_takeFrom_96 (lv_at hl 2 rfl) ?_
  refine lv_iload hx hb dX10_takeFrom_98 (lv_at hl 0 rfl) ?_
  refine lv_iload_n hx hb dX10_takeFrom_100 rfl (lv_at hl 5 rfl) ?_
  refine xkRi (xV (As := [.int (nI nb), .int u9, .int (nI gk)]) (rest := [.int (nI q.1), .ref p3]) (wc := [(h0, .inr (10, [.ref zq, h0_past, h0_kept, h0_spare, h0_pastMany, h0_isKept, h0_text, h0_typed, .ref uq, .ref p1, .ref p2, .ref p3, .int (nI q.1), .int q.2.1, .int q.2.2.1, h0_at, h0_fault, h0_entries, h0_entry])), (zq, .inl (cI, 1002, .inl z))]) hx hb hml hown hts (c_X10_centsOf l dC dI cI cF cC cZ cQ cS h0 zq h0_past h0_kept h0_spare h0_pastMany h0_isKept h0_text h0_typed (.ref uq) (.ref p1) (.ref p2) (.ref p3) (.int (nI q.1)) (.int q.2.1) (.int q.2.2.1) h0_at h0_fault h0_entries h0_entry z nb u9 gk (by omega) (by omega) (hgi nb hnbn) hmk) 3 gX10_takeFrom_X10_centsOf rfl rfl rfl hdV_X10_centsOf ⟨Nat.le_of_ble_eq_true rfl, Nat.le_of_ble_eq_true rfl⟩ hN hK hP hD [0, 1] rfl rfl 10 0 rfl rfl rfl hl.1 rfl (Nat.le_of_ble_eq_true rfl) dX10_takeFrom_101 ⟨Nat.zero_le _, Nat.zero_le _⟩) (fun r_8 hr_8 => ?_)
  obtain rfl : r_8 = zcents z nb u9 gk := hr_8
  refine xr_iast hx hb hK hP hD hS 5 0 rfl rfl (i := q.1) (by omega) (by decide) dX10_takeFrom_104 (fun H locs hP hD hS => ?_)
  have hP : va_P (dC, dI) vwCl [(h0, .inr (10, [.ref zq, h0_past, h0_kept, h0_spare, h0_pastMany, h0_isKept, h0_text, h0_typed, .ref uq, .ref p1, .ref p2, .ref p3, .int (nI q.1), .int q.2.1, .int q.2.2.1, h0_at, h0_fault, h0_entries, h0_entry])), (zq, .inl (cI, 1002, .inl z)), (uq, .inl (cZ, 40, .inl (upd q.2.2.2.1 nb (nI 1)))), (p1, .inl (cI, 40, .inl (upd q.2.2.2.2.1 q.1 (nI nb)))), (p2, .inl (cI, 40, .inl (upd q.2.2.2.2.2.1 q.1 u9))), (p3, .inl (cI, 40, .inl (upd q.2.2.2.2.2.2 q.1 (zcents z nb u9 gk))))] H := hP
  have hD : va_D A [(h0, .inr (10, [.ref zq, h0_past, h0_kept, h0_spare, h0_pastMany, h0_isKept, h0_text, h0_typed, .ref uq, .ref p1, .ref p2, .ref p3, .int (nI q.1), .int q.2.1, .int q.2.2.1, h0_at, h0_fault, h0_entries, h0_entry])), (zq, .inl (cI, 1002, .inl z)), (uq, .inl (cZ, 40, .inl (upd q.2.2.2.1 nb (nI 1)))), (p1, .inl (cI, 40, .inl (upd q.2.2.2.2.1 q.1 (nI nb)))), (p2, .inl (cI, 40, .inl (upd q.2.2.2.2.2.1 q.1 u9))), (p3, .inl (cI, 40, .inl (upd q.2.2.2.2.2.2 q.1 (zcents z nb u9 gk))))] := hD
  refine lv_aload_n hx hb dX10_takeFrom_105 rfl (lv_at hl 3 rfl) ?_
  refine lv_dup hx hb dX10_takeFrom_106 rfl ?_
  refine va_get (D := (dC, dI)) (ci := 10) (v := .int (nI q.1)) (C := RX10) (T := TX10) (N := 19) hx hb hts i_X10 hown hK hP 0 rfl rfl 12 (by decide) k_100 (fun _ h9 => h9) rfl dX10_takeFrom_107 ?_
  refine lv_iconst (v := nI 1) hx hb dX10_takeFrom_110 (by decide) ?_
  refine xr_iadd_n hx hb dX10_takeFrom_111 ?_
  refine va_put (D := (dC, dI)) (ci := 10) (v := .int (nI (q.1 + 1))) (ty := .int) (C := RX10) (T := TX10) (N := 19) hx hb hts i_X10 tyX10 tyX10_ok nmX10 hown hK hP hD hS 0 rfl rfl 12 (by decide) k_100 (fun _ h9 => h9) rfl (by decide +kernel) rfl rfl (Nat.le_of_ble_eq_true rfl) dX10_takeFrom_112 (fun H locs hP hD hS => ?_)
  have hP : va_P (dC, dI) vwCl [(h0, .inr (10, [.ref zq, h0_past, h0_kept, h0_spare, h0_pastMany, h0_isKept, h0_text, h0_typed, .ref uq, .ref p1, .ref p2, .ref p3, .int (nI (q.1 + 1)), .int q.2.1, .int q.2.2.1, h0_at, h0_fault, h0_entries, h0_entry])), (zq, .inl (cI, 1002, .inl z)), (uq, .inl (cZ, 40, .inl (upd q.2.2.2.1 nb (nI 1)))), (p1, .inl (cI, 40, .inl (upd q.2.2.2.2.1 q.1 (nI nb)))), (p2, .inl (cI, 40, .inl (upd q.2.2.2.2.2.1 q.1 u9))), (p3, .inl (cI, 40, .inl (upd q.2.2.2.2.2.2 q.1 (zcents z nb u9 gk))))] H := hP
  have hD : va_D A [(h0, .inr (10, [.ref zq, h0_past, h0_kept, h0_spare, h0_pastMany, h0_isKept, h0_text, h0_typed, .ref uq, .ref p1, .ref p2, .ref p3, .int (nI (q.1 + 1)), .int q.2.1, .int q.2.2.1, h0_at, h0_fault, h0_entries, h0_entry])), (zq, .inl (cI, 1002, .inl z)), (uq, .inl (cZ, 40, .inl (upd q.2.2.2.1 nb (nI 1)))), (p1, .inl (cI, 40, .inl (upd q.2.2.2.2.1 q.1 (nI nb)))), (p2, .inl (cI, 40, .inl (upd q.2.2.2.2.2.1 q.1 u9))), (p3, .inl (cI, 40, .inl (upd q.2.2.2.2.2.2 q.1 (zcents z nb u9 gk))))] := hD
  refine lv_aload_n hx hb dX10_takeFrom_115 rfl (lv_at hl 3 rfl) ?_
  refine lv_dup hx hb dX10_takeFrom_116 rfl ?_
  refine va_get (D := (dC, dI)) (ci := 10) (v := .int q.2.1) (C := RX10) (T := TX10) (N := 19) hx hb hts i_X10 hown hK hP 0 rfl rfl 13 (by decide) k_97 (fun _ h9 => h9) rfl dX10_takeFrom_117 ?_
  refine lv_iload hx hb dX10_takeFrom_120 (lv_at hl 0 rfl) ?_
  refine lv_iadd hx hb dX10_takeFrom_122 ?_
  refine va_put (D := (dC, dI)) (ci := 10) (v := .int (q.2.1 + u9)) (ty := .int) (C := RX10) (T := TX10) (N := 19) hx hb hts i_X10 tyX10 tyX10_ok nmX10 hown hK hP hD hS 0 rfl rfl 13 (by decide) k_97 (fun _ h9 => h9) rfl (by decide +kernel) rfl rfl (Nat.le_of_ble_eq_true rfl) dX10_takeFrom_123 (fun H locs hP hD hS => ?_)
  have hP : va_P (dC, dI) vwCl [(h0, .inr (10, [.ref zq, h0_past, h0_kept, h0_spare, h0_pastMany, h0_isKept, h0_text, h0_typed, .ref uq, .ref p1, .ref p2, .ref p3, .int (nI (q.1 + 1)), .int (q.2.1 + u9), .int q.2.2.1, h0_at, h0_fault, h0_entries, h0_entry])), (zq, .inl (cI, 1002, .inl z)), (uq, .inl (cZ, 40, .inl (upd q.2.2.2.1 nb (nI 1)))), (p1, .inl (cI, 40, .inl (upd q.2.2.2.2.1 q.1 (nI nb)))), (p2, .inl (cI, 40, .inl (upd q.2.2.2.2.2.1 q.1 u9))), (p3, .inl (cI, 40, .inl (upd q.2.2.2.2.2.2 q.1 (zcents z nb u9 gk))))] H := hP
  have hD : va_D A [(h0, .inr (10, [.ref zq, h0_past, h0_kept, h0_spare, h0_pastMany, h0_isKept, h0_text, h0_typed, .ref uq, .ref p1, .ref p2, .ref p3, .int (nI (q.1 + 1)), .int (q.2.1 + u9), .int q.2.2.1, h0_at, h0_fault, h0_entries, h0_entry])), (zq, .inl (cI, 1002, .inl z)), (uq, .inl (cZ, 40, .inl (upd q.2.2.2.1 nb (nI 1)))), (p1, .inl (cI, 40, .inl (upd q.2.2.2.2.1 q.1 (nI nb)))), (p2, .inl (cI, 40, .inl (upd q.2.2.2.2.2.1 q.1 u9))), (p3, .inl (cI, 40, .inl (upd q.2.2.2.2.2.2 q.1 (zcents z nb u9 gk))))] := hD
  refine lv_aload_n hx hb dX10_takeFrom_126 rfl (lv_at hl 3 rfl) ?_
  refine lv_dup hx hb dX10_takeFrom_127 rfl ?_
  refine va_get (D := (dC, dI)) (ci := 10) (v := .int q.2.2.1) (C := RX10) (T := TX10) (N := 19) hx hb hts i_X10 hown hK hP 0 rfl rfl 14 (by decide) k_107 (fun _ h9 => h9) rfl dX10_takeFrom_128 ?_
  refine xr_cut (g2 := F0 m 142 ls [.int (if w = nI gk then nI 0 else u9), .int q.2.2.1, .ref h0]) (fun kj_9 => ?_) ?_
  · skip
    refine lv_iload_n hx hb dX10_takeFrom_131 rfl (lv_at hl 4 rfl) ?_
    refine lv_iload_n hx hb dX10_takeFrom_132 rfl (lv_at hl 5 rfl) ?_
    refine lv_icmp_ne (tgt := 140) hx hb dX10_takeFrom_133 (by decide) (fun c_10 => ?_) (fun c_10 => ?_)
    · skip
      refine lv_iload hx hb dX10_takeFrom_140 (lv_at hl 0 rfl) ?_
      refine xr_top (show u9 = if w = nI gk then nI 0 else u9 from (if_neg c_10).symm) ?_
      exact kj_9
    refine lv_iconst (v := nI 0) hx hb dX10_takeFrom_136 (by decide) ?_
    refine lv_goto (tgt := 142) hx hb dX10_takeFrom_137 (by decide) ?_
    refine xr_top (show nI 0 = if w = nI gk then nI 0 else u9 from (if_pos c_10).symm) ?_
    exact kj_9
  refine lv_iadd hx hb dX10_takeFrom_142 ?_
  refine va_put (D := (dC, dI)) (ci := 10) (v := .int (q.2.2.1 + (if w = nI gk then nI 0 else u9))) (ty := .int) (C := RX10) (T := TX10) (N := 19) hx hb hts i_X10 tyX10 tyX10_ok nmX10 hown hK hP hD hS 0 rfl rfl 14 (by decide) k_107 (fun _ h9 => h9) rfl (by decide +kernel) rfl rfl (Nat.le_of_ble_eq_true rfl) dX10_takeFrom_143 (fun H locs hP hD hS => ?_)
  have hP : va_P (dC, dI) vwCl [(h0, .inr (10, [.ref zq, h0_past, h0_kept, h0_spare, h0_pastMany, h0_isKept, h0_text, h0_typed, .ref uq, .ref p1, .ref p2, .ref p3, .int (nI (q.1 + 1)), .int (q.2.1 + u9), .int (q.2.2.1 + (if w = nI gk then nI 0 else u9)), h0_at, h0_fault, h0_entries, h0_entry])), (zq, .inl (cI, 1002, .inl z)), (uq, .inl (cZ, 40, .inl (upd q.2.2.2.1 nb (nI 1)))), (p1, .inl (cI, 40, .inl (upd q.2.2.2.2.1 q.1 (nI nb)))), (p2, .inl (cI, 40, .inl (upd q.2.2.2.2.2.1 q.1 u9))), (p3, .inl (cI, 40, .inl (upd q.2.2.2.2.2.2 q.1 (zcents z nb u9 gk))))] H := hP
  have hD : va_D A [(h0, .inr (10, [.ref zq, h0_past, h0_kept, h0_spare, h0_pastMany, h0_isKept, h0_text, h0_typed, .ref uq, .ref p1, .ref p2, .ref p3, .int (nI (q.1 + 1)), .int (q.2.1 + u9), .int (q.2.2.1 + (if w = nI gk then nI 0 else u9)), h0_at, h0_fault, h0_entries, h0_entry])), (zq, .inl (cI, 1002, .inl z)), (uq, .inl (cZ, 40, .inl (upd q.2.2.2.1 nb (nI 1)))), (p1, .inl (cI, 40, .inl (upd q.2.2.2.2.1 q.1 (nI nb)))), (p2, .inl (cI, 40, .inl (upd q.2.2.2.2.2.1 q.1 u9))), (p3, .inl (cI, 40, .inl (upd q.2.2.2.2.2.2 q.1 (zcents z nb u9 gk))))] := hD
  refine lv_aload_n hx hb dX10_takeFrom_146 rfl (lv_at hl 3 rfl) ?_
  refine lv_iload_n hx hb dX10_takeFrom_147 rfl (lv_at hl 4 rfl) ?_
  refine lv_iload hx hb dX10_takeFrom_148 (lv_at hl 7 rfl) ?_
  refine xkRi (xV (As := [.int w, .int le]) (rest := []) (wc := [(h0, .inr (10, [.ref zq, h0_past, h0_kept, h0_spare, h0_pastMany, h0_isKept, h0_text, h0_typed, .ref uq, .ref p1, .ref p2, .ref p3, .int (nI (q.1 + 1)), .int (q.2.1 + u9), .int (q.2.2.1 + (if w = nI gk then nI 0 else u9)), h0_at, h0_fault, h0_entries, h0_entry])), (zq, .inl (cI, 1002, .inl z)), (uq, .inl (cZ, 40, .inl (upd q.2.2.2.1 nb (nI 1))))]) hx hb hml hown hts (c_X10_nextBatch l dC dI cI cF cC cZ cQ cS h0 zq h0_past h0_kept h0_spare h0_pastMany h0_isKept h0_text h0_typed uq (.ref p1) (.ref p2) (.ref p3) (.int (nI (q.1 + 1))) (.int (q.2.1 + u9)) (.int (q.2.2.1 + (if w = nI gk then nI 0 else u9))) h0_at h0_fault h0_entries h0_entry z (upd q.2.2.2.1 nb (nI 1)) w le bz hz2 (by omega) hgi hmk) 2 gX10_takeFrom_X10_nextBatch rfl rfl rfl hdV_X10_nextBatch ⟨Nat.le_of_ble_eq_true rfl, Nat.le_of_ble_eq_true rfl⟩ hN hK hP hD [0, 1, 2] rfl rfl 10 0 rfl rfl rfl hl.1 rfl (Nat.le_of_ble_eq_true rfl) dX10_takeFrom_150 ⟨Nat.zero_le _, Nat.zero_le _⟩) (fun r_11 hr_11 => ?_)
  obtain rfl : r_11 = zon (znb z le w bz (upd q.2.2.2.1 nb (nI 1))) := hr_11
  refine lv_istore (lv' := [(5, .int (zon (znb z le w bz (upd q.2.2.2.1 nb (nI 1))))), (7, .int u9), (6, .int (zB z nb 3)), (0, .ref h0), (1, .int w), (2, .int (nI gk)), (3, .int un), (4, .int le)]) hx hb dX10_takeFrom_153 hl (by decide) rfl (fun ls hl => ?_)
  refine lv_goto (tgt := 9) hx hb dX10_takeFrom_155 (by decide) ?_
  have hstp := ztk_some hnb c_4 h40 hq
  unfold zstep at hstp
  rw [← hu9] at hstp
  exact ih_9 (41 - (q.1 + 1, q.2.1 + u9, q.2.2.1 + (if w = nI gk then nI 0 else u9), upd q.2.2.2.1 nb (nI 1), upd q.2.2.2.2.1 q.1 (nI nb), upd q.2.2.2.2.2.1 q.1 u9, upd q.2.2.2.2.2.2 q.1 (zcents z nb u9 gk)).1) _ _ _ (show 41 - (q.1 + 1, q.2.1 + u9, q.2.2.1 + (if w = nI gk then nI 0 else u9), upd q.2.2.2.1 nb (nI 1), upd q.2.2.2.2.1 q.1 (nI nb), upd q.2.2.2.2.2.1 q.1 u9, upd q.2.2.2.2.2.2 q.1 (zcents z nb u9 gk)).1 < 41 - q.1 from by omega) ⟨(q.1 + 1, q.2.1 + u9, q.2.2.1 + (if w = nI gk then nI 0 else u9), upd q.2.2.2.1 nb (nI 1), upd q.2.2.2.2.1 q.1 (nI nb), upd q.2.2.2.2.2.1 q.1 u9, upd q.2.2.2.2.2.2 q.1 (zcents z nb u9 gk)), ls, rfl, rfl, lv_sub hl [0, 3, 4, 5, 6, 7] rfl, hP, hD, hS, (show zcu (upd q.2.2.2.1 nb (nI 1)) bz = q.1 + 1 from by rw [zcu_upd hnbo.1, if_pos hnbn, hcu]), (show q.1 + 1 ≤ 40 by omega), hstp⟩
