def zcntS (z : Nat → Int32) (sn : Nat) : Nat → Int32
  | 0 => nI 0
  | k + 1 => zcntS z sn k + (if ¬ zB z k 3 ≤ 0 ∧ zstg z k = sn then nI 1 else nI 0)
def zsumS (z : Nat → Int32) (sn : Nat) : Nat → Int32
  | 0 => nI 0
  | k + 1 => zsumS z sn k + (if ¬ zB z k 3 ≤ 0 ∧ zstg z k = sn then zB z k 3 else nI 0)
theorem xins_lt {f : Nat → Int32} {b n pl : Nat} {sb : Int32} {j : Nat} (h : j < b) : xins f b n pl sb j = f j := by
  unfold xins
  rw [if_neg (by omega), if_neg (by omega)]
theorem hdV_X10_unitPrice : yX10_unitPrice.cls = RX10 ∧ yX10_unitPrice.cls ≠ "java/lang/invoke/MethodHandle" ∧ yX10_unitPrice.cls ≠ "java/lang/invoke/VarHandle" ∧ (parseMethodDescriptor yX10_unitPrice.desc).map (fun d => d.parameters.length) = some 1 := by decide +kernel
set_option maxHeartbeats 4000000 in
set_option maxRecDepth 100000 in
theorem c_X10_unitPriceu (l : Launch) (dC : Nat → ClassId) (dI : Nat → Nat → Nat) (cI cF cC cZ cQ cS : ClassId) (h0 : Nat) (zq : Nat) (h0_past : Value) (h0_kept : Value) (h0_spare : Value) (h0_pastMany : Value) (h0_isKept : Value) (h0_text : Value) (h0_typed : Value) (h0_isUsed : Value) (h0_planBatch : Value) (h0_planUnits : Value) (h0_planCents : Value) (h0_planMany : Value) (h0_planGot : Value) (h0_planSubstitutes : Value) (h0_at : Value) (h0_fault : Value) (h0_entries : Value) (h0_entry : Value) (z : Nat → Int32) (bz : Nat) (bq : Int32) (hz2 : z 2 = nI bz) (hbz : bz ≤ 40) (hg : ¬ xhas bq bz) : Met l yX10_unitPrice wsX10_unitPrice ({ frames := 1, cells := 0, slots := 0, locals := 21 }) (xPre (dC, dI) vwCl [.ref h0, .int bq] (xtys cI cF cC cZ cQ cS) [(h0, .inr (10, [.ref zq, h0_past, h0_kept, h0_spare, h0_pastMany, h0_isKept, h0_text, h0_typed, h0_isUsed, h0_planBatch, h0_planUnits, h0_planCents, h0_planMany, h0_planGot, h0_planSubstitutes, h0_at, h0_fault, h0_entries, h0_entry])), (zq, .inl (cI, 1002, .inl z))]) (vp_Sf (fun r0 => r0 = 2143289344)) 0 0 (fun _ => False) := by
  refine Met.ofW (cc := cX10_unitPrice) (maxL := 2) (ret := (some .float)) (by decide) rfl ?_
  intro p e s m args below meth c s₁ B hml hv
  obtain ⟨rfl, hP, hK, hD0, hN⟩ := hv
  have hx := B.exec
  have hb := B.bytes
  have hr := B.returns
  have hts := atoms_spec (ws := wsX10_unitPrice) B.pre
  have hown : s.vm.findClass RX10 = some m.cls := findClass_of_methodNamed B.named
  have hlocks := B.notSynchronized
  have kf_196 := hts (Cond.constantFloat RX10 196 (2143289344)) (by decide +kernel)
  have hD := hD0
  have hl := lv_entry ([.ref h0, .int bq]) (n := 2) (Nat.le_of_ble_eq_true rfl)
  rw [lg_entry_eq]
  generalize (lg_sl ([.ref h0, .int bq]) ++ List.replicate (2 - (lg_sl ([.ref h0, .int bq])).length) Slot.unset).toArray = ls at hl ⊢
  have hl : lv_has ls 2 [(0, .ref h0), (1, .int bq)] := hl
  refine lv_aload_n hx hb dX10_unitPrice_0 rfl (lv_at hl 0 rfl) ?_
  refine lv_iload_n hx hb dX10_unitPrice_1 rfl (lv_at hl 1 rfl) ?_
  refine xkRi (xV (As := [.int bq]) (rest := []) (wc := [(h0, .inr (10, [.ref zq, h0_past, h0_kept, h0_spare, h0_pastMany, h0_isKept, h0_text, h0_typed, h0_isUsed, h0_planBatch, h0_planUnits, h0_planCents, h0_planMany, h0_planGot, h0_planSubstitutes, h0_at, h0_fault, h0_entries, h0_entry])), (zq, .inl (cI, 1002, .inl z))]) hx hb hml hown hts (c_X10_isBatch l dC dI cI cF cC cZ cQ cS h0 zq h0_past h0_kept h0_spare h0_pastMany h0_isKept h0_text h0_typed h0_isUsed h0_planBatch h0_planUnits h0_planCents h0_planMany h0_planGot h0_planSubstitutes h0_at h0_fault h0_entries h0_entry z bq bz (by omega) (by omega)) 1 gX10_unitPrice_X10_isBatch rfl rfl rfl hdV_X10_isBatch ⟨Nat.le_of_ble_eq_true rfl, Nat.le_of_ble_eq_true rfl⟩ hN hK hP hD [0, 1] rfl rfl 10 0 rfl rfl rfl hl.1 rfl (Nat.le_of_ble_eq_true rfl) dX10_unitPrice_2 ⟨Nat.zero_le _, Nat.zero_le _⟩) (fun r_1 hr_1 => ?_)
  have hr_1 : r_1 = (if xhas bq bz then nI 1 else nI 0) := hr_1
  obtain rfl : r_1 = nI 0 := hr_1.trans (if_neg hg)
  refine xr_if0 (tgt := 16) hx hb (by decide) dX10_unitPrice_5 (by decide) ?_
  refine lv_ldcf hx hb hown kf_196 dX10_unitPrice_16 ?_
  exact W.fret (v := 2143289344) hx hb hr (fun t ht hW => ⟨_, rfl, (show 2143289344 = 2143289344 from rfl), ht⟩) (fun q h => by cases h) dX10_unitPrice_18
set_option maxHeartbeats 4000000 in
set_option maxRecDepth 100000 in
theorem c_X10_unitPrices (l : Launch) (dC : Nat → ClassId) (dI : Nat → Nat → Nat) (cI cF cC cZ cQ cS : ClassId) (h0 : Nat) (zq : Nat) (h0_past : Value) (h0_kept : Value) (h0_spare : Value) (h0_pastMany : Value) (h0_isKept : Value) (h0_text : Value) (h0_typed : Value) (h0_isUsed : Value) (h0_planBatch : Value) (h0_planUnits : Value) (h0_planCents : Value) (h0_planMany : Value) (h0_planGot : Value) (h0_planSubstitutes : Value) (h0_at : Value) (h0_fault : Value) (h0_entries : Value) (h0_entry : Value) (z : Nat → Int32) (bz : Nat) (kb : Nat) (hz2 : z 2 = nI bz) (hbz : bz ≤ 40) (hk : kb < bz) (hgi : zidx z bz) (hmk : ∀ j, j < 4 → (z (958 + j)).toNatClampNeg ≤ 1120403456 ∧ z (958 + j) = nI (z (958 + j)).toNatClampNeg) : Met l yX10_unitPrice wsX10_unitPrice ({ frames := 3, cells := 0, slots := 0, locals := 70 }) (xPre (dC, dI) vwCl [.ref h0, .int (nI kb)] (xtys cI cF cC cZ cQ cS) [(h0, .inr (10, [.ref zq, h0_past, h0_kept, h0_spare, h0_pastMany, h0_isKept, h0_text, h0_typed, h0_isUsed, h0_planBatch, h0_planUnits, h0_planCents, h0_planMany, h0_planGot, h0_planSubstitutes, h0_at, h0_fault, h0_entries, h0_entry])), (zq, .inl (cI, 1002, .inl z))]) (vp_Sf (fun r0 => r0 = zprice z kb)) 0 0 (fun _ => False) := by
  refine Met.ofW (cc := cX10_unitPrice) (maxL := 2) (ret := (some .float)) (by decide) rfl ?_
  intro p e s m args below meth c s₁ B hml hv
  obtain ⟨rfl, hP, hK, hD0, hN⟩ := hv
  have hx := B.exec
  have hb := B.bytes
  have hr := B.returns
  have hts := atoms_spec (ws := wsX10_unitPrice) B.pre
  have hown : s.vm.findClass RX10 = some m.cls := findClass_of_methodNamed B.named
  have hlocks := B.notSynchronized
  have hD := hD0
  have hl := lv_entry ([.ref h0, .int (nI kb)]) (n := 2) (Nat.le_of_ble_eq_true rfl)
  rw [lg_entry_eq]
  generalize (lg_sl ([.ref h0, .int (nI kb)]) ++ List.replicate (2 - (lg_sl ([.ref h0, .int (nI kb)])).length) Slot.unset).toArray = ls at hl ⊢
  have hl : lv_has ls 2 [(0, .ref h0), (1, .int (nI kb))] := hl
  refine lv_aload_n hx hb dX10_unitPrice_0 rfl (lv_at hl 0 rfl) ?_
  refine lv_iload_n hx hb dX10_unitPrice_1 rfl (lv_at hl 1 rfl) ?_
  refine xkRi (xV (As := [.int (nI kb)]) (rest := []) (wc := [(h0, .inr (10, [.ref zq, h0_past, h0_kept, h0_spare, h0_pastMany, h0_isKept, h0_text, h0_typed, h0_isUsed, h0_planBatch, h0_planUnits, h0_planCents, h0_planMany, h0_planGot, h0_planSubstitutes, h0_at, h0_fault, h0_entries, h0_entry])), (zq, .inl (cI, 1002, .inl z))]) hx hb hml hown hts (c_X10_isBatch l dC dI cI cF cC cZ cQ cS h0 zq h0_past h0_kept h0_spare h0_pastMany h0_isKept h0_text h0_typed h0_isUsed h0_planBatch h0_planUnits h0_planCents h0_planMany h0_planGot h0_planSubstitutes h0_at h0_fault h0_entries h0_entry z (nI kb) bz (by omega) (by omega)) 1 gX10_unitPrice_X10_isBatch rfl rfl rfl hdV_X10_isBatch ⟨Nat.le_of_ble_eq_true rfl, Nat.le_of_ble_eq_true rfl⟩ hN hK hP hD [0, 1] rfl rfl 10 0 rfl rfl rfl hl.1 rfl (Nat.le_of_ble_eq_true rfl) dX10_unitPrice_2 ⟨Nat.zero_le _, Nat.zero_le _⟩) (fun r_1 hr_1 => ?_)
  have hr_1 : r_1 = (if xhas (nI kb) bz then nI 1 else nI 0) := hr_1
  obtain rfl : r_1 = nI 1 := hr_1.trans (if_pos (xhas_of hk (by omega)))
  refine xr_if1 (tgt := 16) hx hb (by decide) dX10_unitPrice_5 (by decide) ?_
  refine lv_aload_n hx hb dX10_unitPrice_8 rfl (lv_at hl 0 rfl) ?_
  refine lv_iload_n hx hb dX10_unitPrice_9 rfl (lv_at hl 1 rfl) ?_
  refine xkRf (xV (As := [.int (nI kb)]) (rest := []) (wc := [(h0, .inr (10, [.ref zq, h0_past, h0_kept, h0_spare, h0_pastMany, h0_isKept, h0_text, h0_typed, h0_isUsed, h0_planBatch, h0_planUnits, h0_planCents, h0_planMany, h0_planGot, h0_planSubstitutes, h0_at, h0_fault, h0_entries, h0_entry])), (zq, .inl (cI, 1002, .inl z))]) hx hb hml hown hts (c_X10_priceOf l dC dI cI cF cC cZ cQ cS h0 zq h0_past h0_kept h0_spare h0_pastMany h0_isKept h0_text h0_typed h0_isUsed h0_planBatch h0_planUnits h0_planCents h0_planMany h0_planGot h0_planSubstitutes h0_at h0_fault h0_entries h0_entry z kb (by omega) (hgi kb (by omega)) hmk) 1 gX10_unitPrice_X10_priceOf rfl rfl rfl hdV_X10_priceOf ⟨Nat.le_of_ble_eq_true rfl, Nat.le_of_ble_eq_true rfl⟩ hN hK hP hD [0, 1] rfl rfl 10 0 rfl rfl rfl hl.1 rfl (Nat.le_of_ble_eq_true rfl) dX10_unitPrice_10 ⟨Nat.zero_le _, Nat.zero_le _⟩) (fun r_2 hr_2 => ?_)
  obtain rfl : r_2 = zprice z kb := hr_2
  refine lv_goto (tgt := 18) hx hb dX10_unitPrice_13 (by decide) ?_
  exact W.fret (v := zprice z kb) hx hb hr (fun t ht hW => ⟨_, rfl, (show zprice z kb = zprice z kb from rfl), ht⟩) (fun q h => by cases h) dX10_unitPrice_18
theorem hdV_X10_markdown : yX10_markdown.cls = RX10 ∧ yX10_markdown.cls ≠ "java/lang/invoke/MethodHandle" ∧ yX10_markdown.cls ≠ "java/lang/invoke/VarHandle" ∧ (parseMethodDescriptor yX10_markdown.desc).map (fun d => d.parameters.length) = some 1 := by decide +kernel
set_option maxHeartbeats 4000000 in
set_option maxRecDepth 100000 in
theorem c_X10_markdownu (l : Launch) (dC : Nat → ClassId) (dI : Nat → Nat → Nat) (cI cF cC cZ cQ cS : ClassId) (h0 : Nat) (zq : Nat) (h0_past : Value) (h0_kept : Value) (h0_spare : Value) (h0_pastMany : Value) (h0_isKept : Value) (h0_text : Value) (h0_typed : Value) (h0_isUsed : Value) (h0_planBatch : Value) (h0_planUnits : Value) (h0_planCents : Value) (h0_planMany : Value) (h0_planGot : Value) (h0_planSubstitutes : Value) (h0_at : Value) (h0_fault : Value) (h0_entries : Value) (h0_entry : Value) (z : Nat → Int32) (sq : Int32) (hg : ¬ xhas sq 4) : Met l yX10_markdown wsX10_markdown ({ frames := 1, cells := 0, slots := 0, locals := 22 }) (xPre (dC, dI) vwCl [.ref h0, .int sq] (xtys cI cF cC cZ cQ cS) [(h0, .inr (10, [.ref zq, h0_past, h0_kept, h0_spare, h0_pastMany, h0_isKept, h0_text, h0_typed, h0_isUsed, h0_planBatch, h0_planUnits, h0_planCents, h0_planMany, h0_planGot, h0_planSubstitutes, h0_at, h0_fault, h0_entries, h0_entry])), (zq, .inl (cI, 1002, .inl z))]) (vp_Sf (fun r0 => r0 = 2143289344)) 0 0 (fun _ => False) := by
  refine Met.ofW (cc := cX10_markdown) (maxL := 2) (ret := (some .float)) (by decide) rfl ?_
  intro p e s m args below meth c s₁ B hml hv
  obtain ⟨rfl, hP, hK, hD0, hN⟩ := hv
  have hx := B.exec
  have hb := B.bytes
  have hr := B.returns
  have hts := atoms_spec (ws := wsX10_markdown) B.pre
  have hown : s.vm.findClass RX10 = some m.cls := findClass_of_methodNamed B.named
  have hlocks := B.notSynchronized
  have kf_196 := hts (Cond.constantFloat RX10 196 (2143289344)) (by decide +kernel)
  have hD := hD0
  have hl := lv_entry ([.ref h0, .int sq]) (n := 2) (Nat.le_of_ble_eq_true rfl)
  rw [lg_entry_eq]
  generalize (lg_sl ([.ref h0, .int sq]) ++ List.replicate (2 - (lg_sl ([.ref h0, .int sq])).length) Slot.unset).toArray = ls at hl ⊢
  have hl : lv_has ls 2 [(0, .ref h0), (1, .int sq)] := hl
  refine lv_iload_n hx hb dX10_markdown_0 rfl (lv_at hl 1 rfl) ?_
  refine lv_iconst (v := nI 0) hx hb dX10_markdown_1 (by decide) ?_
  refine lv_iconst (v := nI 3) hx hb dX10_markdown_2 (by decide) ?_
  refine xkRi (xSs (Ws' := ([] : List Cond)) (As := [.int sq, .int (nI 0), .int (nI 3)]) (rest := []) (wc := []) hx hb hml hown hts (c_X10_in l dC dI cI cF cC cZ cQ cS sq (nI 0) (nI 3)) 3 (fun hR => va_cwS 3 hts gX10_markdown_X10_in rfl rfl rfl hdN_X10_in hR) ⟨Nat.le_of_ble_eq_true rfl, Nat.le_of_ble_eq_true rfl⟩ hN hK hP hD [] rfl rfl rfl hl.1 rfl (Nat.le_of_ble_eq_true rfl) dX10_markdown_3 ⟨Nat.zero_le _, Nat.zero_le _⟩) (fun r_1 hr_1 => ?_)
  have hr_1 : r_1 = (if (nI 0) ≤ sq ∧ sq ≤ (nI 3) then nI 1 else nI 0) := hr_1
  obtain rfl : r_1 = nI 0 := hr_1.trans (if_neg (fun q => hg ((xhas_iff4 _).mp q)))
  refine xr_if0 (tgt := 25) hx hb (by decide) dX10_markdown_6 (by decide) ?_
  refine lv_ldcf hx hb hown kf_196 dX10_markdown_25 ?_
  exact W.fret (v := 2143289344) hx hb hr (fun t ht hW => ⟨_, rfl, (show 2143289344 = 2143289344 from rfl), ht⟩) (fun q h => by cases h) dX10_markdown_27
set_option maxHeartbeats 4000000 in
set_option maxRecDepth 100000 in
theorem c_X10_markdowns (l : Launch) (dC : Nat → ClassId) (dI : Nat → Nat → Nat) (cI cF cC cZ cQ cS : ClassId) (h0 : Nat) (zq : Nat) (h0_past : Value) (h0_kept : Value) (h0_spare : Value) (h0_pastMany : Value) (h0_isKept : Value) (h0_text : Value) (h0_typed : Value) (h0_isUsed : Value) (h0_planBatch : Value) (h0_planUnits : Value) (h0_planCents : Value) (h0_planMany : Value) (h0_planGot : Value) (h0_planSubstitutes : Value) (h0_at : Value) (h0_fault : Value) (h0_entries : Value) (h0_entry : Value) (z : Nat → Int32) (sn : Nat) (hsn : sn < 4) (hs4 : nI 0 ≤ nI sn ∧ nI sn ≤ nI 3) (hmk : ∀ j, j < 4 → (z (958 + j)).toNatClampNeg ≤ 1120403456 ∧ z (958 + j) = nI (z (958 + j)).toNatClampNeg) : Met l yX10_markdown wsX10_markdown ({ frames := 1, cells := 0, slots := 0, locals := 25 }) (xPre (dC, dI) vwCl [.ref h0, .int (nI sn)] (xtys cI cF cC cZ cQ cS) [(h0, .inr (10, [.ref zq, h0_past, h0_kept, h0_spare, h0_pastMany, h0_isKept, h0_text, h0_typed, h0_isUsed, h0_planBatch, h0_planUnits, h0_planCents, h0_planMany, h0_planGot, h0_planSubstitutes, h0_at, h0_fault, h0_entries, h0_entry])), (zq, .inl (cI, 1002, .inl z))]) (vp_Sf (fun r0 => r0 = xf1 (z (958 + sn)))) 0 0 (fun _ => False) := by
  refine Met.ofW (cc := cX10_markdown) (maxL := 2) (ret := (some .float)) (by decide) rfl ?_
  intro p e s m args below meth c s₁ B hml hv
  obtain ⟨rfl, hP, hK, hD0, hN⟩ := hv
  have hx := B.exec
  have hb := B.bytes
  have hr := B.returns
  have hts := atoms_spec (ws := wsX10_markdown) B.pre
  have hown : s.vm.findClass RX10 = some m.cls := findClass_of_methodNamed B.named
  have hlocks := B.notSynchronized
  have k_7 := hts (Cond.fieldLink RX10 7 "ShelfStagesModel" "z" "[I") (by decide +kernel)
  have i_X10 : ∀ w ∈ wsX100, w ∈ wsX10_markdown := by decide +kernel
  have hD := hD0
  have hl := lv_entry ([.ref h0, .int (nI sn)]) (n := 2) (Nat.le_of_ble_eq_true rfl)
  rw [lg_entry_eq]
  generalize (lg_sl ([.ref h0, .int (nI sn)]) ++ List.replicate (2 - (lg_sl ([.ref h0, .int (nI sn)])).length) Slot.unset).toArray = ls at hl ⊢
  have hl : lv_has ls 2 [(0, .ref h0), (1, .int (nI sn))] := hl
  refine lv_iload_n hx hb dX10_markdown_0 rfl (lv_at hl 1 rfl) ?_
  refine lv_iconst (v := nI 0) hx hb dX10_markdown_1 (by decide) ?_
  refine lv_iconst (v := nI 3) hx hb dX10_markdown_2 (by decide) ?_
  refine xkRi (xSs (Ws' := ([] : List Cond)) (As := [.int (nI sn), .int (nI 0), .int (nI 3)]) (rest := []) (wc := []) hx hb hml hown hts (c_X10_in l dC dI cI cF cC cZ cQ cS (nI sn) (nI 0) (nI 3)) 3 (fun hR => va_cwS 3 hts gX10_markdown_X10_in rfl rfl rfl hdN_X10_in hR) ⟨Nat.le_of_ble_eq_true rfl, Nat.le_of_ble_eq_true rfl⟩ hN hK hP hD [] rfl rfl rfl hl.1 rfl (Nat.le_of_ble_eq_true rfl) dX10_markdown_3 ⟨Nat.zero_le _, Nat.zero_le _⟩) (fun r_1 hr_1 => ?_)
  have hr_1 : r_1 = (if (nI 0) ≤ (nI sn) ∧ (nI sn) ≤ (nI 3) then nI 1 else nI 0) := hr_1
  obtain rfl : r_1 = nI 1 := hr_1.trans (if_pos hs4)
  refine xr_if1 (tgt := 25) hx hb (by decide) dX10_markdown_6 (by decide) ?_
  refine lv_aload_n hx hb dX10_markdown_9 rfl (lv_at hl 0 rfl) ?_
  refine va_get (D := (dC, dI)) (ci := 10) (v := .ref zq) (C := RX10) (T := TX10) (N := 19) hx hb hts i_X10 hown hK hP 0 rfl rfl 0 (by decide) k_7 (fun _ h9 => h9) rfl dX10_markdown_10 ?_
  refine lv_sipush (v := nI 958) hx hb dX10_markdown_13 (by decide) ?_
  refine lv_iload_n hx hb dX10_markdown_16 rfl (lv_at hl 1 rfl) ?_
  refine xr_iadd_n hx hb dX10_markdown_17 ?_
  refine xr_iald hx hb hK hP 1 0 rfl rfl (i := 958 + sn) (by omega) (by decide) dX10_markdown_18 ?_
  refine xr_top (show z (958 + sn) = nI ((z (958 + sn)).toNatClampNeg) from (hmk _ hsn).2) ?_
  refine xkRf (xSs (Ws' := ([] : List Cond)) (As := [.int (nI ((z (958 + sn)).toNatClampNeg))]) (rest := []) (wc := []) hx hb hml hown hts (c_X10_floatOf l dC dI cI cF cC cZ cQ cS ((z (958 + sn)).toNatClampNeg) (hmk _ hsn).1) 1 (fun hR => va_cwS 1 hts gX10_markdown_X10_floatOf rfl rfl rfl hdN_X10_floatOf hR) ⟨Nat.le_of_ble_eq_true rfl, Nat.le_of_ble_eq_true rfl⟩ hN hK hP hD [] rfl rfl rfl hl.1 rfl (Nat.le_of_ble_eq_true rfl) dX10_markdown_19 ⟨Nat.zero_le _, Nat.zero_le _⟩) (fun r_2 hr_2 => ?_)
  obtain rfl : r_2 = xf1 (nI ((z (958 + sn)).toNatClampNeg)) := hr_2
  refine xr_topf (show xf1 (nI ((z (958 + sn)).toNatClampNeg)) = xf1 (z (958 + sn)) from (by rw [← (hmk _ hsn).2])) ?_
  refine lv_goto (tgt := 27) hx hb dX10_markdown_22 (by decide) ?_
  exact W.fret (v := xf1 (z (958 + sn))) hx hb hr (fun t ht hW => ⟨_, rfl, (show xf1 (z (958 + sn)) = xf1 (z (958 + sn)) from rfl), ht⟩) (fun q h => by cases h) dX10_markdown_27
set_option maxHeartbeats 4000000 in
set_option maxRecDepth 100000 in
theorem c_X10_stages (l : Launch) (dC : Nat → ClassId) (dI : Nat → Nat → Nat) (cI cF cC cZ cQ cS : ClassId) (h0 : Nat) (zq : Nat) (h0_past : Value) (h0_kept : Value) (h0_spare : Value) (h0_pastMany : Value) (h0_isKept : Value) (h0_text : Value) (h0_typed : Value) (h0_isUsed : Value) (h0_planBatch : Value) (h0_planUnits : Value) (h0_planCents : Value) (h0_planMany : Value) (h0_planGot : Value) (h0_planSubstitutes : Value) (h0_at : Value) (h0_fault : Value) (h0_entries : Value) (h0_entry : Value) (z : Nat → Int32) (bz : Nat) (sn : Nat) (wn : Nat) (hz2 : z 2 = nI bz) (hbz : bz ≤ 40) (hgi : zidx z bz) (hsn : sn < 4) (hs4 : nI 0 ≤ nI sn ∧ nI sn ≤ nI 3) (hwn : wn ≤ 2) (hw : nI 0 ≤ nI wn ∧ nI wn ≤ nI 2) : Met l yX10_stage wsX10_stage ({ frames := 2, cells := 0, slots := 0, locals := 45 }) (xPre (dC, dI) vwCl [.ref h0, .int (nI sn), .int (nI wn)] (xtys cI cF cC cZ cQ cS) [(h0, .inr (10, [.ref zq, h0_past, h0_kept, h0_spare, h0_pastMany, h0_isKept, h0_text, h0_typed, h0_isUsed, h0_planBatch, h0_planUnits, h0_planCents, h0_planMany, h0_planGot, h0_planSubstitutes, h0_at, h0_fault, h0_entries, h0_entry])), (zq, .inl (cI, 1002, .inl z))]) (vp_Si (fun r0 => r0 = if wn = 0 then z (954 + sn) else if wn = 1 then zcntS z sn bz else zsumS z sn bz)) 0 0 (fun _ => False) := by
  refine Met.ofW (cc := cX10_stage) (maxL := 7) (ret := (some .int)) (by decide) rfl ?_
  intro p e s m args below meth c s₁ B hml hv
  obtain ⟨rfl, hP, hK, hD0, hN⟩ := hv
  have hx := B.exec
  have hb := B.bytes
  have hr := B.returns
  have hts := atoms_spec (ws := wsX10_stage) B.pre
  have hown : s.vm.findClass RX10 = some m.cls := findClass_of_methodNamed B.named
  have hlocks := B.notSynchronized
  have k_7 := hts (Cond.fieldLink RX10 7 "ShelfStagesModel" "z" "[I") (by decide +kernel)
  have i_X10 : ∀ w ∈ wsX100, w ∈ wsX10_stage := by decide +kernel
  have hD := hD0
  have hl := lv_entry ([.ref h0, .int (nI sn), .int (nI wn)]) (n := 7) (Nat.le_of_ble_eq_true rfl)
  rw [lg_entry_eq]
  generalize (lg_sl ([.ref h0, .int (nI sn), .int (nI wn)]) ++ List.replicate (7 - (lg_sl ([.ref h0, .int (nI sn), .int (nI wn)])).length) Slot.unset).toArray = ls at hl ⊢
  have hl : lv_has ls 7 [(0, .ref h0), (1, .int (nI sn)), (2, .int (nI wn))] := hl
  refine lv_iload_n hx hb dX10_stage_0 rfl (lv_at hl 1 rfl) ?_
  refine lv_iconst (v := nI 0) hx hb dX10_stage_1 (by decide) ?_
  refine lv_iconst (v := nI 3) hx hb dX10_stage_2 (by decide) ?_
  refine xkRi (xSs (Ws' := ([] : List Cond)) (As := [.int (nI sn), .int (nI 0), .int (nI 3)]) (rest := []) (wc := []) hx hb hml hown hts (c_X10_in l dC dI cI cF cC cZ cQ cS (nI sn) (nI 0) (nI 3)) 3 (fun hR => va_cwS 3 hts gX10_stage_X10_in rfl rfl rfl hdN_X10_in hR) ⟨Nat.le_of_ble_eq_true rfl, Nat.le_of_ble_eq_true rfl⟩ hN hK hP hD [] rfl rfl rfl hl.1 rfl (Nat.le_of_ble_eq_true rfl) dX10_stage_3 ⟨Nat.zero_le _, Nat.zero_le _⟩) (fun r_1 hr_1 => ?_)
  have hr_1 : r_1 = (if (nI 0) ≤ (nI sn) ∧ (nI sn) ≤ (nI 3) then nI 1 else nI 0) := hr_1
  obtain rfl : r_1 = nI 1 := hr_1.trans (if_pos hs4)
  refine xr_ifn1 (tgt := 11) hx hb (by decide) dX10_stage_6 (by decide) ?_
  refine lv_iload_n hx hb dX10_stage_11 rfl (lv_at hl 2 rfl) ?_
  refine lv_iconst (v := nI 0) hx hb dX10_stage_12 (by decide) ?_
  refine lv_iconst (v := nI 2) hx hb dX10_stage_13 (by decide) ?_
  refine xkRi (xSs (Ws' := ([] : List Cond)) (As := [.int (nI wn), .int (nI 0), .int (nI 2)]) (rest := []) (wc := []) hx hb hml hown hts (c_X10_in l dC dI cI cF cC cZ cQ cS (nI wn) (nI 0) (nI 2)) 3 (fun hR => va_cwS 3 hts gX10_stage_X10_in rfl rfl rfl hdN_X10_in hR) ⟨Nat.le_of_ble_eq_true rfl, Nat.le_of_ble_eq_true rfl⟩ hN hK hP hD [] rfl rfl rfl hl.1 rfl (Nat.le_of_ble_eq_true rfl) dX10_stage_14 ⟨Nat.zero_le _, Nat.zero_le _⟩) (fun r_2 hr_2 => ?_)
  have hr_2 : r_2 = (if (nI 0) ≤ (nI wn) ∧ (nI wn) ≤ (nI 2) then nI 1 else nI 0) := hr_2
  obtain rfl : r_2 = nI 1 := hr_2.trans (if_pos hw)
  refine xr_ifn1 (tgt := 23) hx hb (by decide) dX10_stage_17 (by decide) ?_
  refine lv_iconst (v := nI 0) hx hb dX10_stage_23 (by decide) ?_
  refine lv_istore_n (lv' := [(3, .int (nI 0)), (0, .ref h0), (1, .int (nI sn)), (2, .int (nI wn))]) hx hb dX10_stage_24 rfl hl (by decide) rfl (fun ls hl => ?_)
  refine lv_iconst (v := nI 0) hx hb dX10_stage_25 (by decide) ?_
  refine lv_istore (lv' := [(4, .int (nI 0)), (3, .int (nI 0)), (0, .ref h0), (1, .int (nI sn)), (2, .int (nI wn))]) hx hb dX10_stage_26 hl (by decide) rfl (fun ls hl => ?_)
  refine lv_iconst (v := nI 0) hx hb dX10_stage_28 (by decide) ?_
  refine lv_istore (lv' := [(5, .int (nI 0)), (4, .int (nI 0)), (3, .int (nI 0)), (0, .ref h0), (1, .int (nI sn)), (2, .int (nI wn))]) hx hb dX10_stage_29 hl (by decide) rfl (fun ls hl => ?_)
  refine xr_loop (J := Nat) (fun n0 H locs g => ∃ (k : Nat) (acc : Int32) (acu : Int32) (ls : Array Slot), H = s.heap ∧ locs = [] ∧ n0 = (bz + 1) - k ∧ g = F0 m 31 ls [] ∧ lv_has ls 7 [(5, .int (nI k)), (4, .int acu), (3, .int acc), (0, .ref h0), (1, .int (nI sn)), (2, .int (nI wn))] ∧ (k ≤ bz) ∧ (acc = zcntS z sn k) ∧ (acu = zsumS z sn k)) (fun n => n) ?_ ((bz + 1) - 0) (g := F0 m 31 ls []) ⟨0, (nI 0), (nI 0), ls, rfl, rfl, rfl, rfl, lv_sub hl [0, 1, 2, 3, 4, 5] rfl, (Nat.zero_le _), rfl, rfl⟩
  intro n0 ih_31 H locs g hp
  obtain ⟨k, acc, acu, ls, rfl, rfl, rfl, rfl, hl, hk, hac, hau⟩ := hp
  refine lv_iload hx hb dX10_stage_31 (lv_at hl 0 rfl) ?_
  refine lv_aload_n hx hb dX10_stage_33 rfl (lv_at hl 3 rfl) ?_
  refine va_get (D := (dC, dI)) (ci := 10) (v := .ref zq) (C := RX10) (T := TX10) (N := 19) hx hb hts i_X10 hown hK hP 0 rfl rfl 0 (by decide) k_7 (fun _ h9 => h9) rfl dX10_stage_34 ?_
  refine lv_iconst (v := nI 2) hx hb dX10_stage_37 (by decide) ?_
  refine xr_iald hx hb hK hP 1 0 rfl rfl (i := 2) (by omega) (by decide) dX10_stage_38 ?_
  refine xr_top (show z 2 = nI bz from hz2) ?_
  refine xr_ge_n (tgt := 109) hx hb (by omega) (by omega) dX10_stage_39 (by decide) (fun c_3 => ?_) (fun c_3 => ?_)
  · skip
    refine lv_iload_n hx hb dX10_stage_109 rfl (lv_at hl 5 rfl) ?_
    refine xr_zne_n (tgt := 126) hx hb (by omega) dX10_stage_110 (by decide) (fun c_4 => ?_) (fun c_4 => ?_)
    · skip
      refine lv_iload_n hx hb dX10_stage_126 rfl (lv_at hl 5 rfl) ?_
      refine lv_iconst (v := nI 1) hx hb dX10_stage_127 (by decide) ?_
      refine xr_ne_n (tgt := 135) hx hb (by omega) (by omega) dX10_stage_128 (by decide) (fun c_5 => ?_) (fun c_5 => ?_)
      · skip
        refine lv_iload hx hb dX10_stage_135 (lv_at hl 1 rfl) ?_
        exact W.iret (v := acu) hx hb hr (fun t ht hW => ⟨_, rfl, (show acu = if wn = 0 then z (954 + sn) else if wn = 1 then zcntS z sn bz else zsumS z sn bz from (by rw [hau, show k = bz from by omega, if_neg (Nat.ne_of_gt c_4), if_neg c_5])), ht⟩) (fun q h => by cases h) dX10_stage_137
      refine lv_iload_n hx hb dX10_stage_131 rfl (lv_at hl 2 rfl) ?_
      refine lv_goto (tgt := 137) hx hb dX10_stage_132 (by decide) ?_
      exact W.iret (v := acc) hx hb hr (fun t ht hW => ⟨_, rfl, (show acc = if wn = 0 then z (954 + sn) else if wn = 1 then zcntS z sn bz else zsumS z sn bz from (by rw [hac, show k = bz from by omega, if_neg (Nat.ne_of_gt c_4), if_pos c_5])), ht⟩) (fun q h => by cases h) dX10_stage_137
    refine lv_aload_n hx hb dX10_stage_113 rfl (lv_at hl 3 rfl) ?_
    refine va_get (D := (dC, dI)) (ci := 10) (v := .ref zq) (C := RX10) (T := TX10) (N := 19) hx hb hts i_X10 hown hK hP 0 rfl rfl 0 (by decide) k_7 (fun _ h9 => h9) rfl dX10_stage_114 ?_
    refine lv_sipush (v := nI 954) hx hb dX10_stage_117 (by decide) ?_
    refine lv_iload_n hx hb dX10_stage_120 rfl (lv_at hl 4 rfl) ?_
    refine xr_iadd_n hx hb dX10_stage_121 ?_
    refine xr_iald hx hb hK hP 1 0 rfl rfl (i := 954 + sn) (by omega) (by decide) dX10_stage_122 ?_
    refine lv_goto (tgt := 137) hx hb dX10_stage_123 (by decide) ?_
    exact W.iret (v := z (954 + sn)) hx hb hr (fun t ht hW => ⟨_, rfl, (show z (954 + sn) = if wn = 0 then z (954 + sn) else if wn = 1 then zcntS z sn bz else zsumS z sn bz from (if_pos c_4).symm), ht⟩) (fun q h => by cases h) dX10_stage_137
  refine lv_aload_n hx hb dX10_stage_42 rfl (lv_at hl 3 rfl) ?_
  refine lv_iload hx hb dX10_stage_43 (lv_at hl 0 rfl) ?_
  refine lv_iconst (v := nI 3) hx hb dX10_stage_45 (by decide) ?_
  refine xkRi (xV (As := [.int (nI k), .int (nI 3)]) (rest := []) (wc := [(h0, .inr (10, [.ref zq, h0_past, h0_kept, h0_spare, h0_pastMany, h0_isKept, h0_text, h0_typed, h0_isUsed, h0_planBatch, h0_planUnits, h0_planCents, h0_planMany, h0_planGot, h0_planSubstitutes, h0_at, h0_fault, h0_entries, h0_entry])), (zq, .inl (cI, 1002, .inl z))]) hx hb hml hown hts (c_X10_ofBatch l dC dI cI cF cC cZ cQ cS h0 zq h0_past h0_kept h0_spare h0_pastMany h0_isKept h0_text h0_typed h0_isUsed h0_planBatch h0_planUnits h0_planCents h0_planMany h0_planGot h0_planSubstitutes h0_at h0_fault h0_entries h0_entry z k 3 (by omega) (by omega)) 2 gX10_stage_X10_ofBatch rfl rfl rfl hdV_X10_ofBatch ⟨Nat.le_of_ble_eq_true rfl, Nat.le_of_ble_eq_true rfl⟩ hN hK hP hD [0, 1] rfl rfl 10 0 rfl rfl rfl hl.1 rfl (Nat.le_of_ble_eq_true rfl) dX10_stage_46 ⟨Nat.zero_le _, Nat.zero_le _⟩) (fun r_6 hr_6 => ?_)
  obtain rfl : r_6 = zB z k 3 := hr_6
  refine lv_if_le (tgt := 66) hx hb dX10_stage_49 (by decide) (fun c_7 => ?_) (fun c_7 => ?_)
  · skip
    refine lv_iconst (v := nI 0) hx hb dX10_stage_66 (by decide) ?_
    refine lv_istore (lv' := [(6, .int (nI 0)), (5, .int (nI k)), (4, .int acu), (3, .int acc), (0, .ref h0), (1, .int (nI sn)), (2, .int (nI wn))]) hx hb dX10_stage_67 hl (by decide) rfl (fun ls hl => ?_)
    refine lv_iload_n hx hb dX10_stage_69 rfl (lv_at hl 3 rfl) ?_
    refine lv_iload hx hb dX10_stage_70 (lv_at hl 0 rfl) ?_
    refine xr_if0 (tgt := 79) hx hb (by decide) dX10_stage_72 (by decide) ?_
    refine lv_iconst (v := nI 0) hx hb dX10_stage_79 (by decide) ?_
    refine lv_iadd hx hb dX10_stage_80 ?_
    refine lv_istore_n (lv' := [(3, .int (acc + (nI 0))), (6, .int (nI 0)), (5, .int (nI k)), (4, .int acu), (0, .ref h0), (1, .int (nI sn)), (2, .int (nI wn))]) hx hb dX10_stage_81 rfl hl (by decide) rfl (fun ls hl => ?_)
    refine lv_iload hx hb dX10_stage_82 (lv_at hl 3 rfl) ?_
    refine lv_iload hx hb dX10_stage_84 (lv_at hl 1 rfl) ?_
    refine xr_if0 (tgt := 99) hx hb (by decide) dX10_stage_86 (by decide) ?_
    refine lv_iconst (v := nI 0) hx hb dX10_stage_99 (by decide) ?_
    refine lv_iadd hx hb dX10_stage_100 ?_
    refine lv_istore (lv' := [(4, .int (acu + (nI 0))), (3, .int (acc + (nI 0))), (6, .int (nI 0)), (5, .int (nI k)), (0, .ref h0), (1, .int (nI sn)), (2, .int (nI wn))]) hx hb dX10_stage_101 hl (by decide) rfl (fun ls hl => ?_)
    refine lv_iinc (v := nI (k + 1)) (lv' := [(5, .int (nI (k + 1))), (4, .int (acu + (nI 0))), (3, .int (acc + (nI 0))), (6, .int (nI 0)), (0, .ref h0), (1, .int (nI sn)), (2, .int (nI wn))]) hx hb dX10_stage_103 hl (k := 3) rfl (nI_inc1 k) (by decide) rfl (fun ls hl => ?_)
    refine lv_goto (tgt := 31) hx hb dX10_stage_106 (by decide) ?_
    exact ih_31 ((bz + 1) - (k + 1)) _ _ _ (show (bz + 1) - (k + 1) < (bz + 1) - k from by omega) ⟨(k + 1), (acc + (nI 0)), (acu + (nI 0)), ls, rfl, rfl, rfl, rfl, lv_sub hl [0, 1, 2, 4, 5, 6] rfl, (by omega), (by rw [hac]; exact (congrArg (zcntS z sn k + ·) (if_neg (fun q => q.1 c_7))).symm), (by rw [hau]; exact (congrArg (zsumS z sn k + ·) (if_neg (fun q => q.1 c_7))).symm)⟩
  refine lv_aload_n hx hb dX10_stage_52 rfl (lv_at hl 3 rfl) ?_
  refine lv_iload hx hb dX10_stage_53 (lv_at hl 0 rfl) ?_
  refine xkRi (xV (As := [.int (nI k)]) (rest := []) (wc := [(h0, .inr (10, [.ref zq, h0_past, h0_kept, h0_spare, h0_pastMany, h0_isKept, h0_text, h0_typed, h0_isUsed, h0_planBatch, h0_planUnits, h0_planCents, h0_planMany, h0_planGot, h0_planSubstitutes, h0_at, h0_fault, h0_entries, h0_entry])), (zq, .inl (cI, 1002, .inl z))]) hx hb hml hown hts (c_X10_stageOfBatch l dC dI cI cF cC cZ cQ cS h0 zq h0_past h0_kept h0_spare h0_pastMany h0_isKept h0_text h0_typed h0_isUsed h0_planBatch h0_planUnits h0_planCents h0_planMany h0_planGot h0_planSubstitutes h0_at h0_fault h0_entries h0_entry z k (by omega) (hgi k (by omega))) 1 gX10_stage_X10_stageOfBatch rfl rfl rfl hdV_X10_stageOfBatch ⟨Nat.le_of_ble_eq_true rfl, Nat.le_of_ble_eq_true rfl⟩ hN hK hP hD [0, 1] rfl rfl 10 0 rfl rfl rfl hl.1 rfl (Nat.le_of_ble_eq_true rfl) dX10_stage_55 ⟨Nat.zero_le _, Nat.zero_le _⟩) (fun r_8 hr_8 => ?_)
  obtain rfl : r_8 = nI (zstg z k) := hr_8
  have hst4 : zstg z k < 4 := xreach_lt _ _ _ _ _
  refine lv_iload_n hx hb dX10_stage_58 rfl (lv_at hl 4 rfl) ?_
  refine xr_ne_n (tgt := 66) hx hb (by omega) (by omega) dX10_stage_59 (by decide) (fun c_9 => ?_) (fun c_9 => ?_)
  · skip
    refine lv_iconst (v := nI 0) hx hb dX10_stage_66 (by decide) ?_
    refine lv_istore (lv' := [(6, .int (nI 0)), (5, .int (nI k)), (4, .int acu), (3, .int acc), (0, .ref h0), (1, .int (nI sn)), (2, .int (nI wn))]) hx hb dX10_stage_67 hl (by decide) rfl (fun ls hl => ?_)
    refine lv_iload_n hx hb dX10_stage_69 rfl (lv_at hl 3 rfl) ?_
    refine lv_iload hx hb dX10_stage_70 (lv_at hl 0 rfl) ?_
    refine xr_if0 (tgt := 79) hx hb (by decide) dX10_stage_72 (by decide) ?_
    refine lv_iconst (v := nI 0) hx hb dX10_stage_79 (by decide) ?_
    refine lv_iadd hx hb dX10_stage_80 ?_
    refine lv_istore_n (lv' := [(3, .int (acc + (nI 0))), (6, .int (nI 0)), (5, .int (nI k)), (4, .int acu), (0, .ref h0), (1, .int (nI sn)), (2, .int (nI wn))]) hx hb dX10_stage_81 rfl hl (by decide) rfl (fun ls hl => ?_)
    refine lv_iload hx hb dX10_stage_82 (lv_at hl 3 rfl) ?_
    refine lv_iload hx hb dX10_stage_84 (lv_at hl 1 rfl) ?_
    refine xr_if0 (tgt := 99) hx hb (by decide) dX10_stage_86 (by decide) ?_
    refine lv_iconst (v := nI 0) hx hb dX10_stage_99 (by decide) ?_
    refine lv_iadd hx hb dX10_stage_100 ?_
    refine lv_istore (lv' := [(4, .int (acu + (nI 0))), (3, .int (acc + (nI 0))), (6, .int (nI 0)), (5, .int (nI k)), (0, .ref h0), (1, .int (nI sn)), (2, .int (nI wn))]) hx hb dX10_stage_101 hl (by decide) rfl (fun ls hl => ?_)
    refine lv_iinc (v := nI (k + 1)) (lv' := [(5, .int (nI (k + 1))), (4, .int (acu + (nI 0))), (3, .int (acc + (nI 0))), (6, .int (nI 0)), (0, .ref h0), (1, .int (nI sn)), (2, .int (nI wn))]) hx hb dX10_stage_103 hl (k := 3) rfl (nI_inc1 k) (by decide) rfl (fun ls hl => ?_)
    refine lv_goto (tgt := 31) hx hb dX10_stage_106 (by decide) ?_
    exact ih_31 ((bz + 1) - (k + 1)) _ _ _ (show (bz + 1) - (k + 1) < (bz + 1) - k from by omega) ⟨(k + 1), (acc + (nI 0)), (acu + (nI 0)), ls, rfl, rfl, rfl, rfl, lv_sub hl [0, 1, 2, 4, 5, 6] rfl, (by omega), (by rw [hac]; exact (congrArg (zcntS z sn k + ·) (if_neg (fun q => c_9 q.2))).symm), (by rw [hau]; exact (congrArg (zsumS z sn k + ·) (if_neg (fun q => c_9 q.2))).symm)⟩
  refine lv_iconst (v := nI 1) hx hb dX10_stage_62 (by decide) ?_
  refine lv_goto (tgt := 67) hx hb dX10_stage_63 (by decide) ?_
  refine lv_istore (lv' := [(6, .int (nI 1)), (5, .int (nI k)), (4, .int acu), (3, .int acc), (0, .ref h0), (1, .int (nI sn)), (2, .int (nI wn))]) hx hb dX10_stage_67 hl (by decide) rfl (fun ls hl => ?_)
  refine lv_iload_n hx hb dX10_stage_69 rfl (lv_at hl 3 rfl) ?_
  refine lv_iload hx hb dX10_stage_70 (lv_at hl 0 rfl) ?_
  refine xr_if1 (tgt := 79) hx hb (by decide) dX10_stage_72 (by decide) ?_
  refine lv_iconst (v := nI 1) hx hb dX10_stage_75 (by decide) ?_
  refine lv_goto (tgt := 80) hx hb dX10_stage_76 (by decide) ?_
  refine lv_iadd hx hb dX10_stage_80 ?_
  refine lv_istore_n (lv' := [(3, .int (acc + (nI 1))), (6, .int (nI 1)), (5, .int (nI k)), (4, .int acu), (0, .ref h0), (1, .int (nI sn)), (2, .int (nI wn))]) hx hb dX10_stage_81 rfl hl (by decide) rfl (fun ls hl => ?_)
  refine lv_iload hx hb dX10_stage_82 (lv_at hl 3 rfl) ?_
  refine lv_iload hx hb dX10_stage_84 (lv_at hl 1 rfl) ?_
  refine xr_if1 (tgt := 99) hx hb (by decide) dX10_stage_86 (by decide) ?_
  refine lv_aload_n hx hb dX10_stage_89 rfl (lv_at hl 4 rfl) ?_
  refine lv_iload hx hb dX10_stage_90 (lv_at hl 2 rfl) ?_
  refine lv_iconst (v := nI 3) hx hb dX10_stage_92 (by decide) ?_
  refine xkRi (xV (As := [.int (nI k), .int (nI 3)]) (rest := [.int acu]) (wc := [(h0, .inr (10, [.ref zq, h0_past, h0_kept, h0_spare, h0_pastMany, h0_isKept, h0_text, h0_typed, h0_isUsed, h0_planBatch, h0_planUnits, h0_planCents, h0_planMany, h0_planGot, h0_planSubstitutes, h0_at, h0_fault, h0_entries, h0_entry])), (zq, .inl (cI, 1002, .inl z))]) hx hb hml hown hts (c_X10_ofBatch l dC dI cI cF cC cZ cQ cS h0 zq h0_past h0_kept h0_spare h0_pastMany h0_isKept h0_text h0_typed h0_isUsed h0_planBatch h0_planUnits h0_planCents h0_planMany h0_planGot h0_planSubstitutes h0_at h0_fault h0_entries h0_entry z k 3 (by omega) (by omega)) 2 gX10_stage_X10_ofBatch rfl rfl rfl hdV_X10_ofBatch ⟨Nat.le_of_ble_eq_true rfl, Nat.le_of_ble_eq_true rfl⟩ hN hK hP hD [0, 1] rfl rfl 10 0 rfl rfl rfl hl.1 rfl (Nat.le_of_ble_eq_true rfl) dX10_stage_93 ⟨Nat.zero_le _, Nat.zero_le _⟩) (fun r_10 hr_10 => ?_)
  obtain rfl : r_10 = zB z k 3 := hr_10
  refine lv_goto (tgt := 100) hx hb dX10_stage_96 (by decide) ?_
  refine lv_iadd hx hb dX10_stage_100 ?_
  refine lv_istore (lv' := [(4, .int (acu + (zB z k 3))), (3, .int (acc + (nI 1))), (6, .int (nI 1)), (5, .int (nI k)), (0, .ref h0), (1, .int (nI sn)), (2, .int (nI wn))]) hx hb dX10_stage_101 hl (by decide) rfl (fun ls hl => ?_)
  refine lv_iinc (v := nI (k + 1)) (lv' := [(5, .int (nI (k + 1))), (4, .int (acu + (zB z k 3))), (3, .int (acc + (nI 1))), (6, .int (nI 1)), (0, .ref h0), (1, .int (nI sn)), (2, .int (nI wn))]) hx hb dX10_stage_103 hl (k := 3) rfl (nI_inc1 k) (by decide) rfl (fun ls hl => ?_)
  refine lv_goto (tgt := 31) hx hb dX10_stage_106 (by decide) ?_
  exact ih_31 ((bz + 1) - (k + 1)) _ _ _ (show (bz + 1) - (k + 1) < (bz + 1) - k from by omega) ⟨(k + 1), (acc + (nI 1)), (acu + (zB z k 3)), ls, rfl, rfl, rfl, rfl, lv_sub hl [0, 1, 2, 4, 5, 6] rfl, (by omega), (by rw [hac]; exact (congrArg (zcntS z sn k + ·) (if_pos ⟨c_7, c_9⟩)).symm), (by rw [hau]; exact (congrArg (zsumS z sn k + ·) (if_pos ⟨c_7, c_9⟩)).symm)⟩
set_option maxHeartbeats 4000000 in
set_option maxRecDepth 100000 in
theorem c_X9_addSubstituteb (l : Launch) (dC : Nat → ClassId) (dI : Nat → Nat → Nat) (cI cF cC cZ cQ cS : ClassId) (x0 : Nat) (o0 : Nat) (x0_snapshot : Value) (x0_trial : Value) (x0_history : Value) (x0_filling : Value) (x0_delivery : Value) (x0_text : Value) (x0_textLength : Value) (x0_hasSnapshot : Value) (o1 : Nat) (o0_batches : Value) (o0_orders : Value) (o0_stages : Value) (o0_log : Value) (o0_settings : Value) (o0_rebate : Value) (o0_day : Value) (gz : Nat) (o1_price : Value) (o1_life : Value) (o4 : Nat) (o5 : Nat) (listed : Nat → Int32) (list : Nat → Int32) (kg : Nat) (ks : Nat) (lm : Nat) (pq : Int32) (hgz : gz ≤ 12) (hk : kg < gz) (hks : ks < gz) (hls : listed kg = nI lm) (hl4 : lm ≤ 4) (hbad : kg = ks ∨ ¬ (nI 0 ≤ pq ∧ pq ≤ nI lm)) : Met l yX9_addSubstitute wsX9_addSubstitute ({ frames := 2, cells := 0, slots := 0, locals := 43 }) (xPre (dC, dI) vwCl [.ref x0, .int (nI kg), .int (nI ks), .int pq] (xtys cI cF cC cZ cQ cS) [(x0, .inr (9, [.ref o0, x0_snapshot, x0_trial, x0_history, x0_filling, x0_delivery, x0_text, x0_textLength, x0_hasSnapshot])), (o0, .inr (8, [.ref o1, o0_batches, o0_orders, o0_stages, o0_log, o0_settings, o0_rebate, o0_day])), (o1, .inr (3, [.int (nI gz), o1_price, o1_life, .ref o4, .ref o5])), (o4, .inl (cI, 12, .inl listed)), (o5, .inl (cI, 48, .inl list))]) (vp_Si (fun r0 => r0 = (-2))) 0 0 (fun _ => False) := by
  refine Met.ofW (cc := cX9_addSubstitute) (maxL := 5) (ret := (some .int)) (by decide) rfl ?_
  intro p e s m args below meth c s₁ B hml hv
  obtain ⟨rfl, hP, hK, hD0, hN⟩ := hv
  have hx := B.exec
  have hb := B.bytes
  have hr := B.returns
  have hts := atoms_spec (ws := wsX9_addSubstitute) B.pre
  have hown : s.vm.findClass RX9 = some m.cls := findClass_of_methodNamed B.named
  have hlocks := B.notSynchronized
  have k_12 := hts (Cond.fieldLink RX9 12 "ShelfStages" "now" "LShelfStages$State;") (by decide +kernel)
  have k_51 := hts (Cond.fieldLink RX9 51 "ShelfStages$State" "goods" "LShelfStages$Goods;") (by decide +kernel)
  have k_77 := hts (Cond.fieldLink RX9 77 "ShelfStages$Goods" "listed" "[I") (by decide +kernel)
  have i_X3 : ∀ w ∈ wsX30, w ∈ wsX9_addSubstitute := by decide +kernel
  have i_X8 : ∀ w ∈ wsX80, w ∈ wsX9_addSubstitute := by decide +kernel
  have i_X9 : ∀ w ∈ wsX90, w ∈ wsX9_addSubstitute := by decide +kernel
  have hD := hD0
  have hl := lv_entry ([.ref x0, .int (nI kg), .int (nI ks), .int pq]) (n := 5) (Nat.le_of_ble_eq_true rfl)
  rw [lg_entry_eq]
  generalize (lg_sl ([.ref x0, .int (nI kg), .int (nI ks), .int pq]) ++ List.replicate (5 - (lg_sl ([.ref x0, .int (nI kg), .int (nI ks), .int pq])).length) Slot.unset).toArray = ls at hl ⊢
  have hl : lv_has ls 5 [(0, .ref x0), (1, .int (nI kg)), (2, .int (nI ks)), (3, .int pq)] := hl
  refine lv_aload_n hx hb dX9_addSubstitute_0 rfl (lv_at hl 0 rfl) ?_
  refine lv_iload_n hx hb dX9_addSubstitute_1 rfl (lv_at hl 1 rfl) ?_
  refine xkRi (xV (As := [.int (nI kg)]) (rest := []) (wc := [(x0, .inr (9, [.ref o0, x0_snapshot, x0_trial, x0_history, x0_filling, x0_delivery, x0_text, x0_textLength, x0_hasSnapshot])), (o0, .inr (8, [.ref o1, o0_batches, o0_orders, o0_stages, o0_log, o0_settings, o0_rebate, o0_day])), (o1, .inr (3, [.int (nI gz), o1_price, o1_life, .ref o4, .ref o5]))]) hx hb hml hown hts (c_X9_hasGood l dC dI cI cF cC cZ cQ cS x0 o0 x0_snapshot x0_trial x0_history x0_filling x0_delivery x0_text x0_textLength x0_hasSnapshot o1 o0_batches o0_orders o0_stages o0_log o0_settings o0_rebate o0_day gz o1_price o1_life (.ref o4) (.ref o5) (nI kg) (by omega)) 1 gX9_addSubstitute_X9_hasGood rfl rfl rfl hdV_X9_hasGood ⟨Nat.le_of_ble_eq_true rfl, Nat.le_of_ble_eq_true rfl⟩ hN hK hP hD [0, 1, 2] rfl rfl 9 0 rfl rfl rfl hl.1 rfl (Nat.le_of_ble_eq_true rfl) dX9_addSubstitute_2 ⟨Nat.zero_le _, Nat.zero_le _⟩) (fun r_1 hr_1 => ?_)
  have hr_1 : r_1 = (if xhas (nI kg) gz then nI 1 else nI 0) := hr_1
  obtain rfl : r_1 = nI 1 := hr_1.trans (if_pos (xhas_of hk (by omega)))
  refine xr_if1 (tgt := 16) hx hb (by decide) dX9_addSubstitute_5 (by decide) ?_
  refine lv_aload_n hx hb dX9_addSubstitute_8 rfl (lv_at hl 0 rfl) ?_
  refine lv_iload_n hx hb dX9_addSubstitute_9 rfl (lv_at hl 2 rfl) ?_
  refine xkRi (xV (As := [.int (nI ks)]) (rest := []) (wc := [(x0, .inr (9, [.ref o0, x0_snapshot, x0_trial, x0_history, x0_filling, x0_delivery, x0_text, x0_textLength, x0_hasSnapshot])), (o0, .inr (8, [.ref o1, o0_batches, o0_orders, o0_stages, o0_log, o0_settings, o0_rebate, o0_day])), (o1, .inr (3, [.int (nI gz), o1_price, o1_life, .ref o4, .ref o5]))]) hx hb hml hown hts (c_X9_hasGood l dC dI cI cF cC cZ cQ cS x0 o0 x0_snapshot x0_trial x0_history x0_filling x0_delivery x0_text x0_textLength x0_hasSnapshot o1 o0_batches o0_orders o0_stages o0_log o0_settings o0_rebate o0_day gz o1_price o1_life (.ref o4) (.ref o5) (nI ks) (by omega)) 1 gX9_addSubstitute_X9_hasGood rfl rfl rfl hdV_X9_hasGood ⟨Nat.le_of_ble_eq_true rfl, Nat.le_of_ble_eq_true rfl⟩ hN hK hP hD [0, 1, 2] rfl rfl 9 0 rfl rfl rfl hl.1 rfl (Nat.le_of_ble_eq_true rfl) dX9_addSubstitute_10 ⟨Nat.zero_le _, Nat.zero_le _⟩) (fun r_2 hr_2 => ?_)
  have hr_2 : r_2 = (if xhas (nI ks) gz then nI 1 else nI 0) := hr_2
  obtain rfl : r_2 = nI 1 := hr_2.trans (if_pos (xhas_of hks (by omega)))
  refine xr_ifn1 (tgt := 18) hx hb (by decide) dX9_addSubstitute_13 (by decide) ?_
  refine lv_aload_n hx hb dX9_addSubstitute_18 rfl (lv_at hl 0 rfl) ?_
  refine va_get (D := (dC, dI)) (ci := 9) (v := .ref o0) (C := RX9) (T := TX9) (N := 9) hx hb hts i_X9 hown hK hP 0 rfl rfl 0 (by decide) k_12 (fun _ h9 => h9) rfl dX9_addSubstitute_19 ?_
  refine va_get (D := (dC, dI)) (ci := 8) (v := .ref o1) (C := RX8) (T := TX8) (N := 8) hx hb hts i_X8 hown hK hP 1 rfl rfl 0 (by decide) k_51 (fun _ h9 => h9) rfl dX9_addSubstitute_22 ?_
  refine lv_astore (lv' := [(4, .ref o1), (0, .ref x0), (1, .int (nI kg)), (2, .int (nI ks)), (3, .int pq)]) hx hb dX9_addSubstitute_25 hl (by decide) rfl (fun ls hl => ?_)
  refine lv_iload_n hx hb dX9_addSubstitute_27 rfl (lv_at hl 2 rfl) ?_
  refine lv_iload_n hx hb dX9_addSubstitute_28 rfl (lv_at hl 3 rfl) ?_
  refine xr_eq_n (tgt := 47) hx hb (by omega) (by omega) dX9_addSubstitute_29 (by decide) (fun c_3 => ?_) (fun c_3 => ?_)
  · skip
    refine lv_bipush (v := (-2)) hx hb dX9_addSubstitute_47 (by decide) ?_
    exact W.iret (v := (-2)) hx hb hr (fun t ht hW => ⟨_, rfl, (show (-2) = (-2) from rfl), ht⟩) (fun q h => by cases h) dX9_addSubstitute_49
  refine lv_iload_n hx hb dX9_addSubstitute_32 rfl (lv_at hl 4 rfl) ?_
  refine lv_iconst (v := nI 0) hx hb dX9_addSubstitute_33 (by decide) ?_
  refine lv_aload hx hb dX9_addSubstitute_34 (lv_at hl 0 rfl) ?_
  refine va_get (D := (dC, dI)) (ci := 3) (v := .ref o4) (C := RX3) (T := TX3) (N := 5) hx hb hts i_X3 hown hK hP 2 rfl rfl 3 (by decide) k_77 (fun _ h9 => h9) rfl dX9_addSubstitute_36 ?_
  refine lv_iload_n hx hb dX9_addSubstitute_39 rfl (lv_at hl 2 rfl) ?_
  refine xr_iald hx hb hK hP 3 0 rfl rfl (i := kg) (by omega) (by decide) dX9_addSubstitute_40 ?_
  refine xr_top (show listed kg = nI lm from hls) ?_
  refine xkRi (xSs (Ws' := ([] : List Cond)) (As := [.int pq, .int (nI 0), .int (nI lm)]) (rest := []) (wc := []) hx hb hml hown hts (c_X9_within l dC dI cI cF cC cZ cQ cS pq (nI 0) (nI lm)) 3 (fun hR => va_cwS 3 hts gX9_addSubstitute_X9_within rfl rfl rfl hdN_X9_within hR) ⟨Nat.le_of_ble_eq_true rfl, Nat.le_of_ble_eq_true rfl⟩ hN hK hP hD [] rfl rfl rfl hl.1 rfl (Nat.le_of_ble_eq_true rfl) dX9_addSubstitute_41 ⟨Nat.zero_le _, Nat.zero_le _⟩) (fun r_4 hr_4 => ?_)
  have hr_4 : r_4 = (if (nI 0) ≤ pq ∧ pq ≤ (nI lm) then nI 1 else nI 0) := hr_4
  rcases xi_ite inferInstance hr_4 with ⟨c_5, hr_4⟩ | ⟨c_5, hr_4⟩
  · subst hr_4
    refine xr_ifn1 (tgt := 50) hx hb (by decide) dX9_addSubstitute_44 (by decide) ?_
    exact (hbad.elim c_3 (fun q => q c_5)).elim
  subst hr_4
  refine xr_ifn0 (tgt := 50) hx hb (by decide) dX9_addSubstitute_44 (by decide) ?_
  refine lv_bipush (v := (-2)) hx hb dX9_addSubstitute_47 (by decide) ?_
  exact W.iret (v := (-2)) hx hb hr (fun t ht hW => ⟨_, rfl, (show (-2) = (-2) from rfl), ht⟩) (fun q h => by cases h) dX9_addSubstitute_49
set_option maxHeartbeats 4000000 in
set_option maxRecDepth 100000 in
theorem c_X9_addSubstituten (l : Launch) (dC : Nat → ClassId) (dI : Nat → Nat → Nat) (cI cF cC cZ cQ cS : ClassId) (x0 : Nat) (o0 : Nat) (x0_snapshot : Value) (x0_trial : Value) (x0_history : Value) (x0_filling : Value) (x0_delivery : Value) (x0_text : Value) (x0_textLength : Value) (x0_hasSnapshot : Value) (o1 : Nat) (o0_batches : Value) (o0_orders : Value) (o0_stages : Value) (o0_log : Value) (o0_settings : Value) (o0_rebate : Value) (o0_day : Value) (gz : Nat) (o1_price : Value) (o1_life : Value) (o4 : Nat) (o5 : Nat) (listed : Nat → Int32) (list : Nat → Int32) (kg : Nat) (ks : Nat) (lm : Nat) (pl : Nat) (hgz : gz ≤ 12) (hk : kg < gz) (hks : ks < gz) (hls : listed kg = nI lm) (hl4 : lm ≤ 4) (hkk : ¬ kg = ks) (hw : nI 0 ≤ nI pl ∧ nI pl ≤ nI lm) (hex : ∃ j, j < lm ∧ list (kg * 4 + j) = nI ks) : Met l yX9_addSubstitute wsX9_addSubstitute ({ frames := 2, cells := 0, slots := 0, locals := 45 }) (xPre (dC, dI) vwCl [.ref x0, .int (nI kg), .int (nI ks), .int (nI pl)] (xtys cI cF cC cZ cQ cS) [(x0, .inr (9, [.ref o0, x0_snapshot, x0_trial, x0_history, x0_filling, x0_delivery, x0_text, x0_textLength, x0_hasSnapshot])), (o0, .inr (8, [.ref o1, o0_batches, o0_orders, o0_stages, o0_log, o0_settings, o0_rebate, o0_day])), (o1, .inr (3, [.int (nI gz), o1_price, o1_life, .ref o4, .ref o5])), (o4, .inl (cI, 12, .inl listed)), (o5, .inl (cI, 48, .inl list))]) (vp_Si (fun r0 => r0 = (-4))) 0 0 (fun _ => False) := by
  refine Met.ofW (cc := cX9_addSubstitute) (maxL := 5) (ret := (some .int)) (by decide) rfl ?_
  intro p e s m args below meth c s₁ B hml hv
  obtain ⟨rfl, hP, hK, hD0, hN⟩ := hv
  have hx := B.exec
  have hb := B.bytes
  have hr := B.returns
  have hts := atoms_spec (ws := wsX9_addSubstitute) B.pre
  have hown : s.vm.findClass RX9 = some m.cls := findClass_of_methodNamed B.named
  have hlocks := B.notSynchronized
  have k_12 := hts (Cond.fieldLink RX9 12 "ShelfStages" "now" "LShelfStages$State;") (by decide +kernel)
  have k_51 := hts (Cond.fieldLink RX9 51 "ShelfStages$State" "goods" "LShelfStages$Goods;") (by decide +kernel)
  have k_77 := hts (Cond.fieldLink RX9 77 "ShelfStages$Goods" "listed" "[I") (by decide +kernel)
  have i_X3 : ∀ w ∈ wsX30, w ∈ wsX9_addSubstitute := by decide +kernel
  have i_X8 : ∀ w ∈ wsX80, w ∈ wsX9_addSubstitute := by decide +kernel
  have i_X9 : ∀ w ∈ wsX90, w ∈ wsX9_addSubstitute := by decide +kernel
  have hD := hD0
  have hl := lv_entry ([.ref x0, .int (nI kg), .int (nI ks), .int (nI pl)]) (n := 5) (Nat.le_of_ble_eq_true rfl)
  rw [lg_entry_eq]
  generalize (lg_sl ([.ref x0, .int (nI kg), .int (nI ks), .int (nI pl)]) ++ List.replicate (5 - (lg_sl ([.ref x0, .int (nI kg), .int (nI ks), .int (nI pl)])).length) Slot.unset).toArray = ls at hl ⊢
  have hl : lv_has ls 5 [(0, .ref x0), (1, .int (nI kg)), (2, .int (nI ks)), (3, .int (nI pl))] := hl
  refine lv_aload_n hx hb dX9_addSubstitute_0 rfl (lv_at hl 0 rfl) ?_
  refine lv_iload_n hx hb dX9_addSubstitute_1 rfl (lv_at hl 1 rfl) ?_
  refine xkRi (xV (As := [.int (nI kg)]) (rest := []) (wc := [(x0, .inr (9, [.ref o0, x0_snapshot, x0_trial, x0_history, x0_filling, x0_delivery, x0_text, x0_textLength, x0_hasSnapshot])), (o0, .inr (8, [.ref o1, o0_batches, o0_orders, o0_stages, o0_log, o0_settings, o0_rebate, o0_day])), (o1, .inr (3, [.int (nI gz), o1_price, o1_life, .ref o4, .ref o5]))]) hx hb hml hown hts (c_X9_hasGood l dC dI cI cF cC cZ cQ cS x0 o0 x0_snapshot x0_trial x0_history x0_filling x0_delivery x0_text x0_textLength x0_hasSnapshot o1 o0_batches o0_orders o0_stages o0_log o0_settings o0_rebate o0_day gz o1_price o1_life (.ref o4) (.ref o5) (nI kg) (by omega)) 1 gX9_addSubstitute_X9_hasGood rfl rfl rfl hdV_X9_hasGood ⟨Nat.le_of_ble_eq_true rfl, Nat.le_of_ble_eq_true rfl⟩ hN hK hP hD [0, 1, 2] rfl rfl 9 0 rfl rfl rfl hl.1 rfl (Nat.le_of_ble_eq_true rfl) dX9_addSubstitute_2 ⟨Nat.zero_le _, Nat.zero_le _⟩) (fun r_1 hr_1 => ?_)
  have hr_1 : r_1 = (if xhas (nI kg) gz then nI 1 else nI 0) := hr_1
  obtain rfl : r_1 = nI 1 := hr_1.trans (if_pos (xhas_of hk (by omega)))
  refine xr_if1 (tgt := 16) hx hb (by decide) dX9_addSubstitute_5 (by decide) ?_
  refine lv_aload_n hx hb dX9_addSubstitute_8 rfl (lv_at hl 0 rfl) ?_
  refine lv_iload_n hx hb dX9_addSubstitute_9 rfl (lv_at hl 2 rfl) ?_
  refine xkRi (xV (As := [.int (nI ks)]) (rest := []) (wc := [(x0, .inr (9, [.ref o0, x0_snapshot, x0_trial, x0_history, x0_filling, x0_delivery, x0_text, x0_textLength, x0_hasSnapshot])), (o0, .inr (8, [.ref o1, o0_batches, o0_orders, o0_stages, o0_log, o0_settings, o0_rebate, o0_day])), (o1, .inr (3, [.int (nI gz), o1_price, o1_life, .ref o4, .ref o5]))]) hx hb hml hown hts (c_X9_hasGood l dC dI cI cF cC cZ cQ cS x0 o0 x0_snapshot x0_trial x0_history x0_filling x0_delivery x0_text x0_textLength x0_hasSnapshot o1 o0_batches o0_orders o0_stages o0_log o0_settings o0_rebate o0_day gz o1_price o1_life (.ref o4) (.ref o5) (nI ks) (by omega)) 1 gX9_addSubstitute_X9_hasGood rfl rfl rfl hdV_X9_hasGood ⟨Nat.le_of_ble_eq_true rfl, Nat.le_of_ble_eq_true rfl⟩ hN hK hP hD [0, 1, 2] rfl rfl 9 0 rfl rfl rfl hl.1 rfl (Nat.le_of_ble_eq_true rfl) dX9_addSubstitute_10 ⟨Nat.zero_le _, Nat.zero_le _⟩) (fun r_2 hr_2 => ?_)
  have hr_2 : r_2 = (if xhas (nI ks) gz then nI 1 else nI 0) := hr_2
  obtain rfl : r_2 = nI 1 := hr_2.trans (if_pos (xhas_of hks (by omega)))
  refine xr_ifn1 (tgt := 18) hx hb (by decide) dX9_addSubstitute_13 (by decide) ?_
  refine lv_aload_n hx hb dX9_addSubstitute_18 rfl (lv_at hl 0 rfl) ?_
  refine va_get (D := (dC, dI)) (ci := 9) (v := .ref o0) (C := RX9) (T := TX9) (N := 9) hx hb hts i_X9 hown hK hP 0 rfl rfl 0 (by decide) k_12 (fun _ h9 => h9) rfl dX9_addSubstitute_19 ?_
  refine va_get (D := (dC, dI)) (ci := 8) (v := .ref o1) (C := RX8) (T := TX8) (N := 8) hx hb hts i_X8 hown hK hP 1 rfl rfl 0 (by decide) k_51 (fun _ h9 => h9) rfl dX9_addSubstitute_22 ?_
  refine lv_astore (lv' := [(4, .ref o1), (0, .ref x0), (1, .int (nI kg)), (2, .int (nI ks)), (3, .int (nI pl))]) hx hb dX9_addSubstitute_25 hl (by decide) rfl (fun ls hl => ?_)
  refine lv_iload_n hx hb dX9_addSubstitute_27 rfl (lv_at hl 2 rfl) ?_
  refine lv_iload_n hx hb dX9_addSubstitute_28 rfl (lv_at hl 3 rfl) ?_
  refine xr_eq_n (tgt := 47) hx hb (by omega) (by omega) dX9_addSubstitute_29 (by decide) (fun c_3 => False.elim (by omega)) (fun c_3 => ?_)
  refine lv_iload_n hx hb dX9_addSubstitute_32 rfl (lv_at hl 4 rfl) ?_
  refine lv_iconst (v := nI 0) hx hb dX9_addSubstitute_33 (by decide) ?_
  refine lv_aload hx hb dX9_addSubstitute_34 (lv_at hl 0 rfl) ?_
  refine va_get (D := (dC, dI)) (ci := 3) (v := .ref o4) (C := RX3) (T := TX3) (N := 5) hx hb hts i_X3 hown hK hP 2 rfl rfl 3 (by decide) k_77 (fun _ h9 => h9) rfl dX9_addSubstitute_36 ?_
  refine lv_iload_n hx hb dX9_addSubstitute_39 rfl (lv_at hl 2 rfl) ?_
  refine xr_iald hx hb hK hP 3 0 rfl rfl (i := kg) (by omega) (by decide) dX9_addSubstitute_40 ?_
  refine xr_top (show listed kg = nI lm from hls) ?_
  refine xkRi (xSs (Ws' := ([] : List Cond)) (As := [.int (nI pl), .int (nI 0), .int (nI lm)]) (rest := []) (wc := []) hx hb hml hown hts (c_X9_within l dC dI cI cF cC cZ cQ cS (nI pl) (nI 0) (nI lm)) 3 (fun hR => va_cwS 3 hts gX9_addSubstitute_X9_within rfl rfl rfl hdN_X9_within hR) ⟨Nat.le_of_ble_eq_true rfl, Nat.le_of_ble_eq_true rfl⟩ hN hK hP hD [] rfl rfl rfl hl.1 rfl (Nat.le_of_ble_eq_true rfl) dX9_addSubstitute_41 ⟨Nat.zero_le _, Nat.zero_le _⟩) (fun r_4 hr_4 => ?_)
  have hr_4 : r_4 = (if (nI 0) ≤ (nI pl) ∧ (nI pl) ≤ (nI lm) then nI 1 else nI 0) := hr_4
  obtain rfl : r_4 = nI 1 := hr_4.trans (if_pos hw)
  refine xr_ifn1 (tgt := 50) hx hb (by decide) dX9_addSubstitute_44 (by decide) ?_
  refine lv_aload hx hb dX9_addSubstitute_50 (lv_at hl 0 rfl) ?_
  refine lv_iload_n hx hb dX9_addSubstitute_52 rfl (lv_at hl 2 rfl) ?_
  refine lv_iload_n hx hb dX9_addSubstitute_53 rfl (lv_at hl 3 rfl) ?_
  refine xkRi (xV (As := [.int (nI kg), .int (nI ks)]) (rest := []) (wc := [(o1, .inr (3, [.int (nI gz), o1_price, o1_life, .ref o4, .ref o5])), (o4, .inl (cI, 12, .inl listed)), (o5, .inl (cI, 48, .inl list))]) hx hb hml hown hts (c_X3_lists l dC dI cI cF cC cZ cQ cS o1 (.int (nI gz)) o1_price o1_life o4 o5 listed list kg lm (nI ks) (by omega) hls hl4) 2 gX9_addSubstitute_X3_lists rfl rfl rfl hdV_X3_lists ⟨Nat.le_of_ble_eq_true rfl, Nat.le_of_ble_eq_true rfl⟩ hN hK hP hD [2, 3, 4] rfl rfl 3 2 rfl rfl rfl hl.1 rfl (Nat.le_of_ble_eq_true rfl) dX9_addSubstitute_54 ⟨Nat.zero_le _, Nat.zero_le _⟩) (fun r_5 hr_5 => ?_)
  have hr_5 : r_5 = (if ∃ j, j < lm ∧ list (kg * 4 + j) = (nI ks) then nI 1 else nI 0) := hr_5
  obtain rfl : r_5 = nI 1 := hr_5.trans (if_pos hex)
  refine xr_if1 (tgt := 63) hx hb (by decide) dX9_addSubstitute_57 (by decide) ?_
  refine lv_bipush (v := (-4)) hx hb dX9_addSubstitute_60 (by decide) ?_
  exact W.iret (v := (-4)) hx hb hr (fun t ht hW => ⟨_, rfl, (show (-4) = (-4) from rfl), ht⟩) (fun q h => by cases h) dX9_addSubstitute_62
set_option maxHeartbeats 4000000 in
set_option maxRecDepth 100000 in
theorem c_X9_addSubstitutef (l : Launch) (dC : Nat → ClassId) (dI : Nat → Nat → Nat) (cI cF cC cZ cQ cS : ClassId) (x0 : Nat) (o0 : Nat) (x0_snapshot : Value) (x0_trial : Value) (x0_history : Value) (x0_filling : Value) (x0_delivery : Value) (x0_text : Value) (x0_textLength : Value) (x0_hasSnapshot : Value) (o1 : Nat) (o0_batches : Value) (o0_orders : Value) (o0_stages : Value) (o0_log : Value) (o0_settings : Value) (o0_rebate : Value) (o0_day : Value) (gz : Nat) (o1_price : Value) (o1_life : Value) (o4 : Nat) (o5 : Nat) (listed : Nat → Int32) (list : Nat → Int32) (kg : Nat) (ks : Nat) (lm : Nat) (pl : Nat) (hgz : gz ≤ 12) (hk : kg < gz) (hks : ks < gz) (hls : listed kg = nI lm) (hl4 : lm ≤ 4) (hkk : ¬ kg = ks) (hw : nI 0 ≤ nI pl ∧ nI pl ≤ nI lm) (hex : ¬ (∃ j, j < lm ∧ list (kg * 4 + j) = nI ks)) (hf4 : lm = 4) : Met l yX9_addSubstitute wsX9_addSubstitute ({ frames := 2, cells := 0, slots := 0, locals := 45 }) (xPre (dC, dI) vwCl [.ref x0, .int (nI kg), .int (nI ks), .int (nI pl)] (xtys cI cF cC cZ cQ cS) [(x0, .inr (9, [.ref o0, x0_snapshot, x0_trial, x0_history, x0_filling, x0_delivery, x0_text, x0_textLength, x0_hasSnapshot])), (o0, .inr (8, [.ref o1, o0_batches, o0_orders, o0_stages, o0_log, o0_settings, o0_rebate, o0_day])), (o1, .inr (3, [.int (nI gz), o1_price, o1_life, .ref o4, .ref o5])), (o4, .inl (cI, 12, .inl listed)), (o5, .inl (cI, 48, .inl list))]) (vp_Si (fun r0 => r0 = (-3))) 0 0 (fun _ => False) := by
  refine Met.ofW (cc := cX9_addSubstitute) (maxL := 5) (ret := (some .int)) (by decide) rfl ?_
  intro p e s m args below meth c s₁ B hml hv
  obtain ⟨rfl, hP, hK, hD0, hN⟩ := hv
  have hx := B.exec
  have hb := B.bytes
  have hr := B.returns
  have hts := atoms_spec (ws := wsX9_addSubstitute) B.pre
  have hown : s.vm.findClass RX9 = some m.cls := findClass_of_methodNamed B.named
  have hlocks := B.notSynchronized
  have k_12 := hts (Cond.fieldLink RX9 12 "ShelfStages" "now" "LShelfStages$State;") (by decide +kernel)
  have k_51 := hts (Cond.fieldLink RX9 51 "ShelfStages$State" "goods" "LShelfStages$Goods;") (by decide +kernel)
  have k_77 := hts (Cond.fieldLink RX9 77 "ShelfStages$Goods" "listed" "[I") (by decide +kernel)
  have i_X3 : ∀ w ∈ wsX30, w ∈ wsX9_addSubstitute := by decide +kernel
  have i_X8 : ∀ w ∈ wsX80, w ∈ wsX9_addSubstitute := by decide +kernel
  have i_X9 : ∀ w ∈ wsX90, w ∈ wsX9_addSubstitute := by decide +kernel
  have hD := hD0
  have hl := lv_entry ([.ref x0, .int (nI kg), .int (nI ks), .int (nI pl)]) (n := 5) (Nat.le_of_ble_eq_true rfl)
  rw [lg_entry_eq]
  generalize (lg_sl ([.ref x0, .int (nI kg), .int (nI ks), .int (nI pl)]) ++ List.replicate (5 - (lg_sl ([.ref x0, .int (nI kg), .int (nI ks), .int (nI pl)])).length) Slot.unset).toArray = ls at hl ⊢
  have hl : lv_has ls 5 [(0, .ref x0), (1, .int (nI kg)), (2, .int (nI ks)), (3, .int (nI pl))] := hl
  refine lv_aload_n hx hb dX9_addSubstitute_0 rfl (lv_at hl 0 rfl) ?_
  refine lv_iload_n hx hb dX9_addSubstitute_1 rfl (lv_at hl 1 rfl) ?_
  refine xkRi (xV (As := [.int (nI kg)]) (rest := []) (wc := [(x0, .inr (9, [.ref o0, x0_snapshot, x0_trial, x0_history, x0_filling, x0_delivery, x0_text, x0_textLength, x0_hasSnapshot])), (o0, .inr (8, [.ref o1, o0_batches, o0_orders, o0_stages, o0_log, o0_settings, o0_rebate, o0_day])), (o1, .inr (3, [.int (nI gz), o1_price, o1_life, .ref o4, .ref o5]))]) hx hb hml hown hts (c_X9_hasGood l dC dI cI cF cC cZ cQ cS x0 o0 x0_snapshot x0_trial x0_history x0_filling x0_delivery x0_text x0_textLength x0_hasSnapshot o1 o0_batches o0_orders o0_stages o0_log o0_settings o0_rebate o0_day gz o1_price o1_life (.ref o4) (.ref o5) (nI kg) (by omega)) 1 gX9_addSubstitute_X9_hasGood rfl rfl rfl hdV_X9_hasGood ⟨Nat.le_of_ble_eq_true rfl, Nat.le_of_ble_eq_true rfl⟩ hN hK hP hD [0, 1, 2] rfl rfl 9 0 rfl rfl rfl hl.1 rfl (Nat.le_of_ble_eq_true rfl) dX9_addSubstitute_2 ⟨Nat.zero_le _, Nat.zero_le _⟩) (fun r_1 hr_1 => ?_)
  have hr_1 : r_1 = (if xhas (nI kg) gz then nI 1 else nI 0) := hr_1
  obtain rfl : r_1 = nI 1 := hr_1.trans (if_pos (xhas_of hk (by omega)))
  refine xr_if1 (tgt := 16) hx hb (by decide) dX9_addSubstitute_5 (by decide) ?_
  refine lv_aload_n hx hb dX9_addSubstitute_8 rfl (lv_at hl 0 rfl) ?_
  refine lv_iload_n hx hb dX9_addSubstitute_9 rfl (lv_at hl 2 rfl) ?_
  refine xkRi (xV (As := [.int (nI ks)]) (rest := []) (wc := [(x0, .inr (9, [.ref o0, x0_snapshot, x0_trial, x0_history, x0_filling, x0_delivery, x0_text, x0_textLength, x0_hasSnapshot])), (o0, .inr (8, [.ref o1, o0_batches, o0_orders, o0_stages, o0_log, o0_settings, o0_rebate, o0_day])), (o1, .inr (3, [.int (nI gz), o1_price, o1_life, .ref o4, .ref o5]))]) hx hb hml hown hts (c_X9_hasGood l dC dI cI cF cC cZ cQ cS x0 o0 x0_snapshot x0_trial x0_history x0_filling x0_delivery x0_text x0_textLength x0_hasSnapshot o1 o0_batches o0_orders o0_stages o0_log o0_settings o0_rebate o0_day gz o1_price o1_life (.ref o4) (.ref o5) (nI ks) (by omega)) 1 gX9_addSubstitute_X9_hasGood rfl rfl rfl hdV_X9_hasGood ⟨Nat.le_of_ble_eq_true rfl, Nat.le_of_ble_eq_true rfl⟩ hN hK hP hD [0, 1, 2] rfl rfl 9 0 rfl rfl rfl hl.1 rfl (Nat.le_of_ble_eq_true rfl) dX9_addSubstitute_10 ⟨Nat.zero_le _, Nat.zero_le _⟩) (fun r_2 hr_2 => ?_)
  have hr_2 : r_2 = (if xhas (nI ks) gz then nI 1 else nI 0) := hr_2
  obtain rfl : r_2 = nI 1 := hr_2.trans (if_pos (xhas_of hks (by omega)))
  refine xr_ifn1 (tgt := 18) hx hb (by decide) dX9_addSubstitute_13 (by decide) ?_
  refine lv_aload_n hx hb dX9_addSubstitute_18 rfl (lv_at hl 0 rfl) ?_
  refine va_get (D := (dC, dI)) (ci := 9) (v := .ref o0) (C := RX9) (T := TX9) (N := 9) hx hb hts i_X9 hown hK hP 0 rfl rfl 0 (by decide) k_12 (fun _ h9 => h9) rfl dX9_addSubstitute_19 ?_
  refine va_get (D := (dC, dI)) (ci := 8) (v := .ref o1) (C := RX8) (T := TX8) (N := 8) hx hb hts i_X8 hown hK hP 1 rfl rfl 0 (by decide) k_51 (fun _ h9 => h9) rfl dX9_addSubstitute_22 ?_
  refine lv_astore (lv' := [(4, .ref o1), (0, .ref x0), (1, .int (nI kg)), (2, .int (nI ks)), (3, .int (nI pl))]) hx hb dX9_addSubstitute_25 hl (by decide) rfl (fun ls hl => ?_)
  refine lv_iload_n hx hb dX9_addSubstitute_27 rfl (lv_at hl 2 rfl) ?_
  refine lv_iload_n hx hb dX9_addSubstitute_28 rfl (lv_at hl 3 rfl) ?_
  refine xr_eq_n (tgt := 47) hx hb (by omega) (by omega) dX9_addSubstitute_29 (by decide) (fun c_3 => False.elim (by omega)) (fun c_3 => ?_)
  refine lv_iload_n hx hb dX9_addSubstitute_32 rfl (lv_at hl 4 rfl) ?_
  refine lv_iconst (v := nI 0) hx hb dX9_addSubstitute_33 (by decide) ?_
  refine lv_aload hx hb dX9_addSubstitute_34 (lv_at hl 0 rfl) ?_
  refine va_get (D := (dC, dI)) (ci := 3) (v := .ref o4) (C := RX3) (T := TX3) (N := 5) hx hb hts i_X3 hown hK hP 2 rfl rfl 3 (by decide) k_77 (fun _ h9 => h9) rfl dX9_addSubstitute_36 ?_
  refine lv_iload_n hx hb dX9_addSubstitute_39 rfl (lv_at hl 2 rfl) ?_
  refine xr_iald hx hb hK hP 3 0 rfl rfl (i := kg) (by omega) (by decide) dX9_addSubstitute_40 ?_
  refine xr_top (show listed kg = nI lm from hls) ?_
  refine xkRi (xSs (Ws' := ([] : List Cond)) (As := [.int (nI pl), .int (nI 0), .int (nI lm)]) (rest := []) (wc := []) hx hb hml hown hts (c_X9_within l dC dI cI cF cC cZ cQ cS (nI pl) (nI 0) (nI lm)) 3 (fun hR => va_cwS 3 hts gX9_addSubstitute_X9_within rfl rfl rfl hdN_X9_within hR) ⟨Nat.le_of_ble_eq_true rfl, Nat.le_of_ble_eq_true rfl⟩ hN hK hP hD [] rfl rfl rfl hl.1 rfl (Nat.le_of_ble_eq_true rfl) dX9_addSubstitute_41 ⟨Nat.zero_le _, Nat.zero_le _⟩) (fun r_4 hr_4 => ?_)
  have hr_4 : r_4 = (if (nI 0) ≤ (nI pl) ∧ (nI pl) ≤ (nI lm) then nI 1 else nI 0) := hr_4
  obtain rfl : r_4 = nI 1 := hr_4.trans (if_pos hw)
  refine xr_ifn1 (tgt := 50) hx hb (by decide) dX9_addSubstitute_44 (by decide) ?_
  refine lv_aload hx hb dX9_addSubstitute_50 (lv_at hl 0 rfl) ?_
  refine lv_iload_n hx hb dX9_addSubstitute_52 rfl (lv_at hl 2 rfl) ?_
  refine lv_iload_n hx hb dX9_addSubstitute_53 rfl (lv_at hl 3 rfl) ?_
  refine xkRi (xV (As := [.int (nI kg), .int (nI ks)]) (rest := []) (wc := [(o1, .inr (3, [.int (nI gz), o1_price, o1_life, .ref o4, .ref o5])), (o4, .inl (cI, 12, .inl listed)), (o5, .inl (cI, 48, .inl list))]) hx hb hml hown hts (c_X3_lists l dC dI cI cF cC cZ cQ cS o1 (.int (nI gz)) o1_price o1_life o4 o5 listed list kg lm (nI ks) (by omega) hls hl4) 2 gX9_addSubstitute_X3_lists rfl rfl rfl hdV_X3_lists ⟨Nat.le_of_ble_eq_true rfl, Nat.le_of_ble_eq_true rfl⟩ hN hK hP hD [2, 3, 4] rfl rfl 3 2 rfl rfl rfl hl.1 rfl (Nat.le_of_ble_eq_true rfl) dX9_addSubstitute_54 ⟨Nat.zero_le _, Nat.zero_le _⟩) (fun r_5 hr_5 => ?_)
  have hr_5 : r_5 = (if ∃ j, j < lm ∧ list (kg * 4 + j) = (nI ks) then nI 1 else nI 0) := hr_5
  obtain rfl : r_5 = nI 0 := hr_5.trans (if_neg hex)
  refine xr_if0 (tgt := 63) hx hb (by decide) dX9_addSubstitute_57 (by decide) ?_
  refine lv_aload hx hb dX9_addSubstitute_63 (lv_at hl 0 rfl) ?_
  refine va_get (D := (dC, dI)) (ci := 3) (v := .ref o4) (C := RX3) (T := TX3) (N := 5) hx hb hts i_X3 hown hK hP 2 rfl rfl 3 (by decide) k_77 (fun _ h9 => h9) rfl dX9_addSubstitute_65 ?_
  refine lv_iload_n hx hb dX9_addSubstitute_68 rfl (lv_at hl 2 rfl) ?_
  refine xr_iald hx hb hK hP 3 0 rfl rfl (i := kg) (by omega) (by decide) dX9_addSubstitute_69 ?_
  refine xr_top (show listed kg = nI lm from hls) ?_
  refine lv_iconst (v := nI 4) hx hb dX9_addSubstitute_70 (by decide) ?_
  refine xr_lt_n (tgt := 77) hx hb (by omega) (by omega) dX9_addSubstitute_71 (by decide) (fun c_6 => False.elim (by omega)) (fun c_6 => ?_)
  refine lv_bipush (v := (-3)) hx hb dX9_addSubstitute_74 (by decide) ?_
  exact W.iret (v := (-3)) hx hb hr (fun t ht hW => ⟨_, rfl, (show (-3) = (-3) from rfl), ht⟩) (fun q h => by cases h) dX9_addSubstitute_76
set_option maxHeartbeats 4000000 in
set_option maxRecDepth 100000 in
theorem c_X10_addSubstituteb (l : Launch) (dC : Nat → ClassId) (dI : Nat → Nat → Nat) (cI cF cC cZ cQ cS : ClassId) (h0 : Nat) (zq : Nat) (h0_past : Value) (h0_kept : Value) (h0_spare : Value) (h0_pastMany : Value) (h0_isKept : Value) (h0_text : Value) (h0_typed : Value) (h0_isUsed : Value) (h0_planBatch : Value) (h0_planUnits : Value) (h0_planCents : Value) (h0_planMany : Value) (h0_planGot : Value) (h0_planSubstitutes : Value) (h0_at : Value) (h0_fault : Value) (h0_entries : Value) (h0_entry : Value) (z : Nat → Int32) (gz : Nat) (kg : Nat) (ks : Nat) (lm : Nat) (pq : Int32) (hz1 : z 1 = nI gz) (hgz : gz ≤ 12) (hk : kg < gz) (hks : ks < gz) (hls : zG z kg 2 = nI lm) (hl4 : lm ≤ 4) (hbad : kg = ks ∨ ¬ (nI 0 ≤ pq ∧ pq ≤ nI lm)) : Met l yX10_addSubstitute wsX10_addSubstitute ({ frames := 1, cells := 0, slots := 0, locals := 22 }) (xPre (dC, dI) vwCl [.ref h0, .int (nI kg), .int (nI ks), .int pq] (xtys cI cF cC cZ cQ cS) [(h0, .inr (10, [.ref zq, h0_past, h0_kept, h0_spare, h0_pastMany, h0_isKept, h0_text, h0_typed, h0_isUsed, h0_planBatch, h0_planUnits, h0_planCents, h0_planMany, h0_planGot, h0_planSubstitutes, h0_at, h0_fault, h0_entries, h0_entry])), (zq, .inl (cI, 1002, .inl z))]) (vp_Si (fun r0 => r0 = (-2))) 0 0 (fun _ => False) := by
  refine Met.ofW (cc := cX10_addSubstitute) (maxL := 7) (ret := (some .int)) (by decide) rfl ?_
  intro p e s m args below meth c s₁ B hml hv
  obtain ⟨rfl, hP, hK, hD0, hN⟩ := hv
  have hx := B.exec
  have hb := B.bytes
  have hr := B.returns
  have hts := atoms_spec (ws := wsX10_addSubstitute) B.pre
  have hown : s.vm.findClass RX10 = some m.cls := findClass_of_methodNamed B.named
  have hlocks := B.notSynchronized
  have hD := hD0
  have hl := lv_entry ([.ref h0, .int (nI kg), .int (nI ks), .int pq]) (n := 7) (Nat.le_of_ble_eq_true rfl)
  rw [lg_entry_eq]
  generalize (lg_sl ([.ref h0, .int (nI kg), .int (nI ks), .int pq]) ++ List.replicate (7 - (lg_sl ([.ref h0, .int (nI kg), .int (nI ks), .int pq])).length) Slot.unset).toArray = ls at hl ⊢
  have hl : lv_has ls 7 [(0, .ref h0), (1, .int (nI kg)), (2, .int (nI ks)), (3, .int pq)] := hl
  refine lv_aload_n hx hb dX10_addSubstitute_0 rfl (lv_at hl 0 rfl) ?_
  refine lv_iload_n hx hb dX10_addSubstitute_1 rfl (lv_at hl 1 rfl) ?_
  refine xkRi (xV (As := [.int (nI kg)]) (rest := []) (wc := [(h0, .inr (10, [.ref zq, h0_past, h0_kept, h0_spare, h0_pastMany, h0_isKept, h0_text, h0_typed, h0_isUsed, h0_planBatch, h0_planUnits, h0_planCents, h0_planMany, h0_planGot, h0_planSubstitutes, h0_at, h0_fault, h0_entries, h0_entry])), (zq, .inl (cI, 1002, .inl z))]) hx hb hml hown hts (c_X10_isGood l dC dI cI cF cC cZ cQ cS h0 zq h0_past h0_kept h0_spare h0_pastMany h0_isKept h0_text h0_typed h0_isUsed h0_planBatch h0_planUnits h0_planCents h0_planMany h0_planGot h0_planSubstitutes h0_at h0_fault h0_entries h0_entry z (nI kg) gz (by omega) (by omega)) 1 gX10_addSubstitute_X10_isGood rfl rfl rfl hdV_X10_isGood ⟨Nat.le_of_ble_eq_true rfl, Nat.le_of_ble_eq_true rfl⟩ hN hK hP hD [0, 1] rfl rfl 10 0 rfl rfl rfl hl.1 rfl (Nat.le_of_ble_eq_true rfl) dX10_addSubstitute_2 ⟨Nat.zero_le _, Nat.zero_le _⟩) (fun r_1 hr_1 => ?_)
  have hr_1 : r_1 = (if xhas (nI kg) gz then nI 1 else nI 0) := hr_1
  obtain rfl : r_1 = nI 1 := hr_1.trans (if_pos (xhas_of hk (by omega)))
  refine xr_if1 (tgt := 16) hx hb (by decide) dX10_addSubstitute_5 (by decide) ?_
  refine lv_aload_n hx hb dX10_addSubstitute_8 rfl (lv_at hl 0 rfl) ?_
  refine lv_iload_n hx hb dX10_addSubstitute_9 rfl (lv_at hl 2 rfl) ?_
  refine xkRi (xV (As := [.int (nI ks)]) (rest := []) (wc := [(h0, .inr (10, [.ref zq, h0_past, h0_kept, h0_spare, h0_pastMany, h0_isKept, h0_text, h0_typed, h0_isUsed, h0_planBatch, h0_planUnits, h0_planCents, h0_planMany, h0_planGot, h0_planSubstitutes, h0_at, h0_fault, h0_entries, h0_entry])), (zq, .inl (cI, 1002, .inl z))]) hx hb hml hown hts (c_X10_isGood l dC dI cI cF cC cZ cQ cS h0 zq h0_past h0_kept h0_spare h0_pastMany h0_isKept h0_text h0_typed h0_isUsed h0_planBatch h0_planUnits h0_planCents h0_planMany h0_planGot h0_planSubstitutes h0_at h0_fault h0_entries h0_entry z (nI ks) gz (by omega) (by omega)) 1 gX10_addSubstitute_X10_isGood rfl rfl rfl hdV_X10_isGood ⟨Nat.le_of_ble_eq_true rfl, Nat.le_of_ble_eq_true rfl⟩ hN hK hP hD [0, 1] rfl rfl 10 0 rfl rfl rfl hl.1 rfl (Nat.le_of_ble_eq_true rfl) dX10_addSubstitute_10 ⟨Nat.zero_le _, Nat.zero_le _⟩) (fun r_2 hr_2 => ?_)
  have hr_2 : r_2 = (if xhas (nI ks) gz then nI 1 else nI 0) := hr_2
  obtain rfl : r_2 = nI 1 := hr_2.trans (if_pos (xhas_of hks (by omega)))
  refine xr_ifn1 (tgt := 18) hx hb (by decide) dX10_addSubstitute_13 (by decide) ?_
  refine lv_aload_n hx hb dX10_addSubstitute_18 rfl (lv_at hl 0 rfl) ?_
  refine lv_iload_n hx hb dX10_addSubstitute_19 rfl (lv_at hl 1 rfl) ?_
  refine lv_iconst (v := nI 2) hx hb dX10_addSubstitute_20 (by decide) ?_
  refine xkRi (xV (As := [.int (nI kg), .int (nI 2)]) (rest := []) (wc := [(h0, .inr (10, [.ref zq, h0_past, h0_kept, h0_spare, h0_pastMany, h0_isKept, h0_text, h0_typed, h0_isUsed, h0_planBatch, h0_planUnits, h0_planCents, h0_planMany, h0_planGot, h0_planSubstitutes, h0_at, h0_fault, h0_entries, h0_entry])), (zq, .inl (cI, 1002, .inl z))]) hx hb hml hown hts (c_X10_ofGood l dC dI cI cF cC cZ cQ cS h0 zq h0_past h0_kept h0_spare h0_pastMany h0_isKept h0_text h0_typed h0_isUsed h0_planBatch h0_planUnits h0_planCents h0_planMany h0_planGot h0_planSubstitutes h0_at h0_fault h0_entries h0_entry z kg 2 (by omega) (by omega)) 2 gX10_addSubstitute_X10_ofGood rfl rfl rfl hdV_X10_ofGood ⟨Nat.le_of_ble_eq_true rfl, Nat.le_of_ble_eq_true rfl⟩ hN hK hP hD [0, 1] rfl rfl 10 0 rfl rfl rfl hl.1 rfl (Nat.le_of_ble_eq_true rfl) dX10_addSubstitute_21 ⟨Nat.zero_le _, Nat.zero_le _⟩) (fun r_3 hr_3 => ?_)
  obtain rfl : r_3 = zG z kg 2 := hr_3
  refine xr_top (show zG z kg 2 = nI lm from hls) ?_
  refine lv_istore (lv' := [(4, .int (nI lm)), (0, .ref h0), (1, .int (nI kg)), (2, .int (nI ks)), (3, .int pq)]) hx hb dX10_addSubstitute_24 hl (by decide) rfl (fun ls hl => ?_)
  refine lv_iload_n hx hb dX10_addSubstitute_26 rfl (lv_at hl 2 rfl) ?_
  refine lv_iload_n hx hb dX10_addSubstitute_27 rfl (lv_at hl 3 rfl) ?_
  refine xr_eq_n (tgt := 41) hx hb (by omega) (by omega) dX10_addSubstitute_28 (by decide) (fun c_4 => ?_) (fun c_4 => ?_)
  · skip
    refine lv_bipush (v := (-2)) hx hb dX10_addSubstitute_41 (by decide) ?_
    exact W.iret (v := (-2)) hx hb hr (fun t ht hW => ⟨_, rfl, (show (-2) = (-2) from rfl), ht⟩) (fun q h => by cases h) dX10_addSubstitute_43
  refine lv_iload_n hx hb dX10_addSubstitute_31 rfl (lv_at hl 4 rfl) ?_
  refine lv_iconst (v := nI 0) hx hb dX10_addSubstitute_32 (by decide) ?_
  refine lv_iload hx hb dX10_addSubstitute_33 (lv_at hl 0 rfl) ?_
  refine xkRi (xSs (Ws' := ([] : List Cond)) (As := [.int pq, .int (nI 0), .int (nI lm)]) (rest := []) (wc := []) hx hb hml hown hts (c_X10_in l dC dI cI cF cC cZ cQ cS pq (nI 0) (nI lm)) 3 (fun hR => va_cwS 3 hts gX10_addSubstitute_X10_in rfl rfl rfl hdN_X10_in hR) ⟨Nat.le_of_ble_eq_true rfl, Nat.le_of_ble_eq_true rfl⟩ hN hK hP hD [] rfl rfl rfl hl.1 rfl (Nat.le_of_ble_eq_true rfl) dX10_addSubstitute_35 ⟨Nat.zero_le _, Nat.zero_le _⟩) (fun r_5 hr_5 => ?_)
  have hr_5 : r_5 = (if (nI 0) ≤ pq ∧ pq ≤ (nI lm) then nI 1 else nI 0) := hr_5
  rcases xi_ite inferInstance hr_5 with ⟨c_6, hr_5⟩ | ⟨c_6, hr_5⟩
  · subst hr_5
    refine xr_ifn1 (tgt := 44) hx hb (by decide) dX10_addSubstitute_38 (by decide) ?_
    exact (hbad.elim c_4 (fun q => q c_6)).elim
  subst hr_5
  refine xr_ifn0 (tgt := 44) hx hb (by decide) dX10_addSubstitute_38 (by decide) ?_
  refine lv_bipush (v := (-2)) hx hb dX10_addSubstitute_41 (by decide) ?_
  exact W.iret (v := (-2)) hx hb hr (fun t ht hW => ⟨_, rfl, (show (-2) = (-2) from rfl), ht⟩) (fun q h => by cases h) dX10_addSubstitute_43
set_option maxHeartbeats 4000000 in
set_option maxRecDepth 100000 in
theorem c_X10_addSubstituten (l : Launch) (dC : Nat → ClassId) (dI : Nat → Nat → Nat) (cI cF cC cZ cQ cS : ClassId) (h0 : Nat) (zq : Nat) (h0_past : Value) (h0_kept : Value) (h0_spare : Value) (h0_pastMany : Value) (h0_isKept : Value) (h0_text : Value) (h0_typed : Value) (h0_isUsed : Value) (h0_planBatch : Value) (h0_planUnits : Value) (h0_planCents : Value) (h0_planMany : Value) (h0_planGot : Value) (h0_planSubstitutes : Value) (h0_at : Value) (h0_fault : Value) (h0_entries : Value) (h0_entry : Value) (z : Nat → Int32) (gz : Nat) (kg : Nat) (ks : Nat) (lm : Nat) (pl : Nat) (hz1 : z 1 = nI gz) (hgz : gz ≤ 12) (hk : kg < gz) (hks : ks < gz) (hls : zG z kg 2 = nI lm) (hl4 : lm ≤ 4) (hkk : ¬ kg = ks) (hw : nI 0 ≤ nI pl ∧ nI pl ≤ nI lm) (hex : ∃ j, j < lm ∧ z (10 + 7 * kg + 3 + j) = nI ks) : Met l yX10_addSubstitute wsX10_addSubstitute ({ frames := 1, cells := 0, slots := 0, locals := 22 }) (xPre (dC, dI) vwCl [.ref h0, .int (nI kg), .int (nI ks), .int (nI pl)] (xtys cI cF cC cZ cQ cS) [(h0, .inr (10, [.ref zq, h0_past, h0_kept, h0_spare, h0_pastMany, h0_isKept, h0_text, h0_typed, h0_isUsed, h0_planBatch, h0_planUnits, h0_planCents, h0_planMany, h0_planGot, h0_planSubstitutes, h0_at, h0_fault, h0_entries, h0_entry])), (zq, .inl (cI, 1002, .inl z))]) (vp_Si (fun r0 => r0 = (-4))) 0 0 (fun _ => False) := by
  refine Met.ofW (cc := cX10_addSubstitute) (maxL := 7) (ret := (some .int)) (by decide) rfl ?_
  intro p e s m args below meth c s₁ B hml hv
  obtain ⟨rfl, hP, hK, hD0, hN⟩ := hv
  have hx := B.exec
  have hb := B.bytes
  have hr := B.returns
  have hts := atoms_spec (ws := wsX10_addSubstitute) B.pre
  have hown : s.vm.findClass RX10 = some m.cls := findClass_of_methodNamed B.named
  have hlocks := B.notSynchronized
  have k_7 := hts (Cond.fieldLink RX10 7 "ShelfStagesModel" "z" "[I") (by decide +kernel)
  have i_X10 : ∀ w ∈ wsX100, w ∈ wsX10_addSubstitute := by decide +kernel
  have hD := hD0
  have hl := lv_entry ([.ref h0, .int (nI kg), .int (nI ks), .int (nI pl)]) (n := 7) (Nat.le_of_ble_eq_true rfl)
  rw [lg_entry_eq]
  generalize (lg_sl ([.ref h0, .int (nI kg), .int (nI ks), .int (nI pl)]) ++ List.replicate (7 - (lg_sl ([.ref h0, .int (nI kg), .int (nI ks), .int (nI pl)])).length) Slot.unset).toArray = ls at hl ⊢
  have hl : lv_has ls 7 [(0, .ref h0), (1, .int (nI kg)), (2, .int (nI ks)), (3, .int (nI pl))] := hl
  refine lv_aload_n hx hb dX10_addSubstitute_0 rfl (lv_at hl 0 rfl) ?_
  refine lv_iload_n hx hb dX10_addSubstitute_1 rfl (lv_at hl 1 rfl) ?_
  refine xkRi (xV (As := [.int (nI kg)]) (rest := []) (wc := [(h0, .inr (10, [.ref zq, h0_past, h0_kept, h0_spare, h0_pastMany, h0_isKept, h0_text, h0_typed, h0_isUsed, h0_planBatch, h0_planUnits, h0_planCents, h0_planMany, h0_planGot, h0_planSubstitutes, h0_at, h0_fault, h0_entries, h0_entry])), (zq, .inl (cI, 1002, .inl z))]) hx hb hml hown hts (c_X10_isGood l dC dI cI cF cC cZ cQ cS h0 zq h0_past h0_kept h0_spare h0_pastMany h0_isKept h0_text h0_typed h0_isUsed h0_planBatch h0_planUnits h0_planCents h0_planMany h0_planGot h0_planSubstitutes h0_at h0_fault h0_entries h0_entry z (nI kg) gz (by omega) (by omega)) 1 gX10_addSubstitute_X10_isGood rfl rfl rfl hdV_X10_isGood ⟨Nat.le_of_ble_eq_true rfl, Nat.le_of_ble_eq_true rfl⟩ hN hK hP hD [0, 1] rfl rfl 10 0 rfl rfl rfl hl.1 rfl (Nat.le_of_ble_eq_true rfl) dX10_addSubstitute_2 ⟨Nat.zero_le _, Nat.zero_le _⟩) (fun r_1 hr_1 => ?_)
  have hr_1 : r_1 = (if xhas (nI kg) gz then nI 1 else nI 0) := hr_1
  obtain rfl : r_1 = nI 1 := hr_1.trans (if_pos (xhas_of hk (by omega)))
  refine xr_if1 (tgt := 16) hx hb (by decide) dX10_addSubstitute_5 (by decide) ?_
  refine lv_aload_n hx hb dX10_addSubstitute_8 rfl (lv_at hl 0 rfl) ?_
  refine lv_iload_n hx hb dX10_addSubstitute_9 rfl (lv_at hl 2 rfl) ?_
  refine xkRi (xV (As := [.int (nI ks)]) (rest := []) (wc := [(h0, .inr (10, [.ref zq, h0_past, h0_kept, h0_spare, h0_pastMany, h0_isKept, h0_text, h0_typed, h0_isUsed, h0_planBatch, h0_planUnits, h0_planCents, h0_planMany, h0_planGot, h0_planSubstitutes, h0_at, h0_fault, h0_entries, h0_entry])), (zq, .inl (cI, 1002, .inl z))]) hx hb hml hown hts (c_X10_isGood l dC dI cI cF cC cZ cQ cS h0 zq h0_past h0_kept h0_spare h0_pastMany h0_isKept h0_text h0_typed h0_isUsed h0_planBatch h0_planUnits h0_planCents h0_planMany h0_planGot h0_planSubstitutes h0_at h0_fault h0_entries h0_entry z (nI ks) gz (by omega) (by omega)) 1 gX10_addSubstitute_X10_isGood rfl rfl rfl hdV_X10_isGood ⟨Nat.le_of_ble_eq_true rfl, Nat.le_of_ble_eq_true rfl⟩ hN hK hP hD [0, 1] rfl rfl 10 0 rfl rfl rfl hl.1 rfl (Nat.le_of_ble_eq_true rfl) dX10_addSubstitute_10 ⟨Nat.zero_le _, Nat.zero_le _⟩) (fun r_2 hr_2 => ?_)
  have hr_2 : r_2 = (if xhas (nI ks) gz then nI 1 else nI 0) := hr_2
  obtain rfl : r_2 = nI 1 := hr_2.trans (if_pos (xhas_of hks (by omega)))
  refine xr_ifn1 (tgt := 18) hx hb (by decide) dX10_addSubstitute_13 (by decide) ?_
  refine lv_aload_n hx hb dX10_addSubstitute_18 rfl (lv_at hl 0 rfl) ?_
  refine lv_iload_n hx hb dX10_addSubstitute_19 rfl (lv_at hl 1 rfl) ?_
  refine lv_iconst (v := nI 2) hx hb dX10_addSubstitute_20 (by decide) ?_
  refine xkRi (xV (As := [.int (nI kg), .int (nI 2)]) (rest := []) (wc := [(h0, .inr (10, [.ref zq, h0_past, h0_kept, h0_spare, h0_pastMany, h0_isKept, h0_text, h0_typed, h0_isUsed, h0_planBatch, h0_planUnits, h0_planCents, h0_planMany, h0_planGot, h0_planSubstitutes, h0_at, h0_fault, h0_entries, h0_entry])), (zq, .inl (cI, 1002, .inl z))]) hx hb hml hown hts (c_X10_ofGood l dC dI cI cF cC cZ cQ cS h0 zq h0_past h0_kept h0_spare h0_pastMany h0_isKept h0_text h0_typed h0_isUsed h0_planBatch h0_planUnits h0_planCents h0_planMany h0_planGot h0_planSubstitutes h0_at h0_fault h0_entries h0_entry z kg 2 (by omega) (by omega)) 2 gX10_addSubstitute_X10_ofGood rfl rfl rfl hdV_X10_ofGood ⟨Nat.le_of_ble_eq_true rfl, Nat.le_of_ble_eq_true rfl⟩ hN hK hP hD [0, 1] rfl rfl 10 0 rfl rfl rfl hl.1 rfl (Nat.le_of_ble_eq_true rfl) dX10_addSubstitute_21 ⟨Nat.zero_le _, Nat.zero_le _⟩) (fun r_3 hr_3 => ?_)
  obtain rfl : r_3 = zG z kg 2 := hr_3
  refine xr_top (show zG z kg 2 = nI lm from hls) ?_
  refine lv_istore (lv' := [(4, .int (nI lm)), (0, .ref h0), (1, .int (nI kg)), (2, .int (nI ks)), (3, .int (nI pl))]) hx hb dX10_addSubstitute_24 hl (by decide) rfl (fun ls hl => ?_)
  refine lv_iload_n hx hb dX10_addSubstitute_26 rfl (lv_at hl 2 rfl) ?_
  refine lv_iload_n hx hb dX10_addSubstitute_27 rfl (lv_at hl 3 rfl) ?_
  refine xr_eq_n (tgt := 41) hx hb (by omega) (by omega) dX10_addSubstitute_28 (by decide) (fun c_4 => False.elim (by omega)) (fun c_4 => ?_)
  refine lv_iload_n hx hb dX10_addSubstitute_31 rfl (lv_at hl 4 rfl) ?_
  refine lv_iconst (v := nI 0) hx hb dX10_addSubstitute_32 (by decide) ?_
  refine lv_iload hx hb dX10_addSubstitute_33 (lv_at hl 0 rfl) ?_
  refine xkRi (xSs (Ws' := ([] : List Cond)) (As := [.int (nI pl), .int (nI 0), .int (nI lm)]) (rest := []) (wc := []) hx hb hml hown hts (c_X10_in l dC dI cI cF cC cZ cQ cS (nI pl) (nI 0) (nI lm)) 3 (fun hR => va_cwS 3 hts gX10_addSubstitute_X10_in rfl rfl rfl hdN_X10_in hR) ⟨Nat.le_of_ble_eq_true rfl, Nat.le_of_ble_eq_true rfl⟩ hN hK hP hD [] rfl rfl rfl hl.1 rfl (Nat.le_of_ble_eq_true rfl) dX10_addSubstitute_35 ⟨Nat.zero_le _, Nat.zero_le _⟩) (fun r_5 hr_5 => ?_)
  have hr_5 : r_5 = (if (nI 0) ≤ (nI pl) ∧ (nI pl) ≤ (nI lm) then nI 1 else nI 0) := hr_5
  obtain rfl : r_5 = nI 1 := hr_5.trans (if_pos hw)
  refine xr_ifn1 (tgt := 44) hx hb (by decide) dX10_addSubstitute_38 (by decide) ?_
  refine lv_bipush (v := nI 10) hx hb dX10_addSubstitute_44 (by decide) ?_
  refine lv_bipush (v := nI 7) hx hb dX10_addSubstitute_46 (by decide) ?_
  refine lv_iload_n hx hb dX10_addSubstitute_48 rfl (lv_at hl 2 rfl) ?_
  refine xr_imul_n hx hb dX10_addSubstitute_49 ?_
  refine xr_iadd_n hx hb dX10_addSubstitute_50 ?_
  refine lv_iconst (v := nI 3) hx hb dX10_addSubstitute_51 (by decide) ?_
  refine xr_iadd_n hx hb dX10_addSubstitute_52 ?_
  refine lv_istore (lv' := [(5, .int (nI ((10 + (7 * kg)) + 3))), (4, .int (nI lm)), (0, .ref h0), (1, .int (nI kg)), (2, .int (nI ks)), (3, .int (nI pl))]) hx hb dX10_addSubstitute_53 hl (by decide) rfl (fun ls hl => ?_)
  refine lv_iconst (v := nI 0) hx hb dX10_addSubstitute_55 (by decide) ?_
  refine lv_istore (lv' := [(6, .int (nI 0)), (5, .int (nI ((10 + (7 * kg)) + 3))), (4, .int (nI lm)), (0, .ref h0), (1, .int (nI kg)), (2, .int (nI ks)), (3, .int (nI pl))]) hx hb dX10_addSubstitute_56 hl (by decide) rfl (fun ls hl => ?_)
  refine xr_loop (J := Nat) (fun n0 H locs g => ∃ (k : Nat) (ls : Array Slot), H = s.heap ∧ locs = [] ∧ n0 = (lm + 1) - k ∧ g = F0 m 58 ls [] ∧ lv_has ls 7 [(6, .int (nI k)), (5, .int (nI ((10 + (7 * kg)) + 3))), (4, .int (nI lm)), (0, .ref h0), (1, .int (nI kg)), (2, .int (nI ks)), (3, .int (nI pl))] ∧ (k ≤ lm) ∧ (∀ j, j < k → ¬ z (10 + 7 * kg + 3 + j) = nI ks)) (fun n => n) ?_ ((lm + 1) - 0) (g := F0 m 58 ls []) ⟨0, ls, rfl, rfl, rfl, rfl, lv_sub hl [0, 1, 2, 3, 4, 5, 6] rfl, (Nat.zero_le _), (fun j hj => absurd hj (Nat.not_lt_zero j))⟩
  intro n0 ih_58 H locs g hp
  obtain ⟨k, ls, rfl, rfl, rfl, rfl, hl, hkl, hne⟩ := hp
  refine lv_iload hx hb dX10_addSubstitute_58 (lv_at hl 0 rfl) ?_
  refine lv_iload hx hb dX10_addSubstitute_60 (lv_at hl 2 rfl) ?_
  refine xr_ge_n (tgt := 88) hx hb (by omega) (by omega) dX10_addSubstitute_62 (by decide) (fun c_6 => False.elim (by exact hex.elim (fun j hj => hne j (by omega) hj.2))) (fun c_6 => ?_)
  refine lv_aload_n hx hb dX10_addSubstitute_65 rfl (lv_at hl 3 rfl) ?_
  refine va_get (D := (dC, dI)) (ci := 10) (v := .ref zq) (C := RX10) (T := TX10) (N := 19) hx hb hts i_X10 hown hK hP 0 rfl rfl 0 (by decide) k_7 (fun _ h9 => h9) rfl dX10_addSubstitute_66 ?_
  refine lv_iload hx hb dX10_addSubstitute_69 (lv_at hl 1 rfl) ?_
  refine lv_iload hx hb dX10_addSubstitute_71 (lv_at hl 0 rfl) ?_
  refine xr_iadd_n hx hb dX10_addSubstitute_73 ?_
  refine xr_iald hx hb hK hP 1 0 rfl rfl (i := ((10 + (7 * kg)) + 3) + k) (by omega) (by decide) dX10_addSubstitute_74 ?_
  refine lv_iload_n hx hb dX10_addSubstitute_75 rfl (lv_at hl 5 rfl) ?_
  refine lv_icmp_ne (tgt := 82) hx hb dX10_addSubstitute_76 (by decide) (fun c_7 => ?_) (fun c_7 => ?_)
  · skip
    refine lv_iinc (v := nI (k + 1)) (lv' := [(6, .int (nI (k + 1))), (5, .int (nI ((10 + (7 * kg)) + 3))), (4, .int (nI lm)), (0, .ref h0), (1, .int (nI kg)), (2, .int (nI ks)), (3, .int (nI pl))]) hx hb dX10_addSubstitute_82 hl (k := 0) rfl (nI_inc1 k) (by decide) rfl (fun ls hl => ?_)
    refine lv_goto (tgt := 58) hx hb dX10_addSubstitute_85 (by decide) ?_
    exact ih_58 ((lm + 1) - (k + 1)) _ _ _ (show (lm + 1) - (k + 1) < (lm + 1) - k from by omega) ⟨(k + 1), ls, rfl, rfl, rfl, rfl, lv_sub hl [0, 1, 2, 3, 4, 5, 6] rfl, (by omega), (fun j hj => by rcases (show j < k ∨ j = k by omega) with q | q; exact hne j q; rw [q]; exact c_7)⟩
  refine lv_bipush (v := (-4)) hx hb dX10_addSubstitute_79 (by decide) ?_
  exact W.iret (v := (-4)) hx hb hr (fun t ht hW => ⟨_, rfl, (show (-4) = (-4) from rfl), ht⟩) (fun q h => by cases h) dX10_addSubstitute_81
set_option maxHeartbeats 4000000 in
set_option maxRecDepth 100000 in
theorem c_X10_addSubstitutef (l : Launch) (dC : Nat → ClassId) (dI : Nat → Nat → Nat) (cI cF cC cZ cQ cS : ClassId) (h0 : Nat) (zq : Nat) (h0_past : Value) (h0_kept : Value) (h0_spare : Value) (h0_pastMany : Value) (h0_isKept : Value) (h0_text : Value) (h0_typed : Value) (h0_isUsed : Value) (h0_planBatch : Value) (h0_planUnits : Value) (h0_planCents : Value) (h0_planMany : Value) (h0_planGot : Value) (h0_planSubstitutes : Value) (h0_at : Value) (h0_fault : Value) (h0_entries : Value) (h0_entry : Value) (z : Nat → Int32) (gz : Nat) (kg : Nat) (ks : Nat) (lm : Nat) (pl : Nat) (hz1 : z 1 = nI gz) (hgz : gz ≤ 12) (hk : kg < gz) (hks : ks < gz) (hls : zG z kg 2 = nI lm) (hl4 : lm ≤ 4) (hkk : ¬ kg = ks) (hw : nI 0 ≤ nI pl ∧ nI pl ≤ nI lm) (hex : ¬ (∃ j, j < lm ∧ z (10 + 7 * kg + 3 + j) = nI ks)) (hf4 : lm = 4) : Met l yX10_addSubstitute wsX10_addSubstitute ({ frames := 1, cells := 0, slots := 0, locals := 22 }) (xPre (dC, dI) vwCl [.ref h0, .int (nI kg), .int (nI ks), .int (nI pl)] (xtys cI cF cC cZ cQ cS) [(h0, .inr (10, [.ref zq, h0_past, h0_kept, h0_spare, h0_pastMany, h0_isKept, h0_text, h0_typed, h0_isUsed, h0_planBatch, h0_planUnits, h0_planCents, h0_planMany, h0_planGot, h0_planSubstitutes, h0_at, h0_fault, h0_entries, h0_entry])), (zq, .inl (cI, 1002, .inl z))]) (vp_Si (fun r0 => r0 = (-3))) 0 0 (fun _ => False) := by
  refine Met.ofW (cc := cX10_addSubstitute) (maxL := 7) (ret := (some .int)) (by decide) rfl ?_
  intro p e s m args below meth c s₁ B hml hv
  obtain ⟨rfl, hP, hK, hD0, hN⟩ := hv
  have hx := B.exec
  have hb := B.bytes
  have hr := B.returns
  have hts := atoms_spec (ws := wsX10_addSubstitute) B.pre
  have hown : s.vm.findClass RX10 = some m.cls := findClass_of_methodNamed B.named
  have hlocks := B.notSynchronized
  have k_7 := hts (Cond.fieldLink RX10 7 "ShelfStagesModel" "z" "[I") (by decide +kernel)
  have i_X10 : ∀ w ∈ wsX100, w ∈ wsX10_addSubstitute := by decide +kernel
  have hD := hD0
  have hl := lv_entry ([.ref h0, .int (nI kg), .int (nI ks), .int (nI pl)]) (n := 7) (Nat.le_of_ble_eq_true rfl)
  rw [lg_entry_eq]
  generalize (lg_sl ([.ref h0, .int (nI kg), .int (nI ks), .int (nI pl)]) ++ List.replicate (7 - (lg_sl ([.ref h0, .int (nI kg), .int (nI ks), .int (nI pl)])).length) Slot.unset).toArray = ls at hl ⊢
  have hl : lv_has ls 7 [(0, .ref h0), (1, .int (nI kg)), (2, .int (nI ks)), (3, .int (nI pl))] := hl
  refine lv_aload_n hx hb dX10_addSubstitute_0 rfl (lv_at hl 0 rfl) ?_
  refine lv_iload_n hx hb dX10_addSubstitute_1 rfl (lv_at hl 1 rfl) ?_
  refine xkRi (xV (As := [.int (nI kg)]) (rest := []) (wc := [(h0, .inr (10, [.ref zq, h0_past, h0_kept, h0_spare, h0_pastMany, h0_isKept, h0_text, h0_typed, h0_isUsed, h0_planBatch, h0_planUnits, h0_planCents, h0_planMany, h0_planGot, h0_planSubstitutes, h0_at, h0_fault, h0_entries, h0_entry])), (zq, .inl (cI, 1002, .inl z))]) hx hb hml hown hts (c_X10_isGood l dC dI cI cF cC cZ cQ cS h0 zq h0_past h0_kept h0_spare h0_pastMany h0_isKept h0_text h0_typed h0_isUsed h0_planBatch h0_planUnits h0_planCents h0_planMany h0_planGot h0_planSubstitutes h0_at h0_fault h0_entries h0_entry z (nI kg) gz (by omega) (by omega)) 1 gX10_addSubstitute_X10_isGood rfl rfl rfl hdV_X10_isGood ⟨Nat.le_of_ble_eq_true rfl, Nat.le_of_ble_eq_true rfl⟩ hN hK hP hD [0, 1] rfl rfl 10 0 rfl rfl rfl hl.1 rfl (Nat.le_of_ble_eq_true rfl) dX10_addSubstitute_2 ⟨Nat.zero_le _, Nat.zero_le _⟩) (fun r_1 hr_1 => ?_)
  have hr_1 : r_1 = (if xhas (nI kg) gz then nI 1 else nI 0) := hr_1
  obtain rfl : r_1 = nI 1 := hr_1.trans (if_pos (xhas_of hk (by omega)))
  refine xr_if1 (tgt := 16) hx hb (by decide) dX10_addSubstitute_5 (by decide) ?_
  refine lv_aload_n hx hb dX10_addSubstitute_8 rfl (lv_at hl 0 rfl) ?_
  refine lv_iload_n hx hb dX10_addSubstitute_9 rfl (lv_at hl 2 rfl) ?_
  refine xkRi (xV (As := [.int (nI ks)]) (rest := []) (wc := [(h0, .inr (10, [.ref zq, h0_past, h0_kept, h0_spare, h0_pastMany, h0_isKept, h0_text, h0_typed, h0_isUsed, h0_planBatch, h0_planUnits, h0_planCents, h0_planMany, h0_planGot, h0_planSubstitutes, h0_at, h0_fault, h0_entries, h0_entry])), (zq, .inl (cI, 1002, .inl z))]) hx hb hml hown hts (c_X10_isGood l dC dI cI cF cC cZ cQ cS h0 zq h0_past h0_kept h0_spare h0_pastMany h0_isKept h0_text h0_typed h0_isUsed h0_planBatch h0_planUnits h0_planCents h0_planMany h0_planGot h0_planSubstitutes h0_at h0_fault h0_entries h0_entry z (nI ks) gz (by omega) (by omega)) 1 gX10_addSubstitute_X10_isGood rfl rfl rfl hdV_X10_isGood ⟨Nat.le_of_ble_eq_true rfl, Nat.le_of_ble_eq_true rfl⟩ hN hK hP hD [0, 1] rfl rfl 10 0 rfl rfl rfl hl.1 rfl (Nat.le_of_ble_eq_true rfl) dX10_addSubstitute_10 ⟨Nat.zero_le _, Nat.zero_le _⟩) (fun r_2 hr_2 => ?_)
  have hr_2 : r_2 = (if xhas (nI ks) gz then nI 1 else nI 0) := hr_2
  obtain rfl : r_2 = nI 1 := hr_2.trans (if_pos (xhas_of hks (by omega)))
  refine xr_ifn1 (tgt := 18) hx hb (by decide) dX10_addSubstitute_13 (by decide) ?_
  refine lv_aload_n hx hb dX10_addSubstitute_18 rfl (lv_at hl 0 rfl) ?_
  refine lv_iload_n hx hb dX10_addSubstitute_19 rfl (lv_at hl 1 rfl) ?_
  refine lv_iconst (v := nI 2) hx hb dX10_addSubstitute_20 (by decide) ?_
  refine xkRi (xV (As := [.int (nI kg), .int (nI 2)]) (rest := []) (wc := [(h0, .inr (10, [.ref zq, h0_past, h0_kept, h0_spare, h0_pastMany, h0_isKept, h0_text, h0_typed, h0_isUsed, h0_planBatch, h0_planUnits, h0_planCents, h0_planMany, h0_planGot, h0_planSubstitutes, h0_at, h0_fault, h0_entries, h0_entry])), (zq, .inl (cI, 1002, .inl z))]) hx hb hml hown hts (c_X10_ofGood l dC dI cI cF cC cZ cQ cS h0 zq h0_past h0_kept h0_spare h0_pastMany h0_isKept h0_text h0_typed h0_isUsed h0_planBatch h0_planUnits h0_planCents h0_planMany h0_planGot h0_planSubstitutes h0_at h0_fault h0_entries h0_entry z kg 2 (by omega) (by omega)) 2 gX10_addSubstitute_X10_ofGood rfl rfl rfl hdV_X10_ofGood ⟨Nat.le_of_ble_eq_true rfl, Nat.le_of_ble_eq_true rfl⟩ hN hK hP hD [0, 1] rfl rfl 10 0 rfl rfl rfl hl.1 rfl (Nat.le_of_ble_eq_true rfl) dX10_addSubstitute_21 ⟨Nat.zero_le _, Nat.zero_le _⟩) (fun r_3 hr_3 => ?_)
  obtain rfl : r_3 = zG z kg 2 := hr_3
  refine xr_top (show zG z kg 2 = nI lm from hls) ?_
  refine lv_istore (lv' := [(4, .int (nI lm)), (0, .ref h0), (1, .int (nI kg)), (2, .int (nI ks)), (3, .int (nI pl))]) hx hb dX10_addSubstitute_24 hl (by decide) rfl (fun ls hl => ?_)
  refine lv_iload_n hx hb dX10_addSubstitute_26 rfl (lv_at hl 2 rfl) ?_
  refine lv_iload_n hx hb dX10_addSubstitute_27 rfl (lv_at hl 3 rfl) ?_
  refine xr_eq_n (tgt := 41) hx hb (by omega) (by omega) dX10_addSubstitute_28 (by decide) (fun c_4 => False.elim (by omega)) (fun c_4 => ?_)
  refine lv_iload_n hx hb dX10_addSubstitute_31 rfl (lv_at hl 4 rfl) ?_
  refine lv_iconst (v := nI 0) hx hb dX10_addSubstitute_32 (by decide) ?_
  refine lv_iload hx hb dX10_addSubstitute_33 (lv_at hl 0 rfl) ?_
  refine xkRi (xSs (Ws' := ([] : List Cond)) (As := [.int (nI pl), .int (nI 0), .int (nI lm)]) (rest := []) (wc := []) hx hb hml hown hts (c_X10_in l dC dI cI cF cC cZ cQ cS (nI pl) (nI 0) (nI lm)) 3 (fun hR => va_cwS 3 hts gX10_addSubstitute_X10_in rfl rfl rfl hdN_X10_in hR) ⟨Nat.le_of_ble_eq_true rfl, Nat.le_of_ble_eq_true rfl⟩ hN hK hP hD [] rfl rfl rfl hl.1 rfl (Nat.le_of_ble_eq_true rfl) dX10_addSubstitute_35 ⟨Nat.zero_le _, Nat.zero_le _⟩) (fun r_5 hr_5 => ?_)
  have hr_5 : r_5 = (if (nI 0) ≤ (nI pl) ∧ (nI pl) ≤ (nI lm) then nI 1 else nI 0) := hr_5
  obtain rfl : r_5 = nI 1 := hr_5.trans (if_pos hw)
  refine xr_ifn1 (tgt := 44) hx hb (by decide) dX10_addSubstitute_38 (by decide) ?_
  refine lv_bipush (v := nI 10) hx hb dX10_addSubstitute_44 (by decide) ?_
  refine lv_bipush (v := nI 7) hx hb dX10_addSubstitute_46 (by decide) ?_
  refine lv_iload_n hx hb dX10_addSubstitute_48 rfl (lv_at hl 2 rfl) ?_
  refine xr_imul_n hx hb dX10_addSubstitute_49 ?_
  refine xr_iadd_n hx hb dX10_addSubstitute_50 ?_
  refine lv_iconst (v := nI 3) hx hb dX10_addSubstitute_51 (by decide) ?_
  refine xr_iadd_n hx hb dX10_addSubstitute_52 ?_
  refine lv_istore (lv' := [(5, .int (nI ((10 + (7 * kg)) + 3))), (4, .int (nI lm)), (0, .ref h0), (1, .int (nI kg)), (2, .int (nI ks)), (3, .int (nI pl))]) hx hb dX10_addSubstitute_53 hl (by decide) rfl (fun ls hl => ?_)
  refine lv_iconst (v := nI 0) hx hb dX10_addSubstitute_55 (by decide) ?_
  refine lv_istore (lv' := [(6, .int (nI 0)), (5, .int (nI ((10 + (7 * kg)) + 3))), (4, .int (nI lm)), (0, .ref h0), (1, .int (nI kg)), (2, .int (nI ks)), (3, .int (nI pl))]) hx hb dX10_addSubstitute_56 hl (by decide) rfl (fun ls hl => ?_)
  refine xr_loop (J := Nat) (fun n0 H locs g => ∃ (k : Nat) (ls : Array Slot), H = s.heap ∧ locs = [] ∧ n0 = (lm + 1) - k ∧ g = F0 m 58 ls [] ∧ lv_has ls 7 [(6, .int (nI k)), (5, .int (nI ((10 + (7 * kg)) + 3))), (4, .int (nI lm)), (0, .ref h0), (1, .int (nI kg)), (2, .int (nI ks)), (3, .int (nI pl))] ∧ (k ≤ lm) ∧ (∀ j, j < k → ¬ z (10 + 7 * kg + 3 + j) = nI ks)) (fun n => n) ?_ ((lm + 1) - 0) (g := F0 m 58 ls []) ⟨0, ls, rfl, rfl, rfl, rfl, lv_sub hl [0, 1, 2, 3, 4, 5, 6] rfl, (Nat.zero_le _), (fun j hj => absurd hj (Nat.not_lt_zero j))⟩
  intro n0 ih_58 H locs g hp
  obtain ⟨k, ls, rfl, rfl, rfl, rfl, hl, hkl, hne⟩ := hp
  refine lv_iload hx hb dX10_addSubstitute_58 (lv_at hl 0 rfl) ?_
  refine lv_iload hx hb dX10_addSubstitute_60 (lv_at hl 2 rfl) ?_
  refine xr_ge_n (tgt := 88) hx hb (by omega) (by omega) dX10_addSubstitute_62 (by decide) (fun c_6 => ?_) (fun c_6 => ?_)
  · skip
    refine lv_iload hx hb dX10_addSubstitute_88 (lv_at hl 2 rfl) ?_
    refine lv_iconst (v := nI 4) hx hb dX10_addSubstitute_90 (by decide) ?_
    refine xr_ne_n (tgt := 97) hx hb (by omega) (by omega) dX10_addSubstitute_91 (by decide) (fun c_7 => False.elim (by omega)) (fun c_7 => ?_)
    refine lv_bipush (v := (-3)) hx hb dX10_addSubstitute_94 (by decide) ?_
    exact W.iret (v := (-3)) hx hb hr (fun t ht hW => ⟨_, rfl, (show (-3) = (-3) from rfl), ht⟩) (fun q h => by cases h) dX10_addSubstitute_96
  refine lv_aload_n hx hb dX10_addSubstitute_65 rfl (lv_at hl 3 rfl) ?_
  refine va_get (D := (dC, dI)) (ci := 10) (v := .ref zq) (C := RX10) (T := TX10) (N := 19) hx hb hts i_X10 hown hK hP 0 rfl rfl 0 (by decide) k_7 (fun _ h9 => h9) rfl dX10_addSubstitute_66 ?_
  refine lv_iload hx hb dX10_addSubstitute_69 (lv_at hl 1 rfl) ?_
  refine lv_iload hx hb dX10_addSubstitute_71 (lv_at hl 0 rfl) ?_
  refine xr_iadd_n hx hb dX10_addSubstitute_73 ?_
  refine xr_iald hx hb hK hP 1 0 rfl rfl (i := ((10 + (7 * kg)) + 3) + k) (by omega) (by decide) dX10_addSubstitute_74 ?_
  refine lv_iload_n hx hb dX10_addSubstitute_75 rfl (lv_at hl 5 rfl) ?_
  refine lv_icmp_ne (tgt := 82) hx hb dX10_addSubstitute_76 (by decide) (fun c_8 => ?_) (fun c_8 => False.elim (by exact hex ⟨k, by omega, c_8⟩))
  refine lv_iinc (v := nI (k + 1)) (lv' := [(6, .int (nI (k + 1))), (5, .int (nI ((10 + (7 * kg)) + 3))), (4, .int (nI lm)), (0, .ref h0), (1, .int (nI kg)), (2, .int (nI ks)), (3, .int (nI pl))]) hx hb dX10_addSubstitute_82 hl (k := 0) rfl (nI_inc1 k) (by decide) rfl (fun ls hl => ?_)
  refine lv_goto (tgt := 58) hx hb dX10_addSubstitute_85 (by decide) ?_
  exact ih_58 ((lm + 1) - (k + 1)) _ _ _ (show (lm + 1) - (k + 1) < (lm + 1) - k from by omega) ⟨(k + 1), ls, rfl, rfl, rfl, rfl, lv_sub hl [0, 1, 2, 3, 4, 5, 6] rfl, (by omega), (fun j hj => by rcases (show j < k ∨ j = k by omega) with q | q; exact hne j q; rw [q]; exact c_8)⟩
set_option maxHeartbeats 4000000 in
set_option maxRecDepth 100000 in
theorem c_X10_addSubstitutes (l : Launch) (dC : Nat → ClassId) (dI : Nat → Nat → Nat) (cI cF cC cZ cQ cS : ClassId) (h0 : Nat) (zq : Nat) (pq : Nat) (h0_kept : Value) (h0_spare : Value) (h0_isKept : Value) (h0_text : Value) (h0_typed : Value) (h0_isUsed : Value) (h0_planBatch : Value) (h0_planUnits : Value) (h0_planCents : Value) (h0_planMany : Value) (h0_planGot : Value) (h0_planSubstitutes : Value) (h0_at : Value) (h0_fault : Value) (h0_entries : Value) (h0_entry : Value) (z : Nat → Int32) (past : Nat → Int32) (pm : Nat) (gz : Nat) (kg : Nat) (ks : Nat) (lm : Nat) (pl : Nat) (hpm : pm ≤ 4) (hz1 : z 1 = nI gz) (hgz : gz ≤ 12) (hk : kg < gz) (hks : ks < gz) (hls : zG z kg 2 = nI lm) (hl4 : lm ≤ 4) (hl3 : lm < 4) (hkk : ¬ kg = ks) (hw : nI 0 ≤ nI pl ∧ nI pl ≤ nI lm) (hpl : pl ≤ lm) (hex : ¬ (∃ j, j < lm ∧ z (10 + 7 * kg + 3 + j) = nI ks)) : Met l yX10_addSubstitute wsX10_addSubstitute ({ frames := 1, cells := 0, slots := 0, locals := 22 }) (xPre (dC, dI) vwCl [.ref h0, .int (nI kg), .int (nI ks), .int (nI pl)] (xtys cI cF cC cZ cQ cS) [(h0, .inr (10, [.ref zq, .ref pq, h0_kept, h0_spare, .int (nI pm), h0_isKept, h0_text, h0_typed, h0_isUsed, h0_planBatch, h0_planUnits, h0_planCents, h0_planMany, h0_planGot, h0_planSubstitutes, h0_at, h0_fault, h0_entries, h0_entry])), (zq, .inl (cI, 1002, .inl z)), (pq, .inl (cI, 4008, .inl past))]) (xWi (dC, dI) vwCl [(h0, .inr (10, [.ref zq, .ref pq, h0_kept, h0_spare, .int (nI pm), h0_isKept, h0_text, h0_typed, h0_isUsed, h0_planBatch, h0_planUnits, h0_planCents, h0_planMany, h0_planGot, h0_planSubstitutes, h0_at, h0_fault, h0_entries, h0_entry])), (zq, .inl (cI, 1002, .inl z)), (pq, .inl (cI, 4008, .inl past))] (fun r0 w0 => r0 = nI (lm + 1) ∧ w0 = [(h0, .inr (10, [.ref zq, .ref pq, h0_kept, h0_spare, .int (nI (if pm = 4 then 4 else pm + 1)), h0_isKept, h0_text, h0_typed, h0_isUsed, h0_planBatch, h0_planUnits, h0_planCents, h0_planMany, h0_planGot, h0_planSubstitutes, h0_at, h0_fault, h0_entries, h0_entry])), (zq, .inl (cI, 1002, .inl (upd (xins z (10 + 7 * kg + 3) lm pl (nI ks)) (10 + 7 * kg + 2) (nI (lm + 1))))), (pq, .inl (cI, 4008, .inl (zrec z past pm)))])) 0 0 (va_B [(h0, .inr (10, [.ref zq, .ref pq, h0_kept, h0_spare, .int (nI pm), h0_isKept, h0_text, h0_typed, h0_isUsed, h0_planBatch, h0_planUnits, h0_planCents, h0_planMany, h0_planGot, h0_planSubstitutes, h0_at, h0_fault, h0_entries, h0_entry])), (zq, .inl (cI, 1002, .inl z)), (pq, .inl (cI, 4008, .inl past))]) := by
  refine Met.ofW (cc := cX10_addSubstitute) (maxL := 7) (ret := (some .int)) (by decide) rfl ?_
  intro p e s m args below meth c s₁ B hml hv
  obtain ⟨rfl, hP, hK, hD0, hN⟩ := hv
  have hx := B.exec
  have hb := B.bytes
  have hr := B.returns
  have hts := atoms_spec (ws := wsX10_addSubstitute) B.pre
  have hown : s.vm.findClass RX10 = some m.cls := findClass_of_methodNamed B.named
  have hlocks := B.notSynchronized
  have k_7 := hts (Cond.fieldLink RX10 7 "ShelfStagesModel" "z" "[I") (by decide +kernel)
  have i_X10 : ∀ w ∈ wsX100, w ∈ wsX10_addSubstitute := by decide +kernel
  obtain ⟨A, hA⟩ : ∃ A, A = va_B [(h0, .inr (10, [.ref zq, .ref pq, h0_kept, h0_spare, .int (nI pm), h0_isKept, h0_text, h0_typed, h0_isUsed, h0_planBatch, h0_planUnits, h0_planCents, h0_planMany, h0_planGot, h0_planSubstitutes, h0_at, h0_fault, h0_entries, h0_entry])), (zq, .inl (cI, 1002, .inl z)), (pq, .inl (cI, 4008, .inl past))] := ⟨_, rfl⟩
  have hD : va_D A [(h0, .inr (10, [.ref zq, .ref pq, h0_kept, h0_spare, .int (nI pm), h0_isKept, h0_text, h0_typed, h0_isUsed, h0_planBatch, h0_planUnits, h0_planCents, h0_planMany, h0_planGot, h0_planSubstitutes, h0_at, h0_fault, h0_entries, h0_entry])), (zq, .inl (cI, 1002, .inl z)), (pq, .inl (cI, 4008, .inl past))] := hA ▸ hD0.own
  have hS : va_S A s.heap s.heap [] := va_S.rf
  have hl := lv_entry ([.ref h0, .int (nI kg), .int (nI ks), .int (nI pl)]) (n := 7) (Nat.le_of_ble_eq_true rfl)
  rw [lg_entry_eq]
  generalize (lg_sl ([.ref h0, .int (nI kg), .int (nI ks), .int (nI pl)]) ++ List.replicate (7 - (lg_sl ([.ref h0, .int (nI kg), .int (nI ks), .int (nI pl)])).length) Slot.unset).toArray = ls at hl ⊢
  have hl : lv_has ls 7 [(0, .ref h0), (1, .int (nI kg)), (2, .int (nI ks)), (3, .int (nI pl))] := hl
  refine lv_aload_n hx hb dX10_addSubstitute_0 rfl (lv_at hl 0 rfl) ?_
  refine lv_iload_n hx hb dX10_addSubstitute_1 rfl (lv_at hl 1 rfl) ?_
  refine xkRi (xV (As := [.int (nI kg)]) (rest := []) (wc := [(h0, .inr (10, [.ref zq, .ref pq, h0_kept, h0_spare, .int (nI pm), h0_isKept, h0_text, h0_typed, h0_isUsed, h0_planBatch, h0_planUnits, h0_planCents, h0_planMany, h0_planGot, h0_planSubstitutes, h0_at, h0_fault, h0_entries, h0_entry])), (zq, .inl (cI, 1002, .inl z))]) hx hb hml hown hts (c_X10_isGood l dC dI cI cF cC cZ cQ cS h0 zq (.ref pq) h0_kept h0_spare (.int (nI pm)) h0_isKept h0_text h0_typed h0_isUsed h0_planBatch h0_planUnits h0_planCents h0_planMany h0_planGot h0_planSubstitutes h0_at h0_fault h0_entries h0_entry z (nI kg) gz (by omega) (by omega)) 1 gX10_addSubstitute_X10_isGood rfl rfl rfl hdV_X10_isGood ⟨Nat.le_of_ble_eq_true rfl, Nat.le_of_ble_eq_true rfl⟩ hN hK hP hD [0, 1] rfl rfl 10 0 rfl rfl rfl hl.1 rfl (Nat.le_of_ble_eq_true rfl) dX10_addSubstitute_2 ⟨Nat.zero_le _, Nat.zero_le _⟩) (fun r_1 hr_1 => ?_)
  have hr_1 : r_1 = (if xhas (nI kg) gz then nI 1 else nI 0) := hr_1
  obtain rfl : r_1 = nI 1 := hr_1.trans (if_pos (xhas_of hk (by omega)))
  refine xr_if1 (tgt := 16) hx hb (by decide) dX10_addSubstitute_5 (by decide) ?_
  refine lv_aload_n hx hb dX10_addSubstitute_8 rfl (lv_at hl 0 rfl) ?_
  refine lv_iload_n hx hb dX10_addSubstitute_9 rfl (lv_at hl 2 rfl) ?_
  refine xkRi (xV (As := [.int (nI ks)]) (rest := []) (wc := [(h0, .inr (10, [.ref zq, .ref pq, h0_kept, h0_spare, .int (nI pm), h0_isKept, h0_text, h0_typed, h0_isUsed, h0_planBatch, h0_planUnits, h0_planCents, h0_planMany, h0_planGot, h0_planSubstitutes, h0_at, h0_fault, h0_entries, h0_entry])), (zq, .inl (cI, 1002, .inl z))]) hx hb hml hown hts (c_X10_isGood l dC dI cI cF cC cZ cQ cS h0 zq (.ref pq) h0_kept h0_spare (.int (nI pm)) h0_isKept h0_text h0_typed h0_isUsed h0_planBatch h0_planUnits h0_planCents h0_planMany h0_planGot h0_planSubstitutes h0_at h0_fault h0_entries h0_entry z (nI ks) gz (by omega) (by omega)) 1 gX10_addSubstitute_X10_isGood rfl rfl rfl hdV_X10_isGood ⟨Nat.le_of_ble_eq_true rfl, Nat.le_of_ble_eq_true rfl⟩ hN hK hP hD [0, 1] rfl rfl 10 0 rfl rfl rfl hl.1 rfl (Nat.le_of_ble_eq_true rfl) dX10_addSubstitute_10 ⟨Nat.zero_le _, Nat.zero_le _⟩) (fun r_2 hr_2 => ?_)
  have hr_2 : r_2 = (if xhas (nI ks) gz then nI 1 else nI 0) := hr_2
  obtain rfl : r_2 = nI 1 := hr_2.trans (if_pos (xhas_of hks (by omega)))
  refine xr_ifn1 (tgt := 18) hx hb (by decide) dX10_addSubstitute_13 (by decide) ?_
  refine lv_aload_n hx hb dX10_addSubstitute_18 rfl (lv_at hl 0 rfl) ?_
  refine lv_iload_n hx hb dX10_addSubstitute_19 rfl (lv_at hl 1 rfl) ?_
  refine lv_iconst (v := nI 2) hx hb dX10_addSubstitute_20 (by decide) ?_
  refine xkRi (xV (As := [.int (nI kg), .int (nI 2)]) (rest := []) (wc := [(h0, .inr (10, [.ref zq, .ref pq, h0_kept, h0_spare, .int (nI pm), h0_isKept, h0_text, h0_typed, h0_isUsed, h0_planBatch, h0_planUnits, h0_planCents, h0_planMany, h0_planGot, h0_planSubstitutes, h0_at, h0_fault, h0_entries, h0_entry])), (zq, .inl (cI, 1002, .inl z))]) hx hb hml hown hts (c_X10_ofGood l dC dI cI cF cC cZ cQ cS h0 zq (.ref pq) h0_kept h0_spare (.int (nI pm)) h0_isKept h0_text h0_typed h0_isUsed h0_planBatch h0_planUnits h0_planCents h0_planMany h0_planGot h0_planSubstitutes h0_at h0_fault h0_entries h0_entry z kg 2 (by omega) (by omega)) 2 gX10_addSubstitute_X10_ofGood rfl rfl rfl hdV_X10_ofGood ⟨Nat.le_of_ble_eq_true rfl, Nat.le_of_ble_eq_true rfl⟩ hN hK hP hD [0, 1] rfl rfl 10 0 rfl rfl rfl hl.1 rfl (Nat.le_of_ble_eq_true rfl) dX10_addSubstitute_21 ⟨Nat.zero_le _, Nat.zero_le _⟩) (fun r_3 hr_3 => ?_)
  obtain rfl : r_3 = zG z kg 2 := hr_3
  refine xr_top (show zG z kg 2 = nI lm from hls) ?_
  refine lv_istore (lv' := [(4, .int (nI lm)), (0, .ref h0), (1, .int (nI kg)), (2, .int (nI ks)), (3, .int (nI pl))]) hx hb dX10_addSubstitute_24 hl (by decide) rfl (fun ls hl => ?_)
  refine lv_iload_n hx hb dX10_addSubstitute_26 rfl (lv_at hl 2 rfl) ?_
  refine lv_iload_n hx hb dX10_addSubstitute_27 rfl (lv_at hl 3 rfl) ?_
  refine xr_eq_n (tgt := 41) hx hb (by omega) (by omega) dX10_addSubstitute_28 (by decide) (fun c_4 => False.elim (by omega)) (fun c_4 => ?_)
  refine lv_iload_n hx hb dX10_addSubstitute_31 rfl (lv_at hl 4 rfl) ?_
  refine lv_iconst (v := nI 0) hx hb dX10_addSubstitute_32 (by decide) ?_
  refine lv_iload hx hb dX10_addSubstitute_33 (lv_at hl 0 rfl) ?_
  refine xkRi (xSs (Ws' := ([] : List Cond)) (As := [.int (nI pl), .int (nI 0), .int (nI lm)]) (rest := []) (wc := []) hx hb hml hown hts (c_X10_in l dC dI cI cF cC cZ cQ cS (nI pl) (nI 0) (nI lm)) 3 (fun hR => va_cwS 3 hts gX10_addSubstitute_X10_in rfl rfl rfl hdN_X10_in hR) ⟨Nat.le_of_ble_eq_true rfl, Nat.le_of_ble_eq_true rfl⟩ hN hK hP hD [] rfl rfl rfl hl.1 rfl (Nat.le_of_ble_eq_true rfl) dX10_addSubstitute_35 ⟨Nat.zero_le _, Nat.zero_le _⟩) (fun r_5 hr_5 => ?_)
  have hr_5 : r_5 = (if (nI 0) ≤ (nI pl) ∧ (nI pl) ≤ (nI lm) then nI 1 else nI 0) := hr_5
  obtain rfl : r_5 = nI 1 := hr_5.trans (if_pos hw)
  refine xr_ifn1 (tgt := 44) hx hb (by decide) dX10_addSubstitute_38 (by decide) ?_
  refine lv_bipush (v := nI 10) hx hb dX10_addSubstitute_44 (by decide) ?_
  refine lv_bipush (v := nI 7) hx hb dX10_addSubstitute_46 (by decide) ?_
  refine lv_iload_n hx hb dX10_addSubstitute_48 rfl (lv_at hl 2 rfl) ?_
  refine xr_imul_n hx hb dX10_addSubstitute_49 ?_
  refine xr_iadd_n hx hb dX10_addSubstitute_50 ?_
  refine lv_iconst (v := nI 3) hx hb dX10_addSubstitute_51 (by decide) ?_
  refine xr_iadd_n hx hb dX10_addSubstitute_52 ?_
  refine lv_istore (lv' := [(5, .int (nI ((10 + (7 * kg)) + 3))), (4, .int (nI lm)), (0, .ref h0), (1, .int (nI kg)), (2, .int (nI ks)), (3, .int (nI pl))]) hx hb dX10_addSubstitute_53 hl (by decide) rfl (fun ls hl => ?_)
  refine lv_iconst (v := nI 0) hx hb dX10_addSubstitute_55 (by decide) ?_
  refine lv_istore (lv' := [(6, .int (nI 0)), (5, .int (nI ((10 + (7 * kg)) + 3))), (4, .int (nI lm)), (0, .ref h0), (1, .int (nI kg)), (2, .int (nI ks)), (3, .int (nI pl))]) hx hb dX10_addSubstitute_56 hl (by decide) rfl (fun ls hl => ?_)
  refine xr_loop (J := Nat) (fun n0 H locs g => ∃ (k : Nat) (ls : Array Slot), n0 = (lm + 1) - k ∧ g = F0 m 58 ls [] ∧ lv_has ls 7 [(6, .int (nI k)), (5, .int (nI ((10 + (7 * kg)) + 3))), (4, .int (nI lm)), (0, .ref h0), (1, .int (nI kg)), (2, .int (nI ks)), (3, .int (nI pl))] ∧ va_P (dC, dI) vwCl [(h0, .inr (10, [.ref zq, .ref pq, h0_kept, h0_spare, .int (nI pm), h0_isKept, h0_text, h0_typed, h0_isUsed, h0_planBatch, h0_planUnits, h0_planCents, h0_planMany, h0_planGot, h0_planSubstitutes, h0_at, h0_fault, h0_entries, h0_entry])), (zq, .inl (cI, 1002, .inl z)), (pq, .inl (cI, 4008, .inl past))] H ∧ va_D A [(h0, .inr (10, [.ref zq, .ref pq, h0_kept, h0_spare, .int (nI pm), h0_isKept, h0_text, h0_typed, h0_isUsed, h0_planBatch, h0_planUnits, h0_planCents, h0_planMany, h0_planGot, h0_planSubstitutes, h0_at, h0_fault, h0_entries, h0_entry])), (zq, .inl (cI, 1002, .inl z)), (pq, .inl (cI, 4008, .inl past))] ∧ va_S A s.heap H locs ∧ (k ≤ lm) ∧ (∀ j, j < k → ¬ z (10 + 7 * kg + 3 + j) = nI ks)) (fun n => n) ?_ ((lm + 1) - 0) (g := F0 m 58 ls []) ⟨0, ls, rfl, rfl, lv_sub hl [0, 1, 2, 3, 4, 5, 6] rfl, hP, hD, hS, (Nat.zero_le _), (fun j hj => absurd hj (Nat.not_lt_zero j))⟩
  intro n0 ih_58 H locs g hp
  obtain ⟨k, ls, rfl, rfl, hl, hP, hD, hS, hkl, hne⟩ := hp
  refine lv_iload hx hb dX10_addSubstitute_58 (lv_at hl 0 rfl) ?_
  refine lv_iload hx hb dX10_addSubstitute_60 (lv_at hl 2 rfl) ?_
  refine xr_ge_n (tgt := 88) hx hb (by omega) (by omega) dX10_addSubstitute_62 (by decide) (fun c_6 => ?_) (fun c_6 => ?_)
  · skip
    refine lv_iload hx hb dX10_addSubstitute_88 (lv_at hl 2 rfl) ?_
    refine lv_iconst (v := nI 4) hx hb dX10_addSubstitute_90 (by decide) ?_
    refine xr_ne_n (tgt := 97) hx hb (by omega) (by omega) dX10_addSubstitute_91 (by decide) (fun c_7 => ?_) (fun c_7 => False.elim (by omega))
    refine lv_aload_n hx hb dX10_addSubstitute_97 rfl (lv_at hl 3 rfl) ?_
    refine xkV2 (xV (As := []) (rest := []) (wc := [(h0, .inr (10, [.ref zq, .ref pq, h0_kept, h0_spare, .int (nI pm), h0_isKept, h0_text, h0_typed, h0_isUsed, h0_planBatch, h0_planUnits, h0_planCents, h0_planMany, h0_planGot, h0_planSubstitutes, h0_at, h0_fault, h0_entries, h0_entry])), (zq, .inl (cI, 1002, .inl z)), (pq, .inl (cI, 4008, .inl past))]) hx hb hml hown hts (c_X10_record l dC dI cI cF cC cZ cQ cS h0 zq pq h0_kept h0_spare h0_isKept h0_text h0_typed h0_isUsed h0_planBatch h0_planUnits h0_planCents h0_planMany h0_planGot h0_planSubstitutes h0_at h0_fault h0_entries h0_entry z past pm (by omega)) 0 gX10_addSubstitute_X10_record rfl rfl rfl hdV_X10_record ⟨Nat.le_of_ble_eq_true rfl, Nat.le_of_ble_eq_true rfl⟩ hN hK hP hD [0, 1, 2] rfl rfl 10 0 rfl rfl rfl hl.1 rfl (Nat.le_of_ble_eq_true rfl) dX10_addSubstitute_98 ⟨Nat.zero_le _, Nat.zero_le _⟩) hP hD hS [0, 1, 2] [0, 1, 2] rfl rfl 3 rfl (by decide +kernel) (fun H locs hP hD hS => ?_)
    have hP : va_P (dC, dI) vwCl [(h0, .inr (10, [.ref zq, .ref pq, h0_kept, h0_spare, .int (nI (if pm = 4 then 4 else pm + 1)), h0_isKept, h0_text, h0_typed, h0_isUsed, h0_planBatch, h0_planUnits, h0_planCents, h0_planMany, h0_planGot, h0_planSubstitutes, h0_at, h0_fault, h0_entries, h0_entry])), (zq, .inl (cI, 1002, .inl z)), (pq, .inl (cI, 4008, .inl (zrec z past pm)))] H := hP
    have hD : va_D A [(h0, .inr (10, [.ref zq, .ref pq, h0_kept, h0_spare, .int (nI (if pm = 4 then 4 else pm + 1)), h0_isKept, h0_text, h0_typed, h0_isUsed, h0_planBatch, h0_planUnits, h0_planCents, h0_planMany, h0_planGot, h0_planSubstitutes, h0_at, h0_fault, h0_entries, h0_entry])), (zq, .inl (cI, 1002, .inl z)), (pq, .inl (cI, 4008, .inl (zrec z past pm)))] := hD
    refine lv_iload hx hb dX10_addSubstitute_101 (lv_at hl 2 rfl) ?_
    refine lv_istore (lv' := [(6, .int (nI lm)), (5, .int (nI ((10 + (7 * kg)) + 3))), (4, .int (nI lm)), (0, .ref h0), (1, .int (nI kg)), (2, .int (nI ks)), (3, .int (nI pl))]) hx hb dX10_addSubstitute_103 hl (by decide) rfl (fun ls hl => ?_)
    refine xr_loop (J := Nat) (fun n0 H locs g => ∃ (k2 : Nat) (lf : Nat → Int32) (ls : Array Slot), n0 = k2 + 1 ∧ g = F0 m 105 ls [] ∧ lv_has ls 7 [(6, .int (nI k2)), (5, .int (nI ((10 + (7 * kg)) + 3))), (4, .int (nI lm)), (0, .ref h0), (1, .int (nI kg)), (2, .int (nI ks)), (3, .int (nI pl))] ∧ va_P (dC, dI) vwCl [(h0, .inr (10, [.ref zq, .ref pq, h0_kept, h0_spare, .int (nI (if pm = 4 then 4 else pm + 1)), h0_isKept, h0_text, h0_typed, h0_isUsed, h0_planBatch, h0_planUnits, h0_planCents, h0_planMany, h0_planGot, h0_planSubstitutes, h0_at, h0_fault, h0_entries, h0_entry])), (zq, .inl (cI, 1002, .inl lf)), (pq, .inl (cI, 4008, .inl (zrec z past pm)))] H ∧ va_D A [(h0, .inr (10, [.ref zq, .ref pq, h0_kept, h0_spare, .int (nI (if pm = 4 then 4 else pm + 1)), h0_isKept, h0_text, h0_typed, h0_isUsed, h0_planBatch, h0_planUnits, h0_planCents, h0_planMany, h0_planGot, h0_planSubstitutes, h0_at, h0_fault, h0_entries, h0_entry])), (zq, .inl (cI, 1002, .inl lf)), (pq, .inl (cI, 4008, .inl (zrec z past pm)))] ∧ va_S A s.heap H locs ∧ (pl ≤ k2 ∧ k2 ≤ lm) ∧ (lf = xshr z (10 + 7 * kg + 3) lm k2)) (fun n => n) ?_ (lm + 1) (g := F0 m 105 ls []) ⟨lm, z, ls, rfl, rfl, lv_sub hl [0, 1, 2, 3, 4, 5, 6] rfl, hP, hD, hS, (⟨hpl, Nat.le_refl _⟩), (xshr_0 _ _ _)⟩
    intro n0 ih_105 H locs g hp
    obtain ⟨k2, lf, ls, rfl, rfl, hl, hP, hD, hS, hk2, hlf⟩ := hp
    refine lv_iload hx hb dX10_addSubstitute_105 (lv_at hl 0 rfl) ?_
    refine lv_iload_n hx hb dX10_addSubstitute_107 rfl (lv_at hl 6 rfl) ?_
    refine xr_le_n (tgt := 139) hx hb (by omega) (by omega) dX10_addSubstitute_108 (by decide) (fun c_8 => ?_) (fun c_8 => ?_)
    · skip
      have hkp : pl = k2 := by omega
      subst hkp
      subst hlf
      have hl : lv_has ls 7 [(6, .int (nI pl)), (5, .int (nI ((10 + (7 * kg)) + 3))), (4, .int (nI lm)), (0, .ref h0), (1, .int (nI kg)), (2, .int (nI ks)), (3, .int (nI pl))] := hl
      have hP : va_P (dC, dI) vwCl [(h0, .inr (10, [.ref zq, .ref pq, h0_kept, h0_spare, .int (nI (if pm = 4 then 4 else pm + 1)), h0_isKept, h0_text, h0_typed, h0_isUsed, h0_planBatch, h0_planUnits, h0_planCents, h0_planMany, h0_planGot, h0_planSubstitutes, h0_at, h0_fault, h0_entries, h0_entry])), (zq, .inl (cI, 1002, .inl (xshr z (10 + 7 * kg + 3) lm pl))), (pq, .inl (cI, 4008, .inl (zrec z past pm)))] H := hP
      have hD : va_D A [(h0, .inr (10, [.ref zq, .ref pq, h0_kept, h0_spare, .int (nI (if pm = 4 then 4 else pm + 1)), h0_isKept, h0_text, h0_typed, h0_isUsed, h0_planBatch, h0_planUnits, h0_planCents, h0_planMany, h0_planGot, h0_planSubstitutes, h0_at, h0_fault, h0_entries, h0_entry])), (zq, .inl (cI, 1002, .inl (xshr z (10 + 7 * kg + 3) lm pl))), (pq, .inl (cI, 4008, .inl (zrec z past pm)))] := hD
      refine lv_aload_n hx hb dX10_addSubstitute_139 rfl (lv_at hl 3 rfl) ?_
      refine va_get (D := (dC, dI)) (ci := 10) (v := .ref zq) (C := RX10) (T := TX10) (N := 19) hx hb hts i_X10 hown hK hP 0 rfl rfl 0 (by decide) k_7 (fun _ h9 => h9) rfl dX10_addSubstitute_140 ?_
      refine lv_iload hx hb dX10_addSubstitute_143 (lv_at hl 1 rfl) ?_
      refine lv_iload_n hx hb dX10_addSubstitute_145 rfl (lv_at hl 6 rfl) ?_
      refine xr_iadd_n hx hb dX10_addSubstitute_146 ?_
      refine lv_iload_n hx hb dX10_addSubstitute_147 rfl (lv_at hl 5 rfl) ?_
      refine xr_iast hx hb hK hP hD hS 1 0 rfl rfl (i := ((10 + (7 * kg)) + 3) + pl) (by omega) (by decide) dX10_addSubstitute_148 (fun H locs hP hD hS => ?_)
      have hP : va_P (dC, dI) vwCl [(h0, .inr (10, [.ref zq, .ref pq, h0_kept, h0_spare, .int (nI (if pm = 4 then 4 else pm + 1)), h0_isKept, h0_text, h0_typed, h0_isUsed, h0_planBatch, h0_planUnits, h0_planCents, h0_planMany, h0_planGot, h0_planSubstitutes, h0_at, h0_fault, h0_entries, h0_entry])), (zq, .inl (cI, 1002, .inl (upd (xshr z (10 + 7 * kg + 3) lm pl) (((10 + (7 * kg)) + 3) + pl) (nI ks)))), (pq, .inl (cI, 4008, .inl (zrec z past pm)))] H := hP
      have hD : va_D A [(h0, .inr (10, [.ref zq, .ref pq, h0_kept, h0_spare, .int (nI (if pm = 4 then 4 else pm + 1)), h0_isKept, h0_text, h0_typed, h0_isUsed, h0_planBatch, h0_planUnits, h0_planCents, h0_planMany, h0_planGot, h0_planSubstitutes, h0_at, h0_fault, h0_entries, h0_entry])), (zq, .inl (cI, 1002, .inl (upd (xshr z (10 + 7 * kg + 3) lm pl) (((10 + (7 * kg)) + 3) + pl) (nI ks)))), (pq, .inl (cI, 4008, .inl (zrec z past pm)))] := hD
      rw [xshr_ins (by omega)] at hP hD
      have hP : va_P (dC, dI) vwCl [(h0, .inr (10, [.ref zq, .ref pq, h0_kept, h0_spare, .int (nI (if pm = 4 then 4 else pm + 1)), h0_isKept, h0_text, h0_typed, h0_isUsed, h0_planBatch, h0_planUnits, h0_planCents, h0_planMany, h0_planGot, h0_planSubstitutes, h0_at, h0_fault, h0_entries, h0_entry])), (zq, .inl (cI, 1002, .inl (xins z (10 + 7 * kg + 3) lm pl (nI ks)))), (pq, .inl (cI, 4008, .inl (zrec z past pm)))] H := hP
      have hD : va_D A [(h0, .inr (10, [.ref zq, .ref pq, h0_kept, h0_spare, .int (nI (if pm = 4 then 4 else pm + 1)), h0_isKept, h0_text, h0_typed, h0_isUsed, h0_planBatch, h0_planUnits, h0_planCents, h0_planMany, h0_planGot, h0_planSubstitutes, h0_at, h0_fault, h0_entries, h0_entry])), (zq, .inl (cI, 1002, .inl (xins z (10 + 7 * kg + 3) lm pl (nI ks)))), (pq, .inl (cI, 4008, .inl (zrec z past pm)))] := hD
      refine lv_aload_n hx hb dX10_addSubstitute_149 rfl (lv_at hl 3 rfl) ?_
      refine va_get (D := (dC, dI)) (ci := 10) (v := .ref zq) (C := RX10) (T := TX10) (N := 19) hx hb hts i_X10 hown hK hP 0 rfl rfl 0 (by decide) k_7 (fun _ h9 => h9) rfl dX10_addSubstitute_150 ?_
      refine lv_bipush (v := nI 10) hx hb dX10_addSubstitute_153 (by decide) ?_
      refine lv_bipush (v := nI 7) hx hb dX10_addSubstitute_155 (by decide) ?_
      refine lv_iload_n hx hb dX10_addSubstitute_157 rfl (lv_at hl 4 rfl) ?_
      refine xr_imul_n hx hb dX10_addSubstitute_158 ?_
      refine xr_iadd_n hx hb dX10_addSubstitute_159 ?_
      refine lv_iconst (v := nI 2) hx hb dX10_addSubstitute_160 (by decide) ?_
      refine xr_iadd_n hx hb dX10_addSubstitute_161 ?_
      refine lv_dup2_11 hx hb dX10_addSubstitute_162 rfl rfl ?_
      refine xr_iald hx hb hK hP 1 0 rfl rfl (i := (10 + (7 * kg)) + 2) (by omega) (by decide) dX10_addSubstitute_163 ?_
      refine xr_top (show (xins z (10 + 7 * kg + 3) lm pl (nI ks)) ((10 + (7 * kg)) + 2) = nI lm from (xins_lt (by omega)).trans hls) ?_
      refine lv_iconst (v := nI 1) hx hb dX10_addSubstitute_164 (by decide) ?_
      refine xr_iadd_n hx hb dX10_addSubstitute_165 ?_
      refine xr_iast hx hb hK hP hD hS 1 0 rfl rfl (i := (10 + (7 * kg)) + 2) (by omega) (by decide) dX10_addSubstitute_166 (fun H locs hP hD hS => ?_)
      have hP : va_P (dC, dI) vwCl [(h0, .inr (10, [.ref zq, .ref pq, h0_kept, h0_spare, .int (nI (if pm = 4 then 4 else pm + 1)), h0_isKept, h0_text, h0_typed, h0_isUsed, h0_planBatch, h0_planUnits, h0_planCents, h0_planMany, h0_planGot, h0_planSubstitutes, h0_at, h0_fault, h0_entries, h0_entry])), (zq, .inl (cI, 1002, .inl (upd (xins z (10 + 7 * kg + 3) lm pl (nI ks)) ((10 + (7 * kg)) + 2) (nI (lm + 1))))), (pq, .inl (cI, 4008, .inl (zrec z past pm)))] H := hP
      have hD : va_D A [(h0, .inr (10, [.ref zq, .ref pq, h0_kept, h0_spare, .int (nI (if pm = 4 then 4 else pm + 1)), h0_isKept, h0_text, h0_typed, h0_isUsed, h0_planBatch, h0_planUnits, h0_planCents, h0_planMany, h0_planGot, h0_planSubstitutes, h0_at, h0_fault, h0_entries, h0_entry])), (zq, .inl (cI, 1002, .inl (upd (xins z (10 + 7 * kg + 3) lm pl (nI ks)) ((10 + (7 * kg)) + 2) (nI (lm + 1))))), (pq, .inl (cI, 4008, .inl (zrec z past pm)))] := hD
      refine lv_iload hx hb dX10_addSubstitute_167 (lv_at hl 2 rfl) ?_
      refine lv_iconst (v := nI 1) hx hb dX10_addSubstitute_169 (by decide) ?_
      refine xr_iadd_n hx hb dX10_addSubstitute_170 ?_
      have hP9 : va_P (dC, dI) vwCl [(h0, .inr (10, [.ref zq, .ref pq, h0_kept, h0_spare, .int (nI (if pm = 4 then 4 else pm + 1)), h0_isKept, h0_text, h0_typed, h0_isUsed, h0_planBatch, h0_planUnits, h0_planCents, h0_planMany, h0_planGot, h0_planSubstitutes, h0_at, h0_fault, h0_entries, h0_entry])), (zq, .inl (cI, 1002, .inl (upd (xins z (10 + 7 * kg + 3) lm pl (nI ks)) (10 + 7 * kg + 2) (nI (lm + 1))))), (pq, .inl (cI, 4008, .inl (zrec z past pm)))] H := hP
      have hS9 : va_S (va_B [(h0, .inr (10, [.ref zq, .ref pq, h0_kept, h0_spare, .int (nI pm), h0_isKept, h0_text, h0_typed, h0_isUsed, h0_planBatch, h0_planUnits, h0_planCents, h0_planMany, h0_planGot, h0_planSubstitutes, h0_at, h0_fault, h0_entries, h0_entry])), (zq, .inl (cI, 1002, .inl z)), (pq, .inl (cI, 4008, .inl past))]) s.heap H locs := by rw [← hA]; exact hS
      exact W.iret (v := nI (lm + 1)) hx hb hr (fun t ht hW => ⟨⟨_, _, rfl, ⟨(show nI (lm + 1) = nI (lm + 1) from rfl), rfl⟩, by rw [ht]; exact hP9⟩, hS9.X ht⟩) hS9.2.2 dX10_addSubstitute_171
    refine lv_aload_n hx hb dX10_addSubstitute_111 rfl (lv_at hl 3 rfl) ?_
    refine va_get (D := (dC, dI)) (ci := 10) (v := .ref zq) (C := RX10) (T := TX10) (N := 19) hx hb hts i_X10 hown hK hP 0 rfl rfl 0 (by decide) k_7 (fun _ h9 => h9) rfl dX10_addSubstitute_112 ?_
    refine lv_iload hx hb dX10_addSubstitute_115 (lv_at hl 1 rfl) ?_
    refine lv_iload hx hb dX10_addSubstitute_117 (lv_at hl 0 rfl) ?_
    refine xr_iadd_n hx hb dX10_addSubstitute_119 ?_
    refine lv_aload_n hx hb dX10_addSubstitute_120 rfl (lv_at hl 3 rfl) ?_
    refine va_get (D := (dC, dI)) (ci := 10) (v := .ref zq) (C := RX10) (T := TX10) (N := 19) hx hb hts i_X10 hown hK hP 0 rfl rfl 0 (by decide) k_7 (fun _ h9 => h9) rfl dX10_addSubstitute_121 ?_
    refine lv_iload hx hb dX10_addSubstitute_124 (lv_at hl 1 rfl) ?_
    refine lv_iload hx hb dX10_addSubstitute_126 (lv_at hl 0 rfl) ?_
    refine xr_iadd_n hx hb dX10_addSubstitute_128 ?_
    refine lv_iconst (v := nI 1) hx hb dX10_addSubstitute_129 (by decide) ?_
    refine xr_isub_n hx hb (by omega) dX10_addSubstitute_130 ?_
    refine xr_iald hx hb hK hP 1 0 rfl rfl (i := (((10 + (7 * kg)) + 3) + k2) - 1) (by omega) (by decide) dX10_addSubstitute_131 ?_
    refine xr_iast hx hb hK hP hD hS 1 0 rfl rfl (i := ((10 + (7 * kg)) + 3) + k2) (by omega) (by decide) dX10_addSubstitute_132 (fun H locs hP hD hS => ?_)
    have hP : va_P (dC, dI) vwCl [(h0, .inr (10, [.ref zq, .ref pq, h0_kept, h0_spare, .int (nI (if pm = 4 then 4 else pm + 1)), h0_isKept, h0_text, h0_typed, h0_isUsed, h0_planBatch, h0_planUnits, h0_planCents, h0_planMany, h0_planGot, h0_planSubstitutes, h0_at, h0_fault, h0_entries, h0_entry])), (zq, .inl (cI, 1002, .inl (upd lf (((10 + (7 * kg)) + 3) + k2) (lf ((((10 + (7 * kg)) + 3) + k2) - 1))))), (pq, .inl (cI, 4008, .inl (zrec z past pm)))] H := hP
    have hD : va_D A [(h0, .inr (10, [.ref zq, .ref pq, h0_kept, h0_spare, .int (nI (if pm = 4 then 4 else pm + 1)), h0_isKept, h0_text, h0_typed, h0_isUsed, h0_planBatch, h0_planUnits, h0_planCents, h0_planMany, h0_planGot, h0_planSubstitutes, h0_at, h0_fault, h0_entries, h0_entry])), (zq, .inl (cI, 1002, .inl (upd lf (((10 + (7 * kg)) + 3) + k2) (lf ((((10 + (7 * kg)) + 3) + k2) - 1))))), (pq, .inl (cI, 4008, .inl (zrec z past pm)))] := hD
    refine lv_iinc (v := nI (k2 - 1)) (lv' := [(6, .int (nI (k2 - 1))), (5, .int (nI ((10 + (7 * kg)) + 3))), (4, .int (nI lm)), (0, .ref h0), (1, .int (nI kg)), (2, .int (nI ks)), (3, .int (nI pl))]) hx hb dX10_addSubstitute_133 hl (k := 0) rfl (nI_dec1 (by omega)) (by decide) rfl (fun ls hl => ?_)
    refine lv_goto (tgt := 105) hx hb dX10_addSubstitute_136 (by decide) ?_
    exact ih_105 ((k2 - 1) + 1) _ _ _ (show (k2 - 1) + 1 < k2 + 1 from by omega) ⟨(k2 - 1), (upd lf (((10 + (7 * kg)) + 3) + k2) (lf ((((10 + (7 * kg)) + 3) + k2) - 1))), ls, rfl, rfl, lv_sub hl [0, 1, 2, 3, 4, 5, 6] rfl, hP, hD, hS, (⟨by omega, by omega⟩), (by rw [hlf]; exact xshr_1 (by omega) (by omega))⟩
  refine lv_aload_n hx hb dX10_addSubstitute_65 rfl (lv_at hl 3 rfl) ?_
  refine va_get (D := (dC, dI)) (ci := 10) (v := .ref zq) (C := RX10) (T := TX10) (N := 19) hx hb hts i_X10 hown hK hP 0 rfl rfl 0 (by decide) k_7 (fun _ h9 => h9) rfl dX10_addSubstitute_66 ?_
  refine lv_iload hx hb dX10_addSubstitute_69 (lv_at hl 1 rfl) ?_
  refine lv_iload hx hb dX10_addSubstitute_71 (lv_at hl 0 rfl) ?_
  refine xr_iadd_n hx hb dX10_addSubstitute_73 ?_
  refine xr_iald hx hb hK hP 1 0 rfl rfl (i := ((10 + (7 * kg)) + 3) + k) (by omega) (by decide) dX10_addSubstitute_74 ?_
  refine lv_iload_n hx hb dX10_addSubstitute_75 rfl (lv_at hl 5 rfl) ?_
  refine lv_icmp_ne (tgt := 82) hx hb dX10_addSubstitute_76 (by decide) (fun c_9 => ?_) (fun c_9 => False.elim (by exact hex ⟨k, by omega, c_9⟩))
  refine lv_iinc (v := nI (k + 1)) (lv' := [(6, .int (nI (k + 1))), (5, .int (nI ((10 + (7 * kg)) + 3))), (4, .int (nI lm)), (0, .ref h0), (1, .int (nI kg)), (2, .int (nI ks)), (3, .int (nI pl))]) hx hb dX10_addSubstitute_82 hl (k := 0) rfl (nI_inc1 k) (by decide) rfl (fun ls hl => ?_)
  refine lv_goto (tgt := 58) hx hb dX10_addSubstitute_85 (by decide) ?_
  exact ih_58 ((lm + 1) - (k + 1)) _ _ _ (show (lm + 1) - (k + 1) < (lm + 1) - k from by omega) ⟨(k + 1), ls, rfl, rfl, lv_sub hl [0, 1, 2, 3, 4, 5, 6] rfl, hP, hD, hS, (by omega), (fun j hj => by rcases (show j < k ∨ j = k by omega) with q | q; exact hne j q; rw [q]; exact c_9)⟩
