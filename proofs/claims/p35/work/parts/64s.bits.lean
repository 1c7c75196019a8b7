theorem xshr23 {b : Nat} (h : b < 2 ^ 31) : nI b >>> (nI 23 &&& 31) = nI (b / 8388608) := pk_shrN h _ 23 (by decide)
theorem xand23 {b : Nat} (h : b < 2 ^ 31) : nI b &&& nI 8388607 = nI (b % 8388608) := pk_andN (by omega) 23 (by decide)
theorem xor23 {b : Nat} (h : b < 8388608) : nI b ||| nI 8388608 = nI (b + 8388608) := by
  have e : b + 8388608 = b ||| 8388608 := by
    have := Nat.two_pow_add_eq_or_of_lt (i := 23) (b := b) h 1
    rw [Nat.mul_one] at this
    rw [Nat.add_comm, show (8388608 : Nat) = 2 ^ 23 from rfl, this, Nat.or_comm]
  rw [e]
  apply Int32.toBitVec_inj.mp
  rw [Int32.toBitVec_or]
  exact (BitVec.ofNat_or).symm
theorem xman_0 {b : Nat} (h : b / 8388608 = 0) : xman b = b % 8388608 ∧ xpow b = 1 := ⟨if_pos h, if_pos h⟩
theorem xman_1 {b : Nat} (h : 0 < b / 8388608) : xman b = b % 8388608 + 8388608 ∧ xpow b = b / 8388608 := ⟨if_neg (Nat.ne_of_gt h), if_neg (Nat.ne_of_gt h)⟩
theorem xman_b {b : Nat} (h : b ≤ 1120403456) (h0 : b / 8388608 = 0) : xman b = b := (xman_0 h0).1.trans (by omega)
theorem hdN_X9_floatOfBits : yX9_floatOfBits.cls ≠ "java/lang/invoke/MethodHandle" ∧ yX9_floatOfBits.cls ≠ "java/lang/invoke/VarHandle" ∧ (parseMethodDescriptor yX9_floatOfBits.desc).map (fun d => d.parameters.length) = some 1 := by decide +kernel
theorem hdS_X9_floatOfBits : yX9_floatOfBits.cls = RX9 ∧ yX9_floatOfBits.cls ≠ "java/lang/invoke/MethodHandle" ∧ yX9_floatOfBits.cls ≠ "java/lang/invoke/VarHandle" ∧ (parseMethodDescriptor yX9_floatOfBits.desc).map (fun d => d.parameters.length) = some 1 := by decide +kernel
set_option maxHeartbeats 4000000 in
set_option maxRecDepth 100000 in
theorem c_X9_floatOfBits (l : Launch) (dC : Nat → ClassId) (dI : Nat → Nat → Nat) (cI cF cC cZ cQ cS : ClassId) (bt : Nat) (hbt : bt ≤ 1120403456) : Met l yX9_floatOfBits wsX9_floatOfBits ({ frames := 0, cells := 0, slots := 0, locals := 0 }) (xPre (dC, dI) vwCl [.int (nI bt)] (xtys cI cF cC cZ cQ cS) []) (vp_Sf (fun r0 => r0 = xf1 (nI bt))) 0 0 (fun _ => False) := by
  refine Met.ofW (cc := cX9_floatOfBits) (maxL := 5) (ret := (some .float)) (by decide) rfl ?_
  intro p e s m args below meth c s₁ B hml hv
  obtain ⟨rfl, hP, hK, hD0, hN⟩ := hv
  have hx := B.exec
  have hb := B.bytes
  have hr := B.returns
  have hts := atoms_spec (ws := wsX9_floatOfBits) B.pre
  have hown : s.vm.findClass RX9 = some m.cls := findClass_of_methodNamed B.named
  have hlocks := B.notSynchronized
  have kc_353 := hts (Cond.constant RX9 353 (8388607)) (by decide +kernel)
  have kc_354 := hts (Cond.constant RX9 354 (8388608)) (by decide +kernel)
  have kf_355 := hts (Cond.constantFloat RX9 355 (1056964608)) (by decide +kernel)
  have hD := hD0
  have hl := lv_entry ([.int (nI bt)]) (n := 5) (Nat.le_of_ble_eq_true rfl)
  rw [lg_entry_eq]
  generalize (lg_sl ([.int (nI bt)]) ++ List.replicate (5 - (lg_sl ([.int (nI bt)])).length) Slot.unset).toArray = ls at hl ⊢
  have hl : lv_has ls 5 [(0, .int (nI bt))] := hl
  refine lv_iload_n hx hb dX9_floatOfBits_0 rfl (lv_at hl 0 rfl) ?_
  refine lv_bipush (v := nI 23) hx hb dX9_floatOfBits_1 (by decide) ?_
  refine lv_ishr hx hb dX9_floatOfBits_3 ?_
  refine xr_top (xshr23 (by omega)) ?_
  refine lv_istore_n (lv' := [(1, .int (nI (bt / 8388608))), (0, .int (nI bt))]) hx hb dX9_floatOfBits_4 rfl hl (by decide) rfl (fun ls hl => ?_)
  refine lv_iload_n hx hb dX9_floatOfBits_5 rfl (lv_at hl 1 rfl) ?_
  refine lv_ldcw hx hb hown kc_353 dX9_floatOfBits_6 ?_
  refine xr_top (show (8388607 : Int32) = nI 8388607 from rfl) ?_
  refine lv_iand hx hb dX9_floatOfBits_9 ?_
  refine xr_top (xand23 (by omega)) ?_
  refine lv_istore_n (lv' := [(2, .int (nI (bt % 8388608))), (1, .int (nI (bt / 8388608))), (0, .int (nI bt))]) hx hb dX9_floatOfBits_10 rfl hl (by decide) rfl (fun ls hl => ?_)
  refine lv_iload_n hx hb dX9_floatOfBits_11 rfl (lv_at hl 1 rfl) ?_
  refine xr_zne_n (tgt := 20) hx hb (by omega) dX9_floatOfBits_12 (by decide) (fun c_1 => ?_) (fun c_1 => ?_)
  · skip
    refine lv_iload_n hx hb dX9_floatOfBits_20 rfl (lv_at hl 0 rfl) ?_
    refine lv_ldcw hx hb hown kc_354 dX9_floatOfBits_21 ?_
    refine xr_top (show (8388608 : Int32) = nI 8388608 from rfl) ?_
    refine lv_ior hx hb dX9_floatOfBits_24 ?_
    refine xr_top (xor23 (Nat.mod_lt _ (by decide))) ?_
    refine lv_istore_n (lv' := [(2, .int (nI (bt % 8388608 + 8388608))), (1, .int (nI (bt / 8388608))), (0, .int (nI bt))]) hx hb dX9_floatOfBits_25 rfl hl (by decide) rfl (fun ls hl => ?_)
    have hmp := xman_1 c_1
    have hml9 := xman_lt bt
    have hpp := xpow_pos bt
    have hpu : xpow bt ≤ 133 := by rw [hmp.2]; omega
    have hl : lv_has ls 5 [(2, .int (nI (xman bt))), (1, .int (nI (xpow bt))), (0, .int (nI bt))] := by rw [hmp.1, hmp.2]; exact hl
    refine lv_iload_n hx hb dX9_floatOfBits_26 rfl (lv_at hl 0 rfl) ?_
    refine lv_i2f hx hb dX9_floatOfBits_27 ?_
    refine lv_fstore_n (lv' := [(3, .float (FP.i2f (nI (xman bt)))), (2, .int (nI (xman bt))), (1, .int (nI (xpow bt))), (0, .int (nI bt))]) hx hb dX9_floatOfBits_28 rfl hl (by decide) rfl (fun ls hl => ?_)
    refine lv_iload_n hx hb dX9_floatOfBits_29 rfl (lv_at hl 2 rfl) ?_
    refine lv_istore (lv' := [(4, .int (nI (xpow bt))), (3, .float (FP.i2f (nI (xman bt)))), (2, .int (nI (xman bt))), (1, .int (nI (xpow bt))), (0, .int (nI bt))]) hx hb dX9_floatOfBits_30 hl (by decide) rfl (fun ls hl => ?_)
    refine xr_loop (J := Nat) (fun n0 H locs g => ∃ (j : Nat) (fv : UInt32) (ls : Array Slot), H = s.heap ∧ locs = [] ∧ n0 = 151 - j ∧ g = F0 m 32 ls [] ∧ lv_has ls 5 [(4, .int (nI j)), (3, .float fv), (2, .int (nI (xman bt))), (1, .int (nI (xpow bt))), (0, .int (nI bt))] ∧ (xpow bt ≤ j ∧ j ≤ 150) ∧ (fv = xhm (xman bt) (j - xpow bt))) (fun n => n) ?_ (151 - (xpow bt)) (g := F0 m 32 ls []) ⟨(xpow bt), (FP.i2f (nI (xman bt))), ls, rfl, rfl, rfl, rfl, lv_sub hl [0, 1, 2, 3, 4] rfl, (⟨Nat.le_refl _, by omega⟩), (by rw [Nat.sub_self]; rfl)⟩
    intro n0 ih_32 H locs g hp
    obtain ⟨j, fv, ls, rfl, rfl, rfl, rfl, hl, hj, hfv⟩ := hp
    refine lv_iload hx hb dX9_floatOfBits_32 (lv_at hl 0 rfl) ?_
    refine lv_sipush (v := nI 150) hx hb dX9_floatOfBits_34 (by decide) ?_
    refine xr_ge_n (tgt := 52) hx hb (by omega) (by omega) dX9_floatOfBits_37 (by decide) (fun c_2 => ?_) (fun c_2 => ?_)
    · skip
      refine lv_fload_n hx hb dX9_floatOfBits_52 rfl (lv_at hl 1 rfl) ?_
      exact W.fret (v := fv) hx hb hr (fun t ht hW => ⟨_, rfl, (show fv = xf1 (nI bt) from (by rw [hfv, show j = 150 from by omega]; exact xhm_bits hbt)), ht⟩) (fun q h => by cases h) dX9_floatOfBits_53
    refine lv_fload_n hx hb dX9_floatOfBits_40 rfl (lv_at hl 1 rfl) ?_
    refine lv_ldcwf hx hb hown kf_355 dX9_floatOfBits_41 ?_
    refine lv_fmul hx hb dX9_floatOfBits_44 (by rw [hfv]; exact xhm_n (k := j - xpow bt + 1) hml9 (by omega)) ?_
    refine lv_fstore_n (lv' := [(3, .float (FP.fmul fv 1056964608)), (4, .int (nI j)), (2, .int (nI (xman bt))), (1, .int (nI (xpow bt))), (0, .int (nI bt))]) hx hb dX9_floatOfBits_45 rfl hl (by decide) rfl (fun ls hl => ?_)
    refine lv_iinc (v := nI (j + 1)) (lv' := [(4, .int (nI (j + 1))), (3, .float (FP.fmul fv 1056964608)), (2, .int (nI (xman bt))), (1, .int (nI (xpow bt))), (0, .int (nI bt))]) hx hb dX9_floatOfBits_46 hl (k := 1) rfl (nI_inc1 j) (by decide) rfl (fun ls hl => ?_)
    refine lv_goto (tgt := 32) hx hb dX9_floatOfBits_49 (by decide) ?_
    exact ih_32 (151 - (j + 1)) _ _ _ (show 151 - (j + 1) < 151 - j from by omega) ⟨(j + 1), (FP.fmul fv 1056964608), ls, rfl, rfl, rfl, rfl, lv_sub hl [0, 1, 2, 3, 4] rfl, (⟨by omega, by omega⟩), (by rw [hfv, show j + 1 - xpow bt = (j - xpow bt) + 1 from by omega]; rfl)⟩
  refine lv_iconst (v := nI 1) hx hb dX9_floatOfBits_15 (by decide) ?_
  refine lv_istore_n (lv' := [(1, .int (nI 1)), (2, .int (nI (bt % 8388608))), (0, .int (nI bt))]) hx hb dX9_floatOfBits_16 rfl hl (by decide) rfl (fun ls hl => ?_)
  refine lv_goto (tgt := 26) hx hb dX9_floatOfBits_17 (by decide) ?_
  have hmp := xman_0 c_1
  have hml9 := xman_lt bt
  have hpp := xpow_pos bt
  have hpu : xpow bt ≤ 133 := by rw [hmp.2]; omega
  have hl : lv_has ls 5 [(1, .int (nI (xpow bt))), (2, .int (nI (xman bt))), (0, .int (nI bt))] := by rw [hmp.1, hmp.2]; exact hl
  refine lv_iload_n hx hb dX9_floatOfBits_26 rfl (lv_at hl 1 rfl) ?_
  refine lv_i2f hx hb dX9_floatOfBits_27 ?_
  refine lv_fstore_n (lv' := [(3, .float (FP.i2f (nI (xman bt)))), (1, .int (nI (xpow bt))), (2, .int (nI (xman bt))), (0, .int (nI bt))]) hx hb dX9_floatOfBits_28 rfl hl (by decide) rfl (fun ls hl => ?_)
  refine lv_iload_n hx hb dX9_floatOfBits_29 rfl (lv_at hl 1 rfl) ?_
  refine lv_istore (lv' := [(4, .int (nI (xpow bt))), (3, .float (FP.i2f (nI (xman bt)))), (1, .int (nI (xpow bt))), (2, .int (nI (xman bt))), (0, .int (nI bt))]) hx hb dX9_floatOfBits_30 hl (by decide) rfl (fun ls hl => ?_)
  refine xr_loop (J := Nat) (fun n0 H locs g => ∃ (j : Nat) (fv : UInt32) (ls : Array Slot), H = s.heap ∧ locs = [] ∧ n0 = 151 - j ∧ g = F0 m 32 ls [] ∧ lv_has ls 5 [(4, .int (nI j)), (3, .float fv), (1, .int (nI (xpow bt))), (2, .int (nI (xman bt))), (0, .int (nI bt))] ∧ (xpow bt ≤ j ∧ j ≤ 150) ∧ (fv = xhm (xman bt) (j - xpow bt))) (fun n => n) ?_ (151 - (xpow bt)) (g := F0 m 32 ls []) ⟨(xpow bt), (FP.i2f (nI (xman bt))), ls, rfl, rfl, rfl, rfl, lv_sub hl [0, 1, 2, 3, 4] rfl, (⟨Nat.le_refl _, by omega⟩), (by rw [Nat.sub_self]; rfl)⟩
  intro n0 ih_32 H locs g hp
  obtain ⟨j, fv, ls, rfl, rfl, rfl, rfl, hl, hj, hfv⟩ := hp
  refine lv_iload hx hb dX9_floatOfBits_32 (lv_at hl 0 rfl) ?_
  refine lv_sipush (v := nI 150) hx hb dX9_floatOfBits_34 (by decide) ?_
  refine xr_ge_n (tgt := 52) hx hb (by omega) (by omega) dX9_floatOfBits_37 (by decide) (fun c_3 => ?_) (fun c_3 => ?_)
  · skip
    refine lv_fload_n hx hb dX9_floatOfBits_52 rfl (lv_at hl 1 rfl) ?_
    exact W.fret (v := fv) hx hb hr (fun t ht hW => ⟨_, rfl, (show fv = xf1 (nI bt) from (by rw [hfv, show j = 150 from by omega]; exact xhm_bits hbt)), ht⟩) (fun q h => by cases h) dX9_floatOfBits_53
  refine lv_fload_n hx hb dX9_floatOfBits_40 rfl (lv_at hl 1 rfl) ?_
  refine lv_ldcwf hx hb hown kf_355 dX9_floatOfBits_41 ?_
  refine lv_fmul hx hb dX9_floatOfBits_44 (by rw [hfv]; exact xhm_n (k := j - xpow bt + 1) hml9 (by omega)) ?_
  refine lv_fstore_n (lv' := [(3, .float (FP.fmul fv 1056964608)), (4, .int (nI j)), (1, .int (nI (xpow bt))), (2, .int (nI (xman bt))), (0, .int (nI bt))]) hx hb dX9_floatOfBits_45 rfl hl (by decide) rfl (fun ls hl => ?_)
  refine lv_iinc (v := nI (j + 1)) (lv' := [(4, .int (nI (j + 1))), (3, .float (FP.fmul fv 1056964608)), (1, .int (nI (xpow bt))), (2, .int (nI (xman bt))), (0, .int (nI bt))]) hx hb dX9_floatOfBits_46 hl (k := 1) rfl (nI_inc1 j) (by decide) rfl (fun ls hl => ?_)
  refine lv_goto (tgt := 32) hx hb dX9_floatOfBits_49 (by decide) ?_
  exact ih_32 (151 - (j + 1)) _ _ _ (show 151 - (j + 1) < 151 - j from by omega) ⟨(j + 1), (FP.fmul fv 1056964608), ls, rfl, rfl, rfl, rfl, lv_sub hl [0, 1, 2, 3, 4] rfl, (⟨by omega, by omega⟩), (by rw [hfv, show j + 1 - xpow bt = (j - xpow bt) + 1 from by omega]; rfl)⟩