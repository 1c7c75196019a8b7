theorem zrt_en (text : Nat → Int32) (tl : Nat) : ∀ (f a en : Nat) (row : Nat → Int32), (zrt text tl f a en row).2.2.1 ≤ en + f
  | 0, _, _, _ => Nat.le_refl _
  | f + 1, a, en, row => by
    unfold zrt
    split
    · show en + 1 ≤ en + (f + 1); omega
    · split
      · show en + 1 ≤ en + (f + 1); omega
      · have := zrt_en text tl f ((zrent text tl en a row).1 + 1) (en + 1) (zrent text tl en a row).2.2
        omega
theorem hdV_X10_whyNot : yX10_whyNot.cls = RX10 ∧ yX10_whyNot.cls ≠ "java/lang/invoke/MethodHandle" ∧ yX10_whyNot.cls ≠ "java/lang/invoke/VarHandle" ∧ (parseMethodDescriptor yX10_whyNot.desc).map (fun d => d.parameters.length) = some 0 := by decide +kernel
set_option maxHeartbeats 4000000 in
set_option maxRecDepth 100000 in
theorem c_X10_whyNotu (l : Launch) (dC : Nat → ClassId) (dI : Nat → Nat → Nat) (cI cF cC cZ cQ cS : ClassId) (h0 : Nat) (zq : Nat) (h0_past : Value) (h0_kept : Value) (h0_spare : Value) (h0_pastMany : Value) (h0_isKept : Value) (h0_text : Value) (h0_typed : Value) (h0_isUsed : Value) (h0_planBatch : Value) (h0_planUnits : Value) (h0_planCents : Value) (h0_planMany : Value) (h0_planGot : Value) (h0_planSubstitutes : Value) (h0_at : Value) (h0_fault : Value) (eq : Nat) (z : Nat → Int32) (ent : Nat → Int32) (en : Nat) (gz : Nat) (hz1 : z 1 = nI gz) (hgz : gz ≤ 12) (hen : en ≤ 16) (hex : ∃ e, e < en ∧ ¬ xhas (ent (3 * e)) gz) : Met l yX10_whyNot wsX10_whyNot ({ frames := 1, cells := 0, slots := 0, locals := 21 }) (xPre (dC, dI) vwCl [.ref h0] (xtys cI cF cC cZ cQ cS) [(h0, .inr (10, [.ref zq, h0_past, h0_kept, h0_spare, h0_pastMany, h0_isKept, h0_text, h0_typed, h0_isUsed, h0_planBatch, h0_planUnits, h0_planCents, h0_planMany, h0_planGot, h0_planSubstitutes, h0_at, h0_fault, .int (nI en), .ref eq])), (zq, .inl (cI, 1002, .inl z)), (eq, .inl (cI, 60, .inl ent))]) (vp_Si (fun r0 => r0 = (-1))) 0 0 (fun _ => False) := by
  refine Met.ofW (cc := cX10_whyNot) (maxL := 4) (ret := (some .int)) (by decide) rfl ?_
  intro p e s m args below meth c s₁ B hml hv
  obtain ⟨rfl, hP, hK, hD0, hN⟩ := hv
  have hx := B.exec
  have hb := B.bytes
  have hr := B.returns
  have hts := atoms_spec (ws := wsX10_whyNot) B.pre
  have hown : s.vm.findClass RX10 = some m.cls := findClass_of_methodNamed B.named
  have hlocks := B.notSynchronized
  have k_169 := hts (Cond.fieldLink RX10 169 "ShelfStagesModel" "entries" "I") (by decide +kernel)
  have k_39 := hts (Cond.fieldLink RX10 39 "ShelfStagesModel" "entry" "[I") (by decide +kernel)
  have i_X10 : ∀ w ∈ wsX100, w ∈ wsX10_whyNot := by decide +kernel
  have hD := hD0
  have hl := lv_entry ([.ref h0]) (n := 4) (Nat.le_of_ble_eq_true rfl)
  rw [lg_entry_eq]
  generalize (lg_sl ([.ref h0]) ++ List.replicate (4 - (lg_sl ([.ref h0])).length) Slot.unset).toArray = ls at hl ⊢
  have hl : lv_has ls 4 [(0, .ref h0)] := hl
  refine lv_iconst (v := nI 0) hx hb dX10_whyNot_0 (by decide) ?_
  refine lv_istore_n (lv' := [(1, .int (nI 0)), (0, .ref h0)]) hx hb dX10_whyNot_1 rfl hl (by decide) rfl (fun ls hl => ?_)
  refine xr_loop (J := Nat) (fun n0 H locs g => ∃ (k : Nat) (ls : Array Slot), H = s.heap ∧ locs = [] ∧ n0 = (en + 1) - k ∧ g = F0 m 2 ls [] ∧ lv_has ls 4 [(1, .int (nI k)), (0, .ref h0)] ∧ (k ≤ en) ∧ (∀ e, e < k → xhas (ent (3 * e)) gz)) (fun n => n) ?_ ((en + 1) - 0) (g := F0 m 2 ls []) ⟨0, ls, rfl, rfl, rfl, rfl, lv_sub hl [0, 1] rfl, (Nat.zero_le _), (fun e he => absurd he (Nat.not_lt_zero e))⟩
  intro n0 ih_2 H locs g hp
  obtain ⟨k, ls, rfl, rfl, rfl, rfl, hl, hk, hne⟩ := hp
  refine lv_iload_n hx hb dX10_whyNot_2 rfl (lv_at hl 0 rfl) ?_
  refine lv_aload_n hx hb dX10_whyNot_3 rfl (lv_at hl 1 rfl) ?_
  refine va_get (D := (dC, dI)) (ci := 10) (v := .int (nI en)) (C := RX10) (T := TX10) (N := 19) hx hb hts i_X10 hown hK hP 0 rfl rfl 17 (by decide) k_169 (fun _ h9 => h9) rfl dX10_whyNot_4 ?_
  refine xr_ge_n (tgt := 33) hx hb (by omega) (by omega) dX10_whyNot_7 (by decide) (fun c_1 => False.elim (by exact hex.elim (fun e he => he.2 (hne e (by omega))))) (fun c_1 => ?_)
  refine lv_aload_n hx hb dX10_whyNot_10 rfl (lv_at hl 1 rfl) ?_
  refine lv_aload_n hx hb dX10_whyNot_11 rfl (lv_at hl 1 rfl) ?_
  refine va_get (D := (dC, dI)) (ci := 10) (v := .ref eq) (C := RX10) (T := TX10) (N := 19) hx hb hts i_X10 hown hK hP 0 rfl rfl 18 (by decide) k_39 (fun _ h9 => h9) rfl dX10_whyNot_12 ?_
  refine lv_iconst (v := nI 3) hx hb dX10_whyNot_15 (by decide) ?_
  refine lv_iload_n hx hb dX10_whyNot_16 rfl (lv_at hl 0 rfl) ?_
  refine xr_imul_n hx hb dX10_whyNot_17 ?_
  refine xr_iald hx hb hK hP 2 0 rfl rfl (i := 3 * k) (by omega) (by decide) dX10_whyNot_18 ?_
  refine xkRi (xV (As := [.int (ent (3 * k))]) (rest := []) (wc := [(h0, .inr (10, [.ref zq, h0_past, h0_kept, h0_spare, h0_pastMany, h0_isKept, h0_text, h0_typed, h0_isUsed, h0_planBatch, h0_planUnits, h0_planCents, h0_planMany, h0_planGot, h0_planSubstitutes, h0_at, h0_fault, .int (nI en), .ref eq])), (zq, .inl (cI, 1002, .inl z))]) hx hb hml hown hts (c_X10_isGood l dC dI cI cF cC cZ cQ cS h0 zq h0_past h0_kept h0_spare h0_pastMany h0_isKept h0_text h0_typed h0_isUsed h0_planBatch h0_planUnits h0_planCents h0_planMany h0_planGot h0_planSubstitutes h0_at h0_fault (.int (nI en)) (.ref eq) z (ent (3 * k)) gz (by omega) (by omega)) 1 gX10_whyNot_X10_isGood rfl rfl rfl hdV_X10_isGood ⟨Nat.le_of_ble_eq_true rfl, Nat.le_of_ble_eq_true rfl⟩ hN hK hP hD [0, 1] rfl rfl 10 0 rfl rfl rfl hl.1 rfl (Nat.le_of_ble_eq_true rfl) dX10_whyNot_19 ⟨Nat.zero_le _, Nat.zero_le _⟩) (fun r_2 hr_2 => ?_)
  have hr_2 : r_2 = (if xhas (ent (3 * k)) gz then nI 1 else nI 0) := hr_2
  rcases xi_ite inferInstance hr_2 with ⟨c_3, hr_2⟩ | ⟨c_3, hr_2⟩
  · subst hr_2
    refine xr_ifn1 (tgt := 27) hx hb (by decide) dX10_whyNot_22 (by decide) ?_
    refine lv_iinc (v := nI (k + 1)) (lv' := [(1, .int (nI (k + 1))), (0, .ref h0)]) hx hb dX10_whyNot_27 hl (k := 0) rfl (nI_inc1 k) (by decide) rfl (fun ls hl => ?_)
    refine lv_goto (tgt := 2) hx hb dX10_whyNot_30 (by decide) ?_
    exact ih_2 ((en + 1) - (k + 1)) _ _ _ (show (en + 1) - (k + 1) < (en + 1) - k from by omega) ⟨(k + 1), ls, rfl, rfl, rfl, rfl, lv_sub hl [0, 1] rfl, (by omega), (fun e he => by rcases (show e < k ∨ e = k by omega) with q | q; exact hne e q; rw [q]; exact c_3)⟩
  subst hr_2
  refine xr_ifn0 (tgt := 27) hx hb (by decide) dX10_whyNot_22 (by decide) ?_
  refine lv_iconst (v := (-1)) hx hb dX10_whyNot_25 (by decide) ?_
  exact W.iret (v := (-1)) hx hb hr (fun t ht hW => ⟨_, rfl, (show (-1) = (-1) from rfl), ht⟩) (fun q h => by cases h) dX10_whyNot_26
set_option maxHeartbeats 4000000 in
set_option maxRecDepth 100000 in
theorem c_X10_whyNotb (l : Launch) (dC : Nat → ClassId) (dI : Nat → Nat → Nat) (cI cF cC cZ cQ cS : ClassId) (h0 : Nat) (zq : Nat) (h0_past : Value) (h0_kept : Value) (h0_spare : Value) (h0_pastMany : Value) (h0_isKept : Value) (h0_text : Value) (h0_typed : Value) (h0_isUsed : Value) (h0_planBatch : Value) (h0_planUnits : Value) (h0_planCents : Value) (h0_planMany : Value) (h0_planGot : Value) (h0_planSubstitutes : Value) (h0_at : Value) (h0_fault : Value) (eq : Nat) (z : Nat → Int32) (ent : Nat → Int32) (en : Nat) (gz : Nat) (hz1 : z 1 = nI gz) (hgz : gz ≤ 12) (hen : en ≤ 16) (hall : ∀ e, e < en → xhas (ent (3 * e)) gz) (hex : ∃ e, e < en ∧ ¬ zsup ent z e) : Met l yX10_whyNot wsX10_whyNot ({ frames := 1, cells := 0, slots := 0, locals := 22 }) (xPre (dC, dI) vwCl [.ref h0] (xtys cI cF cC cZ cQ cS) [(h0, .inr (10, [.ref zq, h0_past, h0_kept, h0_spare, h0_pastMany, h0_isKept, h0_text, h0_typed, h0_isUsed, h0_planBatch, h0_planUnits, h0_planCents, h0_planMany, h0_planGot, h0_planSubstitutes, h0_at, h0_fault, .int (nI en), .ref eq])), (zq, .inl (cI, 1002, .inl z)), (eq, .inl (cI, 60, .inl ent))]) (vp_Si (fun r0 => r0 = (-2))) 0 0 (fun _ => False) := by
  refine Met.ofW (cc := cX10_whyNot) (maxL := 4) (ret := (some .int)) (by decide) rfl ?_
  intro p e s m args below meth c s₁ B hml hv
  obtain ⟨rfl, hP, hK, hD0, hN⟩ := hv
  have hx := B.exec
  have hb := B.bytes
  have hr := B.returns
  have hts := atoms_spec (ws := wsX10_whyNot) B.pre
  have hown : s.vm.findClass RX10 = some m.cls := findClass_of_methodNamed B.named
  have hlocks := B.notSynchronized
  have k_169 := hts (Cond.fieldLink RX10 169 "ShelfStagesModel" "entries" "I") (by decide +kernel)
  have k_39 := hts (Cond.fieldLink RX10 39 "ShelfStagesModel" "entry" "[I") (by decide +kernel)
  have i_X10 : ∀ w ∈ wsX100, w ∈ wsX10_whyNot := by decide +kernel
  have hD := hD0
  have hl := lv_entry ([.ref h0]) (n := 4) (Nat.le_of_ble_eq_true rfl)
  rw [lg_entry_eq]
  generalize (lg_sl ([.ref h0]) ++ List.replicate (4 - (lg_sl ([.ref h0])).length) Slot.unset).toArray = ls at hl ⊢
  have hl : lv_has ls 4 [(0, .ref h0)] := hl
  refine lv_iconst (v := nI 0) hx hb dX10_whyNot_0 (by decide) ?_
  refine lv_istore_n (lv' := [(1, .int (nI 0)), (0, .ref h0)]) hx hb dX10_whyNot_1 rfl hl (by decide) rfl (fun ls hl => ?_)
  refine xr_loop (J := Nat) (fun n0 H locs g => ∃ (k : Nat) (ls : Array Slot), H = s.heap ∧ locs = [] ∧ n0 = (en + 1) - k ∧ g = F0 m 2 ls [] ∧ lv_has ls 4 [(1, .int (nI k)), (0, .ref h0)] ∧ (k ≤ en)) (fun n => n) ?_ ((en + 1) - 0) (g := F0 m 2 ls []) ⟨0, ls, rfl, rfl, rfl, rfl, lv_sub hl [0, 1] rfl, (Nat.zero_le _)⟩
  intro n0 ih_2 H locs g hp
  obtain ⟨k, ls, rfl, rfl, rfl, rfl, hl, hk⟩ := hp
  refine lv_iload_n hx hb dX10_whyNot_2 rfl (lv_at hl 0 rfl) ?_
  refine lv_aload_n hx hb dX10_whyNot_3 rfl (lv_at hl 1 rfl) ?_
  refine va_get (D := (dC, dI)) (ci := 10) (v := .int (nI en)) (C := RX10) (T := TX10) (N := 19) hx hb hts i_X10 hown hK hP 0 rfl rfl 17 (by decide) k_169 (fun _ h9 => h9) rfl dX10_whyNot_4 ?_
  refine xr_ge_n (tgt := 33) hx hb (by omega) (by omega) dX10_whyNot_7 (by decide) (fun c_1 => ?_) (fun c_1 => ?_)
  · skip
    refine lv_iconst (v := nI 0) hx hb dX10_whyNot_33 (by decide) ?_
    refine lv_istore_n (lv' := [(1, .int (nI 0)), (0, .ref h0)]) hx hb dX10_whyNot_34 rfl hl (by decide) rfl (fun ls hl => ?_)
    refine xr_loop (J := Nat) (fun n0 H locs g => ∃ (m2 : Nat) (ls : Array Slot), H = s.heap ∧ locs = [] ∧ n0 = (en + 1) - m2 ∧ g = F0 m 35 ls [] ∧ lv_has ls 4 [(1, .int (nI m2)), (0, .ref h0)] ∧ (m2 ≤ en) ∧ (∀ e, e < m2 → zsup ent z e)) (fun n => n) ?_ ((en + 1) - 0) (g := F0 m 35 ls []) ⟨0, ls, rfl, rfl, rfl, rfl, lv_sub hl [0, 1] rfl, (Nat.zero_le _), (fun e he => absurd he (Nat.not_lt_zero e))⟩
    intro n0 ih_35 H locs g hp
    obtain ⟨m2, ls, rfl, rfl, rfl, rfl, hl, hm2, hns⟩ := hp
    refine lv_iload_n hx hb dX10_whyNot_35 rfl (lv_at hl 0 rfl) ?_
    refine lv_aload_n hx hb dX10_whyNot_36 rfl (lv_at hl 1 rfl) ?_
    refine va_get (D := (dC, dI)) (ci := 10) (v := .int (nI en)) (C := RX10) (T := TX10) (N := 19) hx hb hts i_X10 hown hK hP 0 rfl rfl 17 (by decide) k_169 (fun _ h9 => h9) rfl dX10_whyNot_37 ?_
    refine xr_ge_n (tgt := 129) hx hb (by omega) (by omega) dX10_whyNot_40 (by decide) (fun c_2 => False.elim (by exact hex.elim (fun e he => he.2 (hns e (by omega))))) (fun c_2 => ?_)
    refine lv_aload_n hx hb dX10_whyNot_43 rfl (lv_at hl 1 rfl) ?_
    refine lv_aload_n hx hb dX10_whyNot_44 rfl (lv_at hl 1 rfl) ?_
    refine va_get (D := (dC, dI)) (ci := 10) (v := .ref eq) (C := RX10) (T := TX10) (N := 19) hx hb hts i_X10 hown hK hP 0 rfl rfl 18 (by decide) k_39 (fun _ h9 => h9) rfl dX10_whyNot_45 ?_
    refine lv_iconst (v := nI 3) hx hb dX10_whyNot_48 (by decide) ?_
    refine lv_iload_n hx hb dX10_whyNot_49 rfl (lv_at hl 0 rfl) ?_
    refine xr_imul_n hx hb dX10_whyNot_50 ?_
    refine xr_iald hx hb hK hP 2 0 rfl rfl (i := 3 * m2) (by omega) (by decide) dX10_whyNot_51 ?_
    refine xr_top (show ent (3 * m2) = nI ((ent (3 * m2)).toNatClampNeg) from (xhas_idx (hall m2 (by omega)) (by omega)).2) ?_
    refine lv_iconst (v := nI 1) hx hb dX10_whyNot_52 (by decide) ?_
    refine xkRi (xV (As := [.int (nI ((ent (3 * m2)).toNatClampNeg)), .int (nI 1)]) (rest := []) (wc := [(h0, .inr (10, [.ref zq, h0_past, h0_kept, h0_spare, h0_pastMany, h0_isKept, h0_text, h0_typed, h0_isUsed, h0_planBatch, h0_planUnits, h0_planCents, h0_planMany, h0_planGot, h0_planSubstitutes, h0_at, h0_fault, .int (nI en), .ref eq])), (zq, .inl (cI, 1002, .inl z))]) hx hb hml hown hts (c_X10_ofGood l dC dI cI cF cC cZ cQ cS h0 zq h0_past h0_kept h0_spare h0_pastMany h0_isKept h0_text h0_typed h0_isUsed h0_planBatch h0_planUnits h0_planCents h0_planMany h0_planGot h0_planSubstitutes h0_at h0_fault (.int (nI en)) (.ref eq) z ((ent (3 * m2)).toNatClampNeg) 1 (Nat.lt_of_lt_of_le (xhas_idx (hall m2 (by omega)) (by omega)).1 hgz) (by omega)) 2 gX10_whyNot_X10_ofGood rfl rfl rfl hdV_X10_ofGood ⟨Nat.le_of_ble_eq_true rfl, Nat.le_of_ble_eq_true rfl⟩ hN hK hP hD [0, 1] rfl rfl 10 0 rfl rfl rfl hl.1 rfl (Nat.le_of_ble_eq_true rfl) dX10_whyNot_53 ⟨Nat.zero_le _, Nat.zero_le _⟩) (fun r_3 hr_3 => ?_)
    obtain rfl : r_3 = zG z ((ent (3 * m2)).toNatClampNeg) 1 := hr_3
    refine lv_istore_n (lv' := [(2, .int (zG z ((ent (3 * m2)).toNatClampNeg) 1)), (1, .int (nI m2)), (0, .ref h0)]) hx hb dX10_whyNot_56 rfl hl (by decide) rfl (fun ls hl => ?_)
    refine lv_aload_n hx hb dX10_whyNot_57 rfl (lv_at hl 2 rfl) ?_
    refine va_get (D := (dC, dI)) (ci := 10) (v := .ref eq) (C := RX10) (T := TX10) (N := 19) hx hb hts i_X10 hown hK hP 0 rfl rfl 18 (by decide) k_39 (fun _ h9 => h9) rfl dX10_whyNot_58 ?_
    refine lv_iconst (v := nI 3) hx hb dX10_whyNot_61 (by decide) ?_
    refine lv_iload_n hx hb dX10_whyNot_62 rfl (lv_at hl 1 rfl) ?_
    refine xr_imul_n hx hb dX10_whyNot_63 ?_
    refine lv_iconst (v := nI 2) hx hb dX10_whyNot_64 (by decide) ?_
    refine xr_iadd_n hx hb dX10_whyNot_65 ?_
    refine xr_iald hx hb hK hP 2 0 rfl rfl (i := (3 * m2) + 2) (by omega) (by decide) dX10_whyNot_66 ?_
    refine lv_bipush (v := (-5)) hx hb dX10_whyNot_67 (by decide) ?_
    refine lv_icmp_eq (tgt := 90) hx hb dX10_whyNot_69 (by decide) (fun c_4 => ?_) (fun c_4 => ?_)
    · skip
      refine lv_iconst (v := nI 1) hx hb dX10_whyNot_90 (by decide) ?_
      refine lv_goto (tgt := 95) hx hb dX10_whyNot_91 (by decide) ?_
      refine lv_istore_n (lv' := [(3, .int (nI 1)), (2, .int (zG z ((ent (3 * m2)).toNatClampNeg) 1)), (1, .int (nI m2)), (0, .ref h0)]) hx hb dX10_whyNot_95 rfl hl (by decide) rfl (fun ls hl => ?_)
      refine lv_iload_n hx hb dX10_whyNot_96 rfl (lv_at hl 0 rfl) ?_
      refine xr_if1 (tgt := 120) hx hb (by decide) dX10_whyNot_97 (by decide) ?_
      refine lv_aload_n hx hb dX10_whyNot_100 rfl (lv_at hl 3 rfl) ?_
      refine va_get (D := (dC, dI)) (ci := 10) (v := .ref eq) (C := RX10) (T := TX10) (N := 19) hx hb hts i_X10 hown hK hP 0 rfl rfl 18 (by decide) k_39 (fun _ h9 => h9) rfl dX10_whyNot_101 ?_
      refine lv_iconst (v := nI 3) hx hb dX10_whyNot_104 (by decide) ?_
      refine lv_iload_n hx hb dX10_whyNot_105 rfl (lv_at hl 2 rfl) ?_
      refine xr_imul_n hx hb dX10_whyNot_106 ?_
      refine lv_iconst (v := nI 1) hx hb dX10_whyNot_107 (by decide) ?_
      refine xr_iadd_n hx hb dX10_whyNot_108 ?_
      refine xr_iald hx hb hK hP 2 0 rfl rfl (i := (3 * m2) + 1) (by omega) (by decide) dX10_whyNot_109 ?_
      refine lv_iconst (v := nI 1) hx hb dX10_whyNot_110 (by decide) ?_
      refine lv_sipush (v := nI 999) hx hb dX10_whyNot_111 (by decide) ?_
      refine xkRi (xSs (Ws' := ([] : List Cond)) (As := [.int (ent ((3 * m2) + 1)), .int (nI 1), .int (nI 999)]) (rest := []) (wc := []) hx hb hml hown hts (c_X10_in l dC dI cI cF cC cZ cQ cS (ent ((3 * m2) + 1)) (nI 1) (nI 999)) 3 (fun hR => va_cwS 3 hts gX10_whyNot_X10_in rfl rfl rfl hdN_X10_in hR) ⟨Nat.le_of_ble_eq_true rfl, Nat.le_of_ble_eq_true rfl⟩ hN hK hP hD [] rfl rfl rfl hl.1 rfl (Nat.le_of_ble_eq_true rfl) dX10_whyNot_114 ⟨Nat.zero_le _, Nat.zero_le _⟩) (fun r_5 hr_5 => ?_)
      have hr_5 : r_5 = (if (nI 1) ≤ (ent ((3 * m2) + 1)) ∧ (ent ((3 * m2) + 1)) ≤ (nI 999) then nI 1 else nI 0) := hr_5
      rcases xi_ite inferInstance hr_5 with ⟨c_6, hr_5⟩ | ⟨c_6, hr_5⟩
      · subst hr_5
        refine xr_ifn1 (tgt := 123) hx hb (by decide) dX10_whyNot_117 (by decide) ?_
        refine lv_iinc (v := nI (m2 + 1)) (lv' := [(1, .int (nI (m2 + 1))), (3, .int (nI 1)), (2, .int (zG z ((ent (3 * m2)).toNatClampNeg) 1)), (0, .ref h0)]) hx hb dX10_whyNot_123 hl (k := 2) rfl (nI_inc1 m2) (by decide) rfl (fun ls hl => ?_)
        refine lv_goto (tgt := 35) hx hb dX10_whyNot_126 (by decide) ?_
        exact ih_35 ((en + 1) - (m2 + 1)) _ _ _ (show (en + 1) - (m2 + 1) < (en + 1) - m2 from by omega) ⟨(m2 + 1), ls, rfl, rfl, rfl, rfl, lv_sub hl [0, 3] rfl, (by omega), (fun e he => by rcases (show e < m2 ∨ e = m2 by omega) with q | q; exact hns e q; rw [q]; exact ⟨Or.inl c_4, c_6⟩)⟩
      subst hr_5
      refine xr_ifn0 (tgt := 123) hx hb (by decide) dX10_whyNot_117 (by decide) ?_
      refine lv_bipush (v := (-2)) hx hb dX10_whyNot_120 (by decide) ?_
      exact W.iret (v := (-2)) hx hb hr (fun t ht hW => ⟨_, rfl, (show (-2) = (-2) from rfl), ht⟩) (fun q h => by cases h) dX10_whyNot_122
    refine lv_aload_n hx hb dX10_whyNot_72 rfl (lv_at hl 2 rfl) ?_
    refine va_get (D := (dC, dI)) (ci := 10) (v := .ref eq) (C := RX10) (T := TX10) (N := 19) hx hb hts i_X10 hown hK hP 0 rfl rfl 18 (by decide) k_39 (fun _ h9 => h9) rfl dX10_whyNot_73 ?_
    refine lv_iconst (v := nI 3) hx hb dX10_whyNot_76 (by decide) ?_
    refine lv_iload_n hx hb dX10_whyNot_77 rfl (lv_at hl 1 rfl) ?_
    refine xr_imul_n hx hb dX10_whyNot_78 ?_
    refine lv_iconst (v := nI 2) hx hb dX10_whyNot_79 (by decide) ?_
    refine xr_iadd_n hx hb dX10_whyNot_80 ?_
    refine xr_iald hx hb hK hP 2 0 rfl rfl (i := (3 * m2) + 2) (by omega) (by decide) dX10_whyNot_81 ?_
    refine lv_iconst (v := nI 1) hx hb dX10_whyNot_82 (by decide) ?_
    refine lv_iload_n hx hb dX10_whyNot_83 rfl (lv_at hl 0 rfl) ?_
    refine xkRi (xSs (Ws' := ([] : List Cond)) (As := [.int (ent ((3 * m2) + 2)), .int (nI 1), .int (zG z ((ent (3 * m2)).toNatClampNeg) 1)]) (rest := []) (wc := []) hx hb hml hown hts (c_X10_in l dC dI cI cF cC cZ cQ cS (ent ((3 * m2) + 2)) (nI 1) (zG z ((ent (3 * m2)).toNatClampNeg) 1)) 3 (fun hR => va_cwS 3 hts gX10_whyNot_X10_in rfl rfl rfl hdN_X10_in hR) ⟨Nat.le_of_ble_eq_true rfl, Nat.le_of_ble_eq_true rfl⟩ hN hK hP hD [] rfl rfl rfl hl.1 rfl (Nat.le_of_ble_eq_true rfl) dX10_whyNot_84 ⟨Nat.zero_le _, Nat.zero_le _⟩) (fun r_7 hr_7 => ?_)
    have hr_7 : r_7 = (if (nI 1) ≤ (ent ((3 * m2) + 2)) ∧ (ent ((3 * m2) + 2)) ≤ (zG z ((ent (3 * m2)).toNatClampNeg) 1) then nI 1 else nI 0) := hr_7
    rcases xi_ite inferInstance hr_7 with ⟨c_8, hr_7⟩ | ⟨c_8, hr_7⟩
    · subst hr_7
      refine xr_if1 (tgt := 94) hx hb (by decide) dX10_whyNot_87 (by decide) ?_
      refine lv_iconst (v := nI 1) hx hb dX10_whyNot_90 (by decide) ?_
      refine lv_goto (tgt := 95) hx hb dX10_whyNot_91 (by decide) ?_
      refine lv_istore_n (lv' := [(3, .int (nI 1)), (2, .int (zG z ((ent (3 * m2)).toNatClampNeg) 1)), (1, .int (nI m2)), (0, .ref h0)]) hx hb dX10_whyNot_95 rfl hl (by decide) rfl (fun ls hl => ?_)
      refine lv_iload_n hx hb dX10_whyNot_96 rfl (lv_at hl 0 rfl) ?_
      refine xr_if1 (tgt := 120) hx hb (by decide) dX10_whyNot_97 (by decide) ?_
      refine lv_aload_n hx hb dX10_whyNot_100 rfl (lv_at hl 3 rfl) ?_
      refine va_get (D := (dC, dI)) (ci := 10) (v := .ref eq) (C := RX10) (T := TX10) (N := 19) hx hb hts i_X10 hown hK hP 0 rfl rfl 18 (by decide) k_39 (fun _ h9 => h9) rfl dX10_whyNot_101 ?_
      refine lv_iconst (v := nI 3) hx hb dX10_whyNot_104 (by decide) ?_
      refine lv_iload_n hx hb dX10_whyNot_105 rfl (lv_at hl 2 rfl) ?_
      refine xr_imul_n hx hb dX10_whyNot_106 ?_
      refine lv_iconst (v := nI 1) hx hb dX10_whyNot_107 (by decide) ?_
      refine xr_iadd_n hx hb dX10_whyNot_108 ?_
      refine xr_iald hx hb hK hP 2 0 rfl rfl (i := (3 * m2) + 1) (by omega) (by decide) dX10_whyNot_109 ?_
      refine lv_iconst (v := nI 1) hx hb dX10_whyNot_110 (by decide) ?_
      refine lv_sipush (v := nI 999) hx hb dX10_whyNot_111 (by decide) ?_
      refine xkRi (xSs (Ws' := ([] : List Cond)) (As := [.int (ent ((3 * m2) + 1)), .int (nI 1), .int (nI 999)]) (rest := []) (wc := []) hx hb hml hown hts (c_X10_in l dC dI cI cF cC cZ cQ cS (ent ((3 * m2) + 1)) (nI 1) (nI 999)) 3 (fun hR => va_cwS 3 hts gX10_whyNot_X10_in rfl rfl rfl hdN_X10_in hR) ⟨Nat.le_of_ble_eq_true rfl, Nat.le_of_ble_eq_true rfl⟩ hN hK hP hD [] rfl rfl rfl hl.1 rfl (Nat.le_of_ble_eq_true rfl) dX10_whyNot_114 ⟨Nat.zero_le _, Nat.zero_le _⟩) (fun r_9 hr_9 => ?_)
      have hr_9 : r_9 = (if (nI 1) ≤ (ent ((3 * m2) + 1)) ∧ (ent ((3 * m2) + 1)) ≤ (nI 999) then nI 1 else nI 0) := hr_9
      rcases xi_ite inferInstance hr_9 with ⟨c_10, hr_9⟩ | ⟨c_10, hr_9⟩
      · subst hr_9
        refine xr_ifn1 (tgt := 123) hx hb (by decide) dX10_whyNot_117 (by decide) ?_
        refine lv_iinc (v := nI (m2 + 1)) (lv' := [(1, .int (nI (m2 + 1))), (3, .int (nI 1)), (2, .int (zG z ((ent (3 * m2)).toNatClampNeg) 1)), (0, .ref h0)]) hx hb dX10_whyNot_123 hl (k := 2) rfl (nI_inc1 m2) (by decide) rfl (fun ls hl => ?_)
        refine lv_goto (tgt := 35) hx hb dX10_whyNot_126 (by decide) ?_
        exact ih_35 ((en + 1) - (m2 + 1)) _ _ _ (show (en + 1) - (m2 + 1) < (en + 1) - m2 from by omega) ⟨(m2 + 1), ls, rfl, rfl, rfl, rfl, lv_sub hl [0, 3] rfl, (by omega), (fun e he => by rcases (show e < m2 ∨ e = m2 by omega) with q | q; exact hns e q; rw [q]; exact ⟨Or.inr c_8, c_10⟩)⟩
      subst hr_9
      refine xr_ifn0 (tgt := 123) hx hb (by decide) dX10_whyNot_117 (by decide) ?_
      refine lv_bipush (v := (-2)) hx hb dX10_whyNot_120 (by decide) ?_
      exact W.iret (v := (-2)) hx hb hr (fun t ht hW => ⟨_, rfl, (show (-2) = (-2) from rfl), ht⟩) (fun q h => by cases h) dX10_whyNot_122
    subst hr_7
    refine xr_if0 (tgt := 94) hx hb (by decide) dX10_whyNot_87 (by decide) ?_
    refine lv_iconst (v := nI 0) hx hb dX10_whyNot_94 (by decide) ?_
    refine lv_istore_n (lv' := [(3, .int (nI 0)), (2, .int (zG z ((ent (3 * m2)).toNatClampNeg) 1)), (1, .int (nI m2)), (0, .ref h0)]) hx hb dX10_whyNot_95 rfl hl (by decide) rfl (fun ls hl => ?_)
    refine lv_iload_n hx hb dX10_whyNot_96 rfl (lv_at hl 0 rfl) ?_
    refine xr_if0 (tgt := 120) hx hb (by decide) dX10_whyNot_97 (by decide) ?_
    refine lv_bipush (v := (-2)) hx hb dX10_whyNot_120 (by decide) ?_
    exact W.iret (v := (-2)) hx hb hr (fun t ht hW => ⟨_, rfl, (show (-2) = (-2) from rfl), ht⟩) (fun q h => by cases h) dX10_whyNot_122
  refine lv_aload_n hx hb dX10_whyNot_10 rfl (lv_at hl 1 rfl) ?_
  refine lv_aload_n hx hb dX10_whyNot_11 rfl (lv_at hl 1 rfl) ?_
  refine va_get (D := (dC, dI)) (ci := 10) (v := .ref eq) (C := RX10) (T := TX10) (N := 19) hx hb hts i_X10 hown hK hP 0 rfl rfl 18 (by decide) k_39 (fun _ h9 => h9) rfl dX10_whyNot_12 ?_
  refine lv_iconst (v := nI 3) hx hb dX10_whyNot_15 (by decide) ?_
  refine lv_iload_n hx hb dX10_whyNot_16 rfl (lv_at hl 0 rfl) ?_
  refine xr_imul_n hx hb dX10_whyNot_17 ?_
  refine xr_iald hx hb hK hP 2 0 rfl rfl (i := 3 * k) (by omega) (by decide) dX10_whyNot_18 ?_
  refine xkRi (xV (As := [.int (ent (3 * k))]) (rest := []) (wc := [(h0, .inr (10, [.ref zq, h0_past, h0_kept, h0_spare, h0_pastMany, h0_isKept, h0_text, h0_typed, h0_isUsed, h0_planBatch, h0_planUnits, h0_planCents, h0_planMany, h0_planGot, h0_planSubstitutes, h0_at, h0_fault, .int (nI en), .ref eq])), (zq, .inl (cI, 1002, .inl z))]) hx hb hml hown hts (c_X10_isGood l dC dI cI cF cC cZ cQ cS h0 zq h0_past h0_kept h0_spare h0_pastMany h0_isKept h0_text h0_typed h0_isUsed h0_planBatch h0_planUnits h0_planCents h0_planMany h0_planGot h0_planSubstitutes h0_at h0_fault (.int (nI en)) (.ref eq) z (ent (3 * k)) gz (by omega) (by omega)) 1 gX10_whyNot_X10_isGood rfl rfl rfl hdV_X10_isGood ⟨Nat.le_of_ble_eq_true rfl, Nat.le_of_ble_eq_true rfl⟩ hN hK hP hD [0, 1] rfl rfl 10 0 rfl rfl rfl hl.1 rfl (Nat.le_of_ble_eq_true rfl) dX10_whyNot_19 ⟨Nat.zero_le _, Nat.zero_le _⟩) (fun r_11 hr_11 => ?_)
  have hr_11 : r_11 = (if xhas (ent (3 * k)) gz then nI 1 else nI 0) := hr_11
  obtain rfl : r_11 = nI 1 := hr_11.trans (if_pos (hall k (by omega)))
  refine xr_ifn1 (tgt := 27) hx hb (by decide) dX10_whyNot_22 (by decide) ?_
  refine lv_iinc (v := nI (k + 1)) (lv' := [(1, .int (nI (k + 1))), (0, .ref h0)]) hx hb dX10_whyNot_27 hl (k := 0) rfl (nI_inc1 k) (by decide) rfl (fun ls hl => ?_)
  refine lv_goto (tgt := 2) hx hb dX10_whyNot_30 (by decide) ?_
  exact ih_2 ((en + 1) - (k + 1)) _ _ _ (show (en + 1) - (k + 1) < (en + 1) - k from by omega) ⟨(k + 1), ls, rfl, rfl, rfl, rfl, lv_sub hl [0, 1] rfl, (by omega)⟩
set_option maxHeartbeats 4000000 in
set_option maxRecDepth 100000 in
theorem c_X10_whyNotf (l : Launch) (dC : Nat → ClassId) (dI : Nat → Nat → Nat) (cI cF cC cZ cQ cS : ClassId) (h0 : Nat) (zq : Nat) (h0_past : Value) (h0_kept : Value) (h0_spare : Value) (h0_pastMany : Value) (h0_isKept : Value) (h0_text : Value) (h0_typed : Value) (h0_isUsed : Value) (h0_planBatch : Value) (h0_planUnits : Value) (h0_planCents : Value) (h0_planMany : Value) (h0_planGot : Value) (h0_planSubstitutes : Value) (h0_at : Value) (h0_fault : Value) (eq : Nat) (z : Nat → Int32) (ent : Nat → Int32) (en : Nat) (gz : Nat) (bz : Nat) (hz1 : z 1 = nI gz) (hgz : gz ≤ 12) (hz2 : z 2 = nI bz) (hbz : bz ≤ 40) (hen : en ≤ 16) (hall : ∀ e, e < en → xhas (ent (3 * e)) gz) (hsup : ∀ e, e < en → zsup ent z e) (hf : 40 < bz + en) : Met l yX10_whyNot wsX10_whyNot ({ frames := 1, cells := 0, slots := 0, locals := 22 }) (xPre (dC, dI) vwCl [.ref h0] (xtys cI cF cC cZ cQ cS) [(h0, .inr (10, [.ref zq, h0_past, h0_kept, h0_spare, h0_pastMany, h0_isKept, h0_text, h0_typed, h0_isUsed, h0_planBatch, h0_planUnits, h0_planCents, h0_planMany, h0_planGot, h0_planSubstitutes, h0_at, h0_fault, .int (nI en), .ref eq])), (zq, .inl (cI, 1002, .inl z)), (eq, .inl (cI, 60, .inl ent))]) (vp_Si (fun r0 => r0 = (-3))) 0 0 (fun _ => False) := by
  refine Met.ofW (cc := cX10_whyNot) (maxL := 4) (ret := (some .int)) (by decide) rfl ?_
  intro p e s m args below meth c s₁ B hml hv
  obtain ⟨rfl, hP, hK, hD0, hN⟩ := hv
  have hx := B.exec
  have hb := B.bytes
  have hr := B.returns
  have hts := atoms_spec (ws := wsX10_whyNot) B.pre
  have hown : s.vm.findClass RX10 = some m.cls := findClass_of_methodNamed B.named
  have hlocks := B.notSynchronized
  have k_169 := hts (Cond.fieldLink RX10 169 "ShelfStagesModel" "entries" "I") (by decide +kernel)
  have k_39 := hts (Cond.fieldLink RX10 39 "ShelfStagesModel" "entry" "[I") (by decide +kernel)
  have k_7 := hts (Cond.fieldLink RX10 7 "ShelfStagesModel" "z" "[I") (by decide +kernel)
  have i_X10 : ∀ w ∈ wsX100, w ∈ wsX10_whyNot := by decide +kernel
  have hD := hD0
  have hl := lv_entry ([.ref h0]) (n := 4) (Nat.le_of_ble_eq_true rfl)
  rw [lg_entry_eq]
  generalize (lg_sl ([.ref h0]) ++ List.replicate (4 - (lg_sl ([.ref h0])).length) Slot.unset).toArray = ls at hl ⊢
  have hl : lv_has ls 4 [(0, .ref h0)] := hl
  refine lv_iconst (v := nI 0) hx hb dX10_whyNot_0 (by decide) ?_
  refine lv_istore_n (lv' := [(1, .int (nI 0)), (0, .ref h0)]) hx hb dX10_whyNot_1 rfl hl (by decide) rfl (fun ls hl => ?_)
  refine xr_loop (J := Nat) (fun n0 H locs g => ∃ (k : Nat) (ls : Array Slot), H = s.heap ∧ locs = [] ∧ n0 = (en + 1) - k ∧ g = F0 m 2 ls [] ∧ lv_has ls 4 [(1, .int (nI k)), (0, .ref h0)] ∧ (k ≤ en)) (fun n => n) ?_ ((en + 1) - 0) (g := F0 m 2 ls []) ⟨0, ls, rfl, rfl, rfl, rfl, lv_sub hl [0, 1] rfl, (Nat.zero_le _)⟩
  intro n0 ih_2 H locs g hp
  obtain ⟨k, ls, rfl, rfl, rfl, rfl, hl, hk⟩ := hp
  refine lv_iload_n hx hb dX10_whyNot_2 rfl (lv_at hl 0 rfl) ?_
  refine lv_aload_n hx hb dX10_whyNot_3 rfl (lv_at hl 1 rfl) ?_
  refine va_get (D := (dC, dI)) (ci := 10) (v := .int (nI en)) (C := RX10) (T := TX10) (N := 19) hx hb hts i_X10 hown hK hP 0 rfl rfl 17 (by decide) k_169 (fun _ h9 => h9) rfl dX10_whyNot_4 ?_
  refine xr_ge_n (tgt := 33) hx hb (by omega) (by omega) dX10_whyNot_7 (by decide) (fun c_1 => ?_) (fun c_1 => ?_)
  · skip
    refine lv_iconst (v := nI 0) hx hb dX10_whyNot_33 (by decide) ?_
    refine lv_istore_n (lv' := [(1, .int (nI 0)), (0, .ref h0)]) hx hb dX10_whyNot_34 rfl hl (by decide) rfl (fun ls hl => ?_)
    refine xr_loop (J := Nat) (fun n0 H locs g => ∃ (m2 : Nat) (ls : Array Slot), H = s.heap ∧ locs = [] ∧ n0 = (en + 1) - m2 ∧ g = F0 m 35 ls [] ∧ lv_has ls 4 [(1, .int (nI m2)), (0, .ref h0)] ∧ (m2 ≤ en)) (fun n => n) ?_ ((en + 1) - 0) (g := F0 m 35 ls []) ⟨0, ls, rfl, rfl, rfl, rfl, lv_sub hl [0, 1] rfl, (Nat.zero_le _)⟩
    intro n0 ih_35 H locs g hp
    obtain ⟨m2, ls, rfl, rfl, rfl, rfl, hl, hm2⟩ := hp
    refine lv_iload_n hx hb dX10_whyNot_35 rfl (lv_at hl 0 rfl) ?_
    refine lv_aload_n hx hb dX10_whyNot_36 rfl (lv_at hl 1 rfl) ?_
    refine va_get (D := (dC, dI)) (ci := 10) (v := .int (nI en)) (C := RX10) (T := TX10) (N := 19) hx hb hts i_X10 hown hK hP 0 rfl rfl 17 (by decide) k_169 (fun _ h9 => h9) rfl dX10_whyNot_37 ?_
    refine xr_ge_n (tgt := 129) hx hb (by omega) (by omega) dX10_whyNot_40 (by decide) (fun c_2 => ?_) (fun c_2 => ?_)
    · skip
      refine lv_aload_n hx hb dX10_whyNot_129 rfl (lv_at hl 1 rfl) ?_
      refine va_get (D := (dC, dI)) (ci := 10) (v := .ref zq) (C := RX10) (T := TX10) (N := 19) hx hb hts i_X10 hown hK hP 0 rfl rfl 0 (by decide) k_7 (fun _ h9 => h9) rfl dX10_whyNot_130 ?_
      refine lv_iconst (v := nI 2) hx hb dX10_whyNot_133 (by decide) ?_
      refine xr_iald hx hb hK hP 1 0 rfl rfl (i := 2) (by omega) (by decide) dX10_whyNot_134 ?_
      refine xr_top (show z 2 = nI bz from hz2) ?_
      refine lv_aload_n hx hb dX10_whyNot_135 rfl (lv_at hl 1 rfl) ?_
      refine va_get (D := (dC, dI)) (ci := 10) (v := .int (nI en)) (C := RX10) (T := TX10) (N := 19) hx hb hts i_X10 hown hK hP 0 rfl rfl 17 (by decide) k_169 (fun _ h9 => h9) rfl dX10_whyNot_136 ?_
      refine xr_iadd_n hx hb dX10_whyNot_139 ?_
      refine lv_bipush (v := nI 40) hx hb dX10_whyNot_140 (by decide) ?_
      refine xr_le_n (tgt := 150) hx hb (by omega) (by omega) dX10_whyNot_142 (by decide) (fun c_3 => False.elim (by omega)) (fun c_3 => ?_)
      refine lv_bipush (v := (-3)) hx hb dX10_whyNot_145 (by decide) ?_
      refine lv_goto (tgt := 151) hx hb dX10_whyNot_147 (by decide) ?_
      exact W.iret (v := (-3)) hx hb hr (fun t ht hW => ⟨_, rfl, (show (-3) = (-3) from rfl), ht⟩) (fun q h => by cases h) dX10_whyNot_151
    refine lv_aload_n hx hb dX10_whyNot_43 rfl (lv_at hl 1 rfl) ?_
    refine lv_aload_n hx hb dX10_whyNot_44 rfl (lv_at hl 1 rfl) ?_
    refine va_get (D := (dC, dI)) (ci := 10) (v := .ref eq) (C := RX10) (T := TX10) (N := 19) hx hb hts i_X10 hown hK hP 0 rfl rfl 18 (by decide) k_39 (fun _ h9 => h9) rfl dX10_whyNot_45 ?_
    refine lv_iconst (v := nI 3) hx hb dX10_whyNot_48 (by decide) ?_
    refine lv_iload_n hx hb dX10_whyNot_49 rfl (lv_at hl 0 rfl) ?_
    refine xr_imul_n hx hb dX10_whyNot_50 ?_
    refine xr_iald hx hb hK hP 2 0 rfl rfl (i := 3 * m2) (by omega) (by decide) dX10_whyNot_51 ?_
    refine xr_top (show ent (3 * m2) = nI ((ent (3 * m2)).toNatClampNeg) from (xhas_idx (hall m2 (by omega)) (by omega)).2) ?_
    refine lv_iconst (v := nI 1) hx hb dX10_whyNot_52 (by decide) ?_
    refine xkRi (xV (As := [.int (nI ((ent (3 * m2)).toNatClampNeg)), .int (nI 1)]) (rest := []) (wc := [(h0, .inr (10, [.ref zq, h0_past, h0_kept, h0_spare, h0_pastMany, h0_isKept, h0_text, h0_typed, h0_isUsed, h0_planBatch, h0_planUnits, h0_planCents, h0_planMany, h0_planGot, h0_planSubstitutes, h0_at, h0_fault, .int (nI en), .ref eq])), (zq, .inl (cI, 1002, .inl z))]) hx hb hml hown hts (c_X10_ofGood l dC dI cI cF cC cZ cQ cS h0 zq h0_past h0_kept h0_spare h0_pastMany h0_isKept h0_text h0_typed h0_isUsed h0_planBatch h0_planUnits h0_planCents h0_planMany h0_planGot h0_planSubstitutes h0_at h0_fault (.int (nI en)) (.ref eq) z ((ent (3 * m2)).toNatClampNeg) 1 (Nat.lt_of_lt_of_le (xhas_idx (hall m2 (by omega)) (by omega)).1 hgz) (by omega)) 2 gX10_whyNot_X10_ofGood rfl rfl rfl hdV_X10_ofGood ⟨Nat.le_of_ble_eq_true rfl, Nat.le_of_ble_eq_true rfl⟩ hN hK hP hD [0, 1] rfl rfl 10 0 rfl rfl rfl hl.1 rfl (Nat.le_of_ble_eq_true rfl) dX10_whyNot_53 ⟨Nat.zero_le _, Nat.zero_le _⟩) (fun r_4 hr_4 => ?_)
    obtain rfl : r_4 = zG z ((ent (3 * m2)).toNatClampNeg) 1 := hr_4
    refine lv_istore_n (lv' := [(2, .int (zG z ((ent (3 * m2)).toNatClampNeg) 1)), (1, .int (nI m2)), (0, .ref h0)]) hx hb dX10_whyNot_56 rfl hl (by decide) rfl (fun ls hl => ?_)
    refine lv_aload_n hx hb dX10_whyNot_57 rfl (lv_at hl 2 rfl) ?_
    refine va_get (D := (dC, dI)) (ci := 10) (v := .ref eq) (C := RX10) (T := TX10) (N := 19) hx hb hts i_X10 hown hK hP 0 rfl rfl 18 (by decide) k_39 (fun _ h9 => h9) rfl dX10_whyNot_58 ?_
    refine lv_iconst (v := nI 3) hx hb dX10_whyNot_61 (by decide) ?_
    refine lv_iload_n hx hb dX10_whyNot_62 rfl (lv_at hl 1 rfl) ?_
    refine xr_imul_n hx hb dX10_whyNot_63 ?_
    refine lv_iconst (v := nI 2) hx hb dX10_whyNot_64 (by decide) ?_
    refine xr_iadd_n hx hb dX10_whyNot_65 ?_
    refine xr_iald hx hb hK hP 2 0 rfl rfl (i := (3 * m2) + 2) (by omega) (by decide) dX10_whyNot_66 ?_
    refine lv_bipush (v := (-5)) hx hb dX10_whyNot_67 (by decide) ?_
    refine lv_icmp_eq (tgt := 90) hx hb dX10_whyNot_69 (by decide) (fun c_5 => ?_) (fun c_5 => ?_)
    · skip
      refine lv_iconst (v := nI 1) hx hb dX10_whyNot_90 (by decide) ?_
      refine lv_goto (tgt := 95) hx hb dX10_whyNot_91 (by decide) ?_
      refine lv_istore_n (lv' := [(3, .int (nI 1)), (2, .int (zG z ((ent (3 * m2)).toNatClampNeg) 1)), (1, .int (nI m2)), (0, .ref h0)]) hx hb dX10_whyNot_95 rfl hl (by decide) rfl (fun ls hl => ?_)
      refine lv_iload_n hx hb dX10_whyNot_96 rfl (lv_at hl 0 rfl) ?_
      refine xr_if1 (tgt := 120) hx hb (by decide) dX10_whyNot_97 (by decide) ?_
      refine lv_aload_n hx hb dX10_whyNot_100 rfl (lv_at hl 3 rfl) ?_
      refine va_get (D := (dC, dI)) (ci := 10) (v := .ref eq) (C := RX10) (T := TX10) (N := 19) hx hb hts i_X10 hown hK hP 0 rfl rfl 18 (by decide) k_39 (fun _ h9 => h9) rfl dX10_whyNot_101 ?_
      refine lv_iconst (v := nI 3) hx hb dX10_whyNot_104 (by decide) ?_
      refine lv_iload_n hx hb dX10_whyNot_105 rfl (lv_at hl 2 rfl) ?_
      refine xr_imul_n hx hb dX10_whyNot_106 ?_
      refine lv_iconst (v := nI 1) hx hb dX10_whyNot_107 (by decide) ?_
      refine xr_iadd_n hx hb dX10_whyNot_108 ?_
      refine xr_iald hx hb hK hP 2 0 rfl rfl (i := (3 * m2) + 1) (by omega) (by decide) dX10_whyNot_109 ?_
      refine lv_iconst (v := nI 1) hx hb dX10_whyNot_110 (by decide) ?_
      refine lv_sipush (v := nI 999) hx hb dX10_whyNot_111 (by decide) ?_
      refine xkRi (xSs (Ws' := ([] : List Cond)) (As := [.int (ent ((3 * m2) + 1)), .int (nI 1), .int (nI 999)]) (rest := []) (wc := []) hx hb hml hown hts (c_X10_in l dC dI cI cF cC cZ cQ cS (ent ((3 * m2) + 1)) (nI 1) (nI 999)) 3 (fun hR => va_cwS 3 hts gX10_whyNot_X10_in rfl rfl rfl hdN_X10_in hR) ⟨Nat.le_of_ble_eq_true rfl, Nat.le_of_ble_eq_true rfl⟩ hN hK hP hD [] rfl rfl rfl hl.1 rfl (Nat.le_of_ble_eq_true rfl) dX10_whyNot_114 ⟨Nat.zero_le _, Nat.zero_le _⟩) (fun r_6 hr_6 => ?_)
      have hr_6 : r_6 = (if (nI 1) ≤ (ent ((3 * m2) + 1)) ∧ (ent ((3 * m2) + 1)) ≤ (nI 999) then nI 1 else nI 0) := hr_6
      rcases xi_ite inferInstance hr_6 with ⟨c_7, hr_6⟩ | ⟨c_7, hr_6⟩
      · subst hr_6
        refine xr_ifn1 (tgt := 123) hx hb (by decide) dX10_whyNot_117 (by decide) ?_
        refine lv_iinc (v := nI (m2 + 1)) (lv' := [(1, .int (nI (m2 + 1))), (3, .int (nI 1)), (2, .int (zG z ((ent (3 * m2)).toNatClampNeg) 1)), (0, .ref h0)]) hx hb dX10_whyNot_123 hl (k := 2) rfl (nI_inc1 m2) (by decide) rfl (fun ls hl => ?_)
        refine lv_goto (tgt := 35) hx hb dX10_whyNot_126 (by decide) ?_
        exact ih_35 ((en + 1) - (m2 + 1)) _ _ _ (show (en + 1) - (m2 + 1) < (en + 1) - m2 from by omega) ⟨(m2 + 1), ls, rfl, rfl, rfl, rfl, lv_sub hl [0, 3] rfl, (by omega)⟩
      subst hr_6
      refine xr_ifn0 (tgt := 123) hx hb (by decide) dX10_whyNot_117 (by decide) ?_
      exact absurd (hsup m2 (by omega)).2 c_7
    refine lv_aload_n hx hb dX10_whyNot_72 rfl (lv_at hl 2 rfl) ?_
    refine va_get (D := (dC, dI)) (ci := 10) (v := .ref eq) (C := RX10) (T := TX10) (N := 19) hx hb hts i_X10 hown hK hP 0 rfl rfl 18 (by decide) k_39 (fun _ h9 => h9) rfl dX10_whyNot_73 ?_
    refine lv_iconst (v := nI 3) hx hb dX10_whyNot_76 (by decide) ?_
    refine lv_iload_n hx hb dX10_whyNot_77 rfl (lv_at hl 1 rfl) ?_
    refine xr_imul_n hx hb dX10_whyNot_78 ?_
    refine lv_iconst (v := nI 2) hx hb dX10_whyNot_79 (by decide) ?_
    refine xr_iadd_n hx hb dX10_whyNot_80 ?_
    refine xr_iald hx hb hK hP 2 0 rfl rfl (i := (3 * m2) + 2) (by omega) (by decide) dX10_whyNot_81 ?_
    refine lv_iconst (v := nI 1) hx hb dX10_whyNot_82 (by decide) ?_
    refine lv_iload_n hx hb dX10_whyNot_83 rfl (lv_at hl 0 rfl) ?_
    refine xkRi (xSs (Ws' := ([] : List Cond)) (As := [.int (ent ((3 * m2) + 2)), .int (nI 1), .int (zG z ((ent (3 * m2)).toNatClampNeg) 1)]) (rest := []) (wc := []) hx hb hml hown hts (c_X10_in l dC dI cI cF cC cZ cQ cS (ent ((3 * m2) + 2)) (nI 1) (zG z ((ent (3 * m2)).toNatClampNeg) 1)) 3 (fun hR => va_cwS 3 hts gX10_whyNot_X10_in rfl rfl rfl hdN_X10_in hR) ⟨Nat.le_of_ble_eq_true rfl, Nat.le_of_ble_eq_true rfl⟩ hN hK hP hD [] rfl rfl rfl hl.1 rfl (Nat.le_of_ble_eq_true rfl) dX10_whyNot_84 ⟨Nat.zero_le _, Nat.zero_le _⟩) (fun r_8 hr_8 => ?_)
    have hr_8 : r_8 = (if (nI 1) ≤ (ent ((3 * m2) + 2)) ∧ (ent ((3 * m2) + 2)) ≤ (zG z ((ent (3 * m2)).toNatClampNeg) 1) then nI 1 else nI 0) := hr_8
    rcases xi_ite inferInstance hr_8 with ⟨c_9, hr_8⟩ | ⟨c_9, hr_8⟩
    · subst hr_8
      refine xr_if1 (tgt := 94) hx hb (by decide) dX10_whyNot_87 (by decide) ?_
      refine lv_iconst (v := nI 1) hx hb dX10_whyNot_90 (by decide) ?_
      refine lv_goto (tgt := 95) hx hb dX10_whyNot_91 (by decide) ?_
      refine lv_istore_n (lv' := [(3, .int (nI 1)), (2, .int (zG z ((ent (3 * m2)).toNatClampNeg) 1)), (1, .int (nI m2)), (0, .ref h0)]) hx hb dX10_whyNot_95 rfl hl (by decide) rfl (fun ls hl => ?_)
      refine lv_iload_n hx hb dX10_whyNot_96 rfl (lv_at hl 0 rfl) ?_
      refine xr_if1 (tgt := 120) hx hb (by decide) dX10_whyNot_97 (by decide) ?_
      refine lv_aload_n hx hb dX10_whyNot_100 rfl (lv_at hl 3 rfl) ?_
      refine va_get (D := (dC, dI)) (ci := 10) (v := .ref eq) (C := RX10) (T := TX10) (N := 19) hx hb hts i_X10 hown hK hP 0 rfl rfl 18 (by decide) k_39 (fun _ h9 => h9) rfl dX10_whyNot_101 ?_
      refine lv_iconst (v := nI 3) hx hb dX10_whyNot_104 (by decide) ?_
      refine lv_iload_n hx hb dX10_whyNot_105 rfl (lv_at hl 2 rfl) ?_
      refine xr_imul_n hx hb dX10_whyNot_106 ?_
      refine lv_iconst (v := nI 1) hx hb dX10_whyNot_107 (by decide) ?_
      refine xr_iadd_n hx hb dX10_whyNot_108 ?_
      refine xr_iald hx hb hK hP 2 0 rfl rfl (i := (3 * m2) + 1) (by omega) (by decide) dX10_whyNot_109 ?_
      refine lv_iconst (v := nI 1) hx hb dX10_whyNot_110 (by decide) ?_
      refine lv_sipush (v := nI 999) hx hb dX10_whyNot_111 (by decide) ?_
      refine xkRi (xSs (Ws' := ([] : List Cond)) (As := [.int (ent ((3 * m2) + 1)), .int (nI 1), .int (nI 999)]) (rest := []) (wc := []) hx hb hml hown hts (c_X10_in l dC dI cI cF cC cZ cQ cS (ent ((3 * m2) + 1)) (nI 1) (nI 999)) 3 (fun hR => va_cwS 3 hts gX10_whyNot_X10_in rfl rfl rfl hdN_X10_in hR) ⟨Nat.le_of_ble_eq_true rfl, Nat.le_of_ble_eq_true rfl⟩ hN hK hP hD [] rfl rfl rfl hl.1 rfl (Nat.le_of_ble_eq_true rfl) dX10_whyNot_114 ⟨Nat.zero_le _, Nat.zero_le _⟩) (fun r_10 hr_10 => ?_)
      have hr_10 : r_10 = (if (nI 1) ≤ (ent ((3 * m2) + 1)) ∧ (ent ((3 * m2) + 1)) ≤ (nI 999) then nI 1 else nI 0) := hr_10
      rcases xi_ite inferInstance hr_10 with ⟨c_11, hr_10⟩ | ⟨c_11, hr_10⟩
      · subst hr_10
        refine xr_ifn1 (tgt := 123) hx hb (by decide) dX10_whyNot_117 (by decide) ?_
        refine lv_iinc (v := nI (m2 + 1)) (lv' := [(1, .int (nI (m2 + 1))), (3, .int (nI 1)), (2, .int (zG z ((ent (3 * m2)).toNatClampNeg) 1)), (0, .ref h0)]) hx hb dX10_whyNot_123 hl (k := 2) rfl (nI_inc1 m2) (by decide) rfl (fun ls hl => ?_)
        refine lv_goto (tgt := 35) hx hb dX10_whyNot_126 (by decide) ?_
        exact ih_35 ((en + 1) - (m2 + 1)) _ _ _ (show (en + 1) - (m2 + 1) < (en + 1) - m2 from by omega) ⟨(m2 + 1), ls, rfl, rfl, rfl, rfl, lv_sub hl [0, 3] rfl, (by omega)⟩
      subst hr_10
      refine xr_ifn0 (tgt := 123) hx hb (by decide) dX10_whyNot_117 (by decide) ?_
      exact absurd (hsup m2 (by omega)).2 c_11
    subst hr_8
    refine xr_if0 (tgt := 94) hx hb (by decide) dX10_whyNot_87 (by decide) ?_
    refine lv_iconst (v := nI 0) hx hb dX10_whyNot_94 (by decide) ?_
    refine lv_istore_n (lv' := [(3, .int (nI 0)), (2, .int (zG z ((ent (3 * m2)).toNatClampNeg) 1)), (1, .int (nI m2)), (0, .ref h0)]) hx hb dX10_whyNot_95 rfl hl (by decide) rfl (fun ls hl => ?_)
    refine lv_iload_n hx hb dX10_whyNot_96 rfl (lv_at hl 0 rfl) ?_
    refine xr_if0 (tgt := 120) hx hb (by decide) dX10_whyNot_97 (by decide) ?_
    exact absurd (hsup m2 (by omega)).1 (fun q => q.elim c_5 c_9)
  refine lv_aload_n hx hb dX10_whyNot_10 rfl (lv_at hl 1 rfl) ?_
  refine lv_aload_n hx hb dX10_whyNot_11 rfl (lv_at hl 1 rfl) ?_
  refine va_get (D := (dC, dI)) (ci := 10) (v := .ref eq) (C := RX10) (T := TX10) (N := 19) hx hb hts i_X10 hown hK hP 0 rfl rfl 18 (by decide) k_39 (fun _ h9 => h9) rfl dX10_whyNot_12 ?_
  refine lv_iconst (v := nI 3) hx hb dX10_whyNot_15 (by decide) ?_
  refine lv_iload_n hx hb dX10_whyNot_16 rfl (lv_at hl 0 rfl) ?_
  refine xr_imul_n hx hb dX10_whyNot_17 ?_
  refine xr_iald hx hb hK hP 2 0 rfl rfl (i := 3 * k) (by omega) (by decide) dX10_whyNot_18 ?_
  refine xkRi (xV (As := [.int (ent (3 * k))]) (rest := []) (wc := [(h0, .inr (10, [.ref zq, h0_past, h0_kept, h0_spare, h0_pastMany, h0_isKept, h0_text, h0_typed, h0_isUsed, h0_planBatch, h0_planUnits, h0_planCents, h0_planMany, h0_planGot, h0_planSubstitutes, h0_at, h0_fault, .int (nI en), .ref eq])), (zq, .inl (cI, 1002, .inl z))]) hx hb hml hown hts (c_X10_isGood l dC dI cI cF cC cZ cQ cS h0 zq h0_past h0_kept h0_spare h0_pastMany h0_isKept h0_text h0_typed h0_isUsed h0_planBatch h0_planUnits h0_planCents h0_planMany h0_planGot h0_planSubstitutes h0_at h0_fault (.int (nI en)) (.ref eq) z (ent (3 * k)) gz (by omega) (by omega)) 1 gX10_whyNot_X10_isGood rfl rfl rfl hdV_X10_isGood ⟨Nat.le_of_ble_eq_true rfl, Nat.le_of_ble_eq_true rfl⟩ hN hK hP hD [0, 1] rfl rfl 10 0 rfl rfl rfl hl.1 rfl (Nat.le_of_ble_eq_true rfl) dX10_whyNot_19 ⟨Nat.zero_le _, Nat.zero_le _⟩) (fun r_12 hr_12 => ?_)
  have hr_12 : r_12 = (if xhas (ent (3 * k)) gz then nI 1 else nI 0) := hr_12
  obtain rfl : r_12 = nI 1 := hr_12.trans (if_pos (hall k (by omega)))
  refine xr_ifn1 (tgt := 27) hx hb (by decide) dX10_whyNot_22 (by decide) ?_
  refine lv_iinc (v := nI (k + 1)) (lv' := [(1, .int (nI (k + 1))), (0, .ref h0)]) hx hb dX10_whyNot_27 hl (k := 0) rfl (nI_inc1 k) (by decide) rfl (fun ls hl => ?_)
  refine lv_goto (tgt := 2) hx hb dX10_whyNot_30 (by decide) ?_
  exact ih_2 ((en + 1) - (k + 1)) _ _ _ (show (en + 1) - (k + 1) < (en + 1) - k from by omega) ⟨(k + 1), ls, rfl, rfl, rfl, rfl, lv_sub hl [0, 1] rfl, (by omega)⟩
set_option maxHeartbeats 4000000 in
set_option maxRecDepth 100000 in
theorem c_X10_whyNoto (l : Launch) (dC : Nat → ClassId) (dI : Nat → Nat → Nat) (cI cF cC cZ cQ cS : ClassId) (h0 : Nat) (zq : Nat) (h0_past : Value) (h0_kept : Value) (h0_spare : Value) (h0_pastMany : Value) (h0_isKept : Value) (h0_text : Value) (h0_typed : Value) (h0_isUsed : Value) (h0_planBatch : Value) (h0_planUnits : Value) (h0_planCents : Value) (h0_planMany : Value) (h0_planGot : Value) (h0_planSubstitutes : Value) (h0_at : Value) (h0_fault : Value) (eq : Nat) (z : Nat → Int32) (ent : Nat → Int32) (en : Nat) (gz : Nat) (bz : Nat) (hz1 : z 1 = nI gz) (hgz : gz ≤ 12) (hz2 : z 2 = nI bz) (hbz : bz ≤ 40) (hen : en ≤ 16) (hall : ∀ e, e < en → xhas (ent (3 * e)) gz) (hsup : ∀ e, e < en → zsup ent z e) (hf : bz + en ≤ 40) : Met l yX10_whyNot wsX10_whyNot ({ frames := 1, cells := 0, slots := 0, locals := 22 }) (xPre (dC, dI) vwCl [.ref h0] (xtys cI cF cC cZ cQ cS) [(h0, .inr (10, [.ref zq, h0_past, h0_kept, h0_spare, h0_pastMany, h0_isKept, h0_text, h0_typed, h0_isUsed, h0_planBatch, h0_planUnits, h0_planCents, h0_planMany, h0_planGot, h0_planSubstitutes, h0_at, h0_fault, .int (nI en), .ref eq])), (zq, .inl (cI, 1002, .inl z)), (eq, .inl (cI, 60, .inl ent))]) (vp_Si (fun r0 => r0 = nI 0)) 0 0 (fun _ => False) := by
  refine Met.ofW (cc := cX10_whyNot) (maxL := 4) (ret := (some .int)) (by decide) rfl ?_
  intro p e s m args below meth c s₁ B hml hv
  obtain ⟨rfl, hP, hK, hD0, hN⟩ := hv
  have hx := B.exec
  have hb := B.bytes
  have hr := B.returns
  have hts := atoms_spec (ws := wsX10_whyNot) B.pre
  have hown : s.vm.findClass RX10 = some m.cls := findClass_of_methodNamed B.named
  have hlocks := B.notSynchronized
  have k_169 := hts (Cond.fieldLink RX10 169 "ShelfStagesModel" "entries" "I") (by decide +kernel)
  have k_39 := hts (Cond.fieldLink RX10 39 "ShelfStagesModel" "entry" "[I") (by decide +kernel)
  have k_7 := hts (Cond.fieldLink RX10 7 "ShelfStagesModel" "z" "[I") (by decide +kernel)
  have i_X10 : ∀ w ∈ wsX100, w ∈ wsX10_whyNot := by decide +kernel
  have hD := hD0
  have hl := lv_entry ([.ref h0]) (n := 4) (Nat.le_of_ble_eq_true rfl)
  rw [lg_entry_eq]
  generalize (lg_sl ([.ref h0]) ++ List.replicate (4 - (lg_sl ([.ref h0])).length) Slot.unset).toArray = ls at hl ⊢
  have hl : lv_has ls 4 [(0, .ref h0)] := hl
  refine lv_iconst (v := nI 0) hx hb dX10_whyNot_0 (by decide) ?_
  refine lv_istore_n (lv' := [(1, .int (nI 0)), (0, .ref h0)]) hx hb dX10_whyNot_1 rfl hl (by decide) rfl (fun ls hl => ?_)
  refine xr_loop (J := Nat) (fun n0 H locs g => ∃ (k : Nat) (ls : Array Slot), H = s.heap ∧ locs = [] ∧ n0 = (en + 1) - k ∧ g = F0 m 2 ls [] ∧ lv_has ls 4 [(1, .int (nI k)), (0, .ref h0)] ∧ (k ≤ en)) (fun n => n) ?_ ((en + 1) - 0) (g := F0 m 2 ls []) ⟨0, ls, rfl, rfl, rfl, rfl, lv_sub hl [0, 1] rfl, (Nat.zero_le _)⟩
  intro n0 ih_2 H locs g hp
  obtain ⟨k, ls, rfl, rfl, rfl, rfl, hl, hk⟩ := hp
  refine lv_iload_n hx hb dX10_whyNot_2 rfl (lv_at hl 0 rfl) ?_
  refine lv_aload_n hx hb dX10_whyNot_3 rfl (lv_at hl 1 rfl) ?_
  refine va_get (D := (dC, dI)) (ci := 10) (v := .int (nI en)) (C := RX10) (T := TX10) (N := 19) hx hb hts i_X10 hown hK hP 0 rfl rfl 17 (by decide) k_169 (fun _ h9 => h9) rfl dX10_whyNot_4 ?_
  refine xr_ge_n (tgt := 33) hx hb (by omega) (by omega) dX10_whyNot_7 (by decide) (fun c_1 => ?_) (fun c_1 => ?_)
  · skip
    refine lv_iconst (v := nI 0) hx hb dX10_whyNot_33 (by decide) ?_
    refine lv_istore_n (lv' := [(1, .int (nI 0)), (0, .ref h0)]) hx hb dX10_whyNot_34 rfl hl (by decide) rfl (fun ls hl => ?_)
    refine xr_loop (J := Nat) (fun n0 H locs g => ∃ (m2 : Nat) (ls : Array Slot), H = s.heap ∧ locs = [] ∧ n0 = (en + 1) - m2 ∧ g = F0 m 35 ls [] ∧ lv_has ls 4 [(1, .int (nI m2)), (0, .ref h0)] ∧ (m2 ≤ en)) (fun n => n) ?_ ((en + 1) - 0) (g := F0 m 35 ls []) ⟨0, ls, rfl, rfl, rfl, rfl, lv_sub hl [0, 1] rfl, (Nat.zero_le _)⟩
    intro n0 ih_35 H locs g hp
    obtain ⟨m2, ls, rfl, rfl, rfl, rfl, hl, hm2⟩ := hp
    refine lv_iload_n hx hb dX10_whyNot_35 rfl (lv_at hl 0 rfl) ?_
    refine lv_aload_n hx hb dX10_whyNot_36 rfl (lv_at hl 1 rfl) ?_
    refine va_get (D := (dC, dI)) (ci := 10) (v := .int (nI en)) (C := RX10) (T := TX10) (N := 19) hx hb hts i_X10 hown hK hP 0 rfl rfl 17 (by decide) k_169 (fun _ h9 => h9) rfl dX10_whyNot_37 ?_
    refine xr_ge_n (tgt := 129) hx hb (by omega) (by omega) dX10_whyNot_40 (by decide) (fun c_2 => ?_) (fun c_2 => ?_)
    · skip
      refine lv_aload_n hx hb dX10_whyNot_129 rfl (lv_at hl 1 rfl) ?_
      refine va_get (D := (dC, dI)) (ci := 10) (v := .ref zq) (C := RX10) (T := TX10) (N := 19) hx hb hts i_X10 hown hK hP 0 rfl rfl 0 (by decide) k_7 (fun _ h9 => h9) rfl dX10_whyNot_130 ?_
      refine lv_iconst (v := nI 2) hx hb dX10_whyNot_133 (by decide) ?_
      refine xr_iald hx hb hK hP 1 0 rfl rfl (i := 2) (by omega) (by decide) dX10_whyNot_134 ?_
      refine xr_top (show z 2 = nI bz from hz2) ?_
      refine lv_aload_n hx hb dX10_whyNot_135 rfl (lv_at hl 1 rfl) ?_
      refine va_get (D := (dC, dI)) (ci := 10) (v := .int (nI en)) (C := RX10) (T := TX10) (N := 19) hx hb hts i_X10 hown hK hP 0 rfl rfl 17 (by decide) k_169 (fun _ h9 => h9) rfl dX10_whyNot_136 ?_
      refine xr_iadd_n hx hb dX10_whyNot_139 ?_
      refine lv_bipush (v := nI 40) hx hb dX10_whyNot_140 (by decide) ?_
      refine xr_le_n (tgt := 150) hx hb (by omega) (by omega) dX10_whyNot_142 (by decide) (fun c_3 => ?_) (fun c_3 => False.elim (by omega))
      refine lv_iconst (v := nI 0) hx hb dX10_whyNot_150 (by decide) ?_
      exact W.iret (v := nI 0) hx hb hr (fun t ht hW => ⟨_, rfl, (show nI 0 = nI 0 from rfl), ht⟩) (fun q h => by cases h) dX10_whyNot_151
    refine lv_aload_n hx hb dX10_whyNot_43 rfl (lv_at hl 1 rfl) ?_
    refine lv_aload_n hx hb dX10_whyNot_44 rfl (lv_at hl 1 rfl) ?_
    refine va_get (D := (dC, dI)) (ci := 10) (v := .ref eq) (C := RX10) (T := TX10) (N := 19) hx hb hts i_X10 hown hK hP 0 rfl rfl 18 (by decide) k_39 (fun _ h9 => h9) rfl dX10_whyNot_45 ?_
    refine lv_iconst (v := nI 3) hx hb dX10_whyNot_48 (by decide) ?_
    refine lv_iload_n hx hb dX10_whyNot_49 rfl (lv_at hl 0 rfl) ?_
    refine xr_imul_n hx hb dX10_whyNot_50 ?_
    refine xr_iald hx hb hK hP 2 0 rfl rfl (i := 3 * m2) (by omega) (by decide) dX10_whyNot_51 ?_
    refine xr_top (show ent (3 * m2) = nI ((ent (3 * m2)).toNatClampNeg) from (xhas_idx (hall m2 (by omega)) (by omega)).2) ?_
    refine lv_iconst (v := nI 1) hx hb dX10_whyNot_52 (by decide) ?_
    refine xkRi (xV (As := [.int (nI ((ent (3 * m2)).toNatClampNeg)), .int (nI 1)]) (rest := []) (wc := [(h0, .inr (10, [.ref zq, h0_past, h0_kept, h0_spare, h0_pastMany, h0_isKept, h0_text, h0_typed, h0_isUsed, h0_planBatch, h0_planUnits, h0_planCents, h0_planMany, h0_planGot, h0_planSubstitutes, h0_at, h0_fault, .int (nI en), .ref eq])), (zq, .inl (cI, 1002, .inl z))]) hx hb hml hown hts (c_X10_ofGood l dC dI cI cF cC cZ cQ cS h0 zq h0_past h0_kept h0_spare h0_pastMany h0_isKept h0_text h0_typed h0_isUsed h0_planBatch h0_planUnits h0_planCents h0_planMany h0_planGot h0_planSubstitutes h0_at h0_fault (.int (nI en)) (.ref eq) z ((ent (3 * m2)).toNatClampNeg) 1 (Nat.lt_of_lt_of_le (xhas_idx (hall m2 (by omega)) (by omega)).1 hgz) (by omega)) 2 gX10_whyNot_X10_ofGood rfl rfl rfl hdV_X10_ofGood ⟨Nat.le_of_ble_eq_true rfl, Nat.le_of_ble_eq_true rfl⟩ hN hK hP hD [0, 1] rfl rfl 10 0 rfl rfl rfl hl.1 rfl (Nat.le_of_ble_eq_true rfl) dX10_whyNot_53 ⟨Nat.zero_le _, Nat.zero_le _⟩) (fun r_4 hr_4 => ?_)
    obtain rfl : r_4 = zG z ((ent (3 * m2)).toNatClampNeg) 1 := hr_4
    refine lv_istore_n (lv' := [(2, .int (zG z ((ent (3 * m2)).toNatClampNeg) 1)), (1, .int (nI m2)), (0, .ref h0)]) hx hb dX10_whyNot_56 rfl hl (by decide) rfl (fun ls hl => ?_)
    refine lv_aload_n hx hb dX10_whyNot_57 rfl (lv_at hl 2 rfl) ?_
    refine va_get (D := (dC, dI)) (ci := 10) (v := .ref eq) (C := RX10) (T := TX10) (N := 19) hx hb hts i_X10 hown hK hP 0 rfl rfl 18 (by decide) k_39 (fun _ h9 => h9) rfl dX10_whyNot_58 ?_
    refine lv_iconst (v := nI 3) hx hb dX10_whyNot_61 (by decide) ?_
    refine lv_iload_n hx hb dX10_whyNot_62 rfl (lv_at hl 1 rfl) ?_
    refine xr_imul_n hx hb dX10_whyNot_63 ?_
    refine lv_iconst (v := nI 2) hx hb dX10_whyNot_64 (by decide) ?_
    refine xr_iadd_n hx hb dX10_whyNot_65 ?_
    refine xr_iald hx hb hK hP 2 0 rfl rfl (i := (3 * m2) + 2) (by omega) (by decide) dX10_whyNot_66 ?_
    refine lv_bipush (v := (-5)) hx hb dX10_whyNot_67 (by decide) ?_
    refine lv_icmp_eq (tgt := 90) hx hb dX10_whyNot_69 (by decide) (fun c_5 => ?_) (fun c_5 => ?_)
    · skip
      refine lv_iconst (v := nI 1) hx hb dX10_whyNot_90 (by decide) ?_
      refine lv_goto (tgt := 95) hx hb dX10_whyNot_91 (by decide) ?_
      refine lv_istore_n (lv' := [(3, .int (nI 1)), (2, .int (zG z ((ent (3 * m2)).toNatClampNeg) 1)), (1, .int (nI m2)), (0, .ref h0)]) hx hb dX10_whyNot_95 rfl hl (by decide) rfl (fun ls hl => ?_)
      refine lv_iload_n hx hb dX10_whyNot_96 rfl (lv_at hl 0 rfl) ?_
      refine xr_if1 (tgt := 120) hx hb (by decide) dX10_whyNot_97 (by decide) ?_
      refine lv_aload_n hx hb dX10_whyNot_100 rfl (lv_at hl 3 rfl) ?_
      refine va_get (D := (dC, dI)) (ci := 10) (v := .ref eq) (C := RX10) (T := TX10) (N := 19) hx hb hts i_X10 hown hK hP 0 rfl rfl 18 (by decide) k_39 (fun _ h9 => h9) rfl dX10_whyNot_101 ?_
      refine lv_iconst (v := nI 3) hx hb dX10_whyNot_104 (by decide) ?_
      refine lv_iload_n hx hb dX10_whyNot_105 rfl (lv_at hl 2 rfl) ?_
      refine xr_imul_n hx hb dX10_whyNot_106 ?_
      refine lv_iconst (v := nI 1) hx hb dX10_whyNot_107 (by decide) ?_
      refine xr_iadd_n hx hb dX10_whyNot_108 ?_
      refine xr_iald hx hb hK hP 2 0 rfl rfl (i := (3 * m2) + 1) (by omega) (by decide) dX10_whyNot_109 ?_
      refine lv_iconst (v := nI 1) hx hb dX10_whyNot_110 (by decide) ?_
      refine lv_sipush (v := nI 999) hx hb dX10_whyNot_111 (by decide) ?_
      refine xkRi (xSs (Ws' := ([] : List Cond)) (As := [.int (ent ((3 * m2) + 1)), .int (nI 1), .int (nI 999)]) (rest := []) (wc := []) hx hb hml hown hts (c_X10_in l dC dI cI cF cC cZ cQ cS (ent ((3 * m2) + 1)) (nI 1) (nI 999)) 3 (fun hR => va_cwS 3 hts gX10_whyNot_X10_in rfl rfl rfl hdN_X10_in hR) ⟨Nat.le_of_ble_eq_true rfl, Nat.le_of_ble_eq_true rfl⟩ hN hK hP hD [] rfl rfl rfl hl.1 rfl (Nat.le_of_ble_eq_true rfl) dX10_whyNot_114 ⟨Nat.zero_le _, Nat.zero_le _⟩) (fun r_6 hr_6 => ?_)
      have hr_6 : r_6 = (if (nI 1) ≤ (ent ((3 * m2) + 1)) ∧ (ent ((3 * m2) + 1)) ≤ (nI 999) then nI 1 else nI 0) := hr_6
      rcases xi_ite inferInstance hr_6 with ⟨c_7, hr_6⟩ | ⟨c_7, hr_6⟩
      · subst hr_6
        refine xr_ifn1 (tgt := 123) hx hb (by decide) dX10_whyNot_117 (by decide) ?_
        refine lv_iinc (v := nI (m2 + 1)) (lv' := [(1, .int (nI (m2 + 1))), (3, .int (nI 1)), (2, .int (zG z ((ent (3 * m2)).toNatClampNeg) 1)), (0, .ref h0)]) hx hb dX10_whyNot_123 hl (k := 2) rfl (nI_inc1 m2) (by decide) rfl (fun ls hl => ?_)
        refine lv_goto (tgt := 35) hx hb dX10_whyNot_126 (by decide) ?_
        exact ih_35 ((en + 1) - (m2 + 1)) _ _ _ (show (en + 1) - (m2 + 1) < (en + 1) - m2 from by omega) ⟨(m2 + 1), ls, rfl, rfl, rfl, rfl, lv_sub hl [0, 3] rfl, (by omega)⟩
      subst hr_6
      refine xr_ifn0 (tgt := 123) hx hb (by decide) dX10_whyNot_117 (by decide) ?_
      exact absurd (hsup m2 (by omega)).2 c_7
    refine lv_aload_n hx hb dX10_whyNot_72 rfl (lv_at hl 2 rfl) ?_
    refine va_get (D := (dC, dI)) (ci := 10) (v := .ref eq) (C := RX10) (T := TX10) (N := 19) hx hb hts i_X10 hown hK hP 0 rfl rfl 18 (by decide) k_39 (fun _ h9 => h9) rfl dX10_whyNot_73 ?_
    refine lv_iconst (v := nI 3) hx hb dX10_whyNot_76 (by decide) ?_
    refine lv_iload_n hx hb dX10_whyNot_77 rfl (lv_at hl 1 rfl) ?_
    refine xr_imul_n hx hb dX10_whyNot_78 ?_
    refine lv_iconst (v := nI 2) hx hb dX10_whyNot_79 (by decide) ?_
    refine xr_iadd_n hx hb dX10_whyNot_80 ?_
    refine xr_iald hx hb hK hP 2 0 rfl rfl (i := (3 * m2) + 2) (by omega) (by decide) dX10_whyNot_81 ?_
    refine lv_iconst (v := nI 1) hx hb dX10_whyNot_82 (by decide) ?_
    refine lv_iload_n hx hb dX10_whyNot_83 rfl (lv_at hl 0 rfl) ?_
    refine xkRi (xSs (Ws' := ([] : List Cond)) (As := [.int (ent ((3 * m2) + 2)), .int (nI 1), .int (zG z ((ent (3 * m2)).toNatClampNeg) 1)]) (rest := []) (wc := []) hx hb hml hown hts (c_X10_in l dC dI cI cF cC cZ cQ cS (ent ((3 * m2) + 2)) (nI 1) (zG z ((ent (3 * m2)).toNatClampNeg) 1)) 3 (fun hR => va_cwS 3 hts gX10_whyNot_X10_in rfl rfl rfl hdN_X10_in hR) ⟨Nat.le_of_ble_eq_true rfl, Nat.le_of_ble_eq_true rfl⟩ hN hK hP hD [] rfl rfl rfl hl.1 rfl (Nat.le_of_ble_eq_true rfl) dX10_whyNot_84 ⟨Nat.zero_le _, Nat.zero_le _⟩) (fun r_8 hr_8 => ?_)
    have hr_8 : r_8 = (if (nI 1) ≤ (ent ((3 * m2) + 2)) ∧ (ent ((3 * m2) + 2)) ≤ (zG z ((ent (3 * m2)).toNatClampNeg) 1) then nI 1 else nI 0) := hr_8
    rcases xi_ite inferInstance hr_8 with ⟨c_9, hr_8⟩ | ⟨c_9, hr_8⟩
    · subst hr_8
      refine xr_if1 (tgt := 94) hx hb (by decide) dX10_whyNot_87 (by decide) ?_
      refine lv_iconst (v := nI 1) hx hb dX10_whyNot_90 (by decide) ?_
      refine lv_goto (tgt := 95) hx hb dX10_whyNot_91 (by decide) ?_
      refine lv_istore_n (lv' := [(3, .int (nI 1)), (2, .int (zG z ((ent (3 * m2)).toNatClampNeg) 1)), (1, .int (nI m2)), (0, .ref h0)]) hx hb dX10_whyNot_95 rfl hl (by decide) rfl (fun ls hl => ?_)
      refine lv_iload_n hx hb dX10_whyNot_96 rfl (lv_at hl 0 rfl) ?_
      refine xr_if1 (tgt := 120) hx hb (by decide) dX10_whyNot_97 (by decide) ?_
      refine lv_aload_n hx hb dX10_whyNot_100 rfl (lv_at hl 3 rfl) ?_
      refine va_get (D := (dC, dI)) (ci := 10) (v := .ref eq) (C := RX10) (T := TX10) (N := 19) hx hb hts i_X10 hown hK hP 0 rfl rfl 18 (by decide) k_39 (fun _ h9 => h9) rfl dX10_whyNot_101 ?_
      refine lv_iconst (v := nI 3) hx hb dX10_whyNot_104 (by decide) ?_
      refine lv_iload_n hx hb dX10_whyNot_105 rfl (lv_at hl 2 rfl) ?_
      refine xr_imul_n hx hb dX10_whyNot_106 ?_
      refine lv_iconst (v := nI 1) hx hb dX10_whyNot_107 (by decide) ?_
      refine xr_iadd_n hx hb dX10_whyNot_108 ?_
      refine xr_iald hx hb hK hP 2 0 rfl rfl (i := (3 * m2) + 1) (by omega) (by decide) dX10_whyNot_109 ?_
      refine lv_iconst (v := nI 1) hx hb dX10_whyNot_110 (by decide) ?_
      refine lv_sipush (v := nI 999) hx hb dX10_whyNot_111 (by decide) ?_
      refine xkRi (xSs (Ws' := ([] : List Cond)) (As := [.int (ent ((3 * m2) + 1)), .int (nI 1), .int (nI 999)]) (rest := []) (wc := []) hx hb hml hown hts (c_X10_in l dC dI cI cF cC cZ cQ cS (ent ((3 * m2) + 1)) (nI 1) (nI 999)) 3 (fun hR => va_cwS 3 hts gX10_whyNot_X10_in rfl rfl rfl hdN_X10_in hR) ⟨Nat.le_of_ble_eq_true rfl, Nat.le_of_ble_eq_true rfl⟩ hN hK hP hD [] rfl rfl rfl hl.1 rfl (Nat.le_of_ble_eq_true rfl) dX10_whyNot_114 ⟨Nat.zero_le _, Nat.zero_le _⟩) (fun r_10 hr_10 => ?_)
      have hr_10 : r_10 = (if (nI 1) ≤ (ent ((3 * m2) + 1)) ∧ (ent ((3 * m2) + 1)) ≤ (nI 999) then nI 1 else nI 0) := hr_10
      rcases xi_ite inferInstance hr_10 with ⟨c_11, hr_10⟩ | ⟨c_11, hr_10⟩
      · subst hr_10
        refine xr_ifn1 (tgt := 123) hx hb (by decide) dX10_whyNot_117 (by decide) ?_
        refine lv_iinc (v := nI (m2 + 1)) (lv' := [(1, .int (nI (m2 + 1))), (3, .int (nI 1)), (2, .int (zG z ((ent (3 * m2)).toNatClampNeg) 1)), (0, .ref h0)]) hx hb dX10_whyNot_123 hl (k := 2) rfl (nI_inc1 m2) (by decide) rfl (fun ls hl => ?_)
        refine lv_goto (tgt := 35) hx hb dX10_whyNot_126 (by decide) ?_
        exact ih_35 ((en + 1) - (m2 + 1)) _ _ _ (show (en + 1) - (m2 + 1) < (en + 1) - m2 from by omega) ⟨(m2 + 1), ls, rfl, rfl, rfl, rfl, lv_sub hl [0, 3] rfl, (by omega)⟩
      subst hr_10
      refine xr_ifn0 (tgt := 123) hx hb (by decide) dX10_whyNot_117 (by decide) ?_
      exact absurd (hsup m2 (by omega)).2 c_11
    subst hr_8
    refine xr_if0 (tgt := 94) hx hb (by decide) dX10_whyNot_87 (by decide) ?_
    refine lv_iconst (v := nI 0) hx hb dX10_whyNot_94 (by decide) ?_
    refine lv_istore_n (lv' := [(3, .int (nI 0)), (2, .int (zG z ((ent (3 * m2)).toNatClampNeg) 1)), (1, .int (nI m2)), (0, .ref h0)]) hx hb dX10_whyNot_95 rfl hl (by decide) rfl (fun ls hl => ?_)
    refine lv_iload_n hx hb dX10_whyNot_96 rfl (lv_at hl 0 rfl) ?_
    refine xr_if0 (tgt := 120) hx hb (by decide) dX10_whyNot_97 (by decide) ?_
    exact absurd (hsup m2 (by omega)).1 (fun q => q.elim c_5 c_9)
  refine lv_aload_n hx hb dX10_whyNot_10 rfl (lv_at hl 1 rfl) ?_
  refine lv_aload_n hx hb dX10_whyNot_11 rfl (lv_at hl 1 rfl) ?_
  refine va_get (D := (dC, dI)) (ci := 10) (v := .ref eq) (C := RX10) (T := TX10) (N := 19) hx hb hts i_X10 hown hK hP 0 rfl rfl 18 (by decide) k_39 (fun _ h9 => h9) rfl dX10_whyNot_12 ?_
  refine lv_iconst (v := nI 3) hx hb dX10_whyNot_15 (by decide) ?_
  refine lv_iload_n hx hb dX10_whyNot_16 rfl (lv_at hl 0 rfl) ?_
  refine xr_imul_n hx hb dX10_whyNot_17 ?_
  refine xr_iald hx hb hK hP 2 0 rfl rfl (i := 3 * k) (by omega) (by decide) dX10_whyNot_18 ?_
  refine xkRi (xV (As := [.int (ent (3 * k))]) (rest := []) (wc := [(h0, .inr (10, [.ref zq, h0_past, h0_kept, h0_spare, h0_pastMany, h0_isKept, h0_text, h0_typed, h0_isUsed, h0_planBatch, h0_planUnits, h0_planCents, h0_planMany, h0_planGot, h0_planSubstitutes, h0_at, h0_fault, .int (nI en), .ref eq])), (zq, .inl (cI, 1002, .inl z))]) hx hb hml hown hts (c_X10_isGood l dC dI cI cF cC cZ cQ cS h0 zq h0_past h0_kept h0_spare h0_pastMany h0_isKept h0_text h0_typed h0_isUsed h0_planBatch h0_planUnits h0_planCents h0_planMany h0_planGot h0_planSubstitutes h0_at h0_fault (.int (nI en)) (.ref eq) z (ent (3 * k)) gz (by omega) (by omega)) 1 gX10_whyNot_X10_isGood rfl rfl rfl hdV_X10_isGood ⟨Nat.le_of_ble_eq_true rfl, Nat.le_of_ble_eq_true rfl⟩ hN hK hP hD [0, 1] rfl rfl 10 0 rfl rfl rfl hl.1 rfl (Nat.le_of_ble_eq_true rfl) dX10_whyNot_19 ⟨Nat.zero_le _, Nat.zero_le _⟩) (fun r_12 hr_12 => ?_)
  have hr_12 : r_12 = (if xhas (ent (3 * k)) gz then nI 1 else nI 0) := hr_12
  obtain rfl : r_12 = nI 1 := hr_12.trans (if_pos (hall k (by omega)))
  refine xr_ifn1 (tgt := 27) hx hb (by decide) dX10_whyNot_22 (by decide) ?_
  refine lv_iinc (v := nI (k + 1)) (lv' := [(1, .int (nI (k + 1))), (0, .ref h0)]) hx hb dX10_whyNot_27 hl (k := 0) rfl (nI_inc1 k) (by decide) rfl (fun ls hl => ?_)
  refine lv_goto (tgt := 2) hx hb dX10_whyNot_30 (by decide) ?_
  exact ih_2 ((en + 1) - (k + 1)) _ _ _ (show (en + 1) - (k + 1) < (en + 1) - k from by omega) ⟨(k + 1), ls, rfl, rfl, rfl, rfl, lv_sub hl [0, 1] rfl, (by omega)⟩
