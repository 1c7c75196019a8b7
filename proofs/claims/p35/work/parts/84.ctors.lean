/-! Constructor of the history. -/
theorem hdN_X8_init : yX8_init.cls ≠ "java/lang/invoke/MethodHandle" ∧ yX8_init.cls ≠ "java/lang/invoke/VarHandle" ∧ (parseMethodDescriptor yX8_init.desc).map (fun d => d.parameters.length) = some 0 := by decide +kernel
theorem xdfX8 : ∀ j, j < 8 → defaultValue (tyX8 j) = vp_V [.null, .null, .null, .null, .null, .null, .float 0, .int (nI 0)] j := by
  intro j hj
  rcases (show j = 0 ∨ j = 1 ∨ j = 2 ∨ j = 3 ∨ j = 4 ∨ j = 5 ∨ j = 6 ∨ j = 7 by omega) with rfl | rfl | rfl | rfl | rfl | rfl | rfl | rfl <;> rfl
set_option maxHeartbeats 4000000 in
set_option maxRecDepth 100000 in
theorem c_X4_init (l : Launch) (dC : Nat → ClassId) (dI : Nat → Nat → Nat) (cI cF cC cZ cQ cS : ClassId) (h0 : Nat) : Met l yX4_init wsX4_init ({ frames := 3, cells := 161, slots := 4092, locals := 52 }) (xCre (dC, dI) vwCl [.ref h0] (xtys cI cF cC cZ cQ cS) [(h0, .inr (4, [.null, .int (nI 0), .int (nI 0)]))]) (xCq (dC, dI) vwCl [(h0, .inr (4, [.null, .int (nI 0), .int (nI 0)]))] (fun w => ∃ (q1 : Nat) (ad : Nat → Nat → Nat), w = [(h0, .inr (4, [.ref q1, .int (nI 0), .int (nI 0)])), (q1, .inl (cS, 4, .inr (.inr (.inr (.inr (xsa ad))))))] ++ hiW cI cF cQ ad (fun _ => xT0))) 161 4092 (va_B [(h0, .inr (4, [.null, .int (nI 0), .int (nI 0)]))]) := by
  refine Met.ofW (cc := cX4_init) (maxL := 2) (ret := none) (by decide) rfl ?_
  intro p e s m args below meth c s₁ B hml hv
  obtain ⟨rfl, hP, hK, hD0, hN, hAR⟩ := hv
  have hx := B.exec
  have hb := B.bytes
  have hr := B.returns
  have hts := atoms_spec (ws := wsX4_init) B.pre
  have hown : s.vm.findClass RX4 = some m.cls := findClass_of_methodNamed B.named
  have hin2 : meth.name = "<init>" := (name_of_methodNamed B.named B.method).1
  have hlocks := B.notSynchronized
  have kl_9 := hts (Cond.classLink RX4 9 RX8) (by decide +kernel)
  have k_11 := hts (Cond.fieldLink RX4 11 "ShelfStages$History" "states" "[LShelfStages$State;") (by decide +kernel)
  have kn_X8 := hts (Cond.instantiable RX8 8) (by decide +kernel)
  have ki_X8 := hts (Cond.initialized RX8) (by decide +kernel)
  have km_X8 := hts (Cond.instanceMethod yX8_init) (by decide +kernel)
  have i_X4 : ∀ w ∈ wsX40, w ∈ wsX4_init := by decide +kernel
  have i_X8 : ∀ w ∈ wsX80, w ∈ wsX4_init := by decide +kernel
  obtain ⟨A, hA⟩ : ∃ A, A = va_A [(h0, .inr (4, [.null, .int (nI 0), .int (nI 0)]))] s.heap.size := ⟨_, rfl⟩
  have hA1 : ∀ q, s.heap.size ≤ q → A q := fun q h => by rw [hA]; exact Or.inr h
  have hD : va_D A [(h0, .inr (4, [.null, .int (nI 0), .int (nI 0)]))] := by rw [hA]; exact hD0.self
  have hS : va_S A s.heap s.heap [] := va_S.rf
  have hl := lv_entry ([.ref h0]) (n := 2) (Nat.le_of_ble_eq_true rfl)
  rw [lg_entry_eq]
  generalize (lg_sl ([.ref h0]) ++ List.replicate (2 - (lg_sl ([.ref h0])).length) Slot.unset).toArray = ls at hl ⊢
  have hl : lv_has ls 2 [(0, .ref h0)] := hl
  refine lv_aload_n hx hb dX4_init_0 rfl (lv_at hl 0 rfl) ?_
  refine W.objInit hx hb hown (hts (.methodLink RX4 3 objectInit) (by decide +kernel)) (hts (.instanceMethod objectInit) (by decide +kernel)) (hts (.code objectInit ⟨#[0xb1]⟩ 1 none) (List.mem_of_getElem? (i := 3) rfl)) rfl (by rw [hml]; exact hl.1) rfl dX4_init_1 (Nat.le_of_ble_eq_true rfl) (Nat.le_of_ble_eq_true rfl) ?_
  refine W.eq (show _ = F0 m 4 ls [] from rfl) ?_
  refine lv_aload_n hx hb dX4_init_4 rfl (lv_at hl 0 rfl) ?_
  refine lv_iconst (v := nI 4) hx hb dX4_init_5 (by decide) ?_
  refine xr_newq (C := RX8) (N' := 4) hx hb hown kl_9 hAR.2 hK hP hD hS hA1 5 rfl (nI_pos (by decide)) (nI_clamp (by decide)) (by decide) (Nat.le_of_ble_eq_true rfl) (Nat.le_of_ble_eq_true rfl) dX4_init_6 (fun q1 H hP hD hS => ?_)
  have hP : va_P (dC, dI) vwCl [(h0, .inr (4, [.null, .int (nI 0), .int (nI 0)])), (q1, .inl (cS, 4, .inr (.inr (.inr (.inr (fun _ => none))))))] H := hP
  have hD : va_D A [(h0, .inr (4, [.null, .int (nI 0), .int (nI 0)])), (q1, .inl (cS, 4, .inr (.inr (.inr (.inr (fun _ => none))))))] := hD
  refine va_putF (D := (dC, dI)) (ci := 4) (v := .ref q1) (ty := .array (.object "ShelfStages$State")) (C := RX4) (T := TX4) (N := 3) hx hb hts i_X4 tyX4 tyX4_ok nmX4 hown hK hP hD hS 0 rfl rfl 0 (by decide) k_11 (fun _ h9 => h9) rfl hin2 rfl (by decide +kernel) rfl rfl (Nat.le_of_ble_eq_true rfl) dX4_init_9 (fun H locs hP hD hS => ?_)
  have hP : va_P (dC, dI) vwCl [(h0, .inr (4, [.ref q1, .int (nI 0), .int (nI 0)])), (q1, .inl (cS, 4, .inr (.inr (.inr (.inr (fun _ => none))))))] H := hP
  have hD : va_D A [(h0, .inr (4, [.ref q1, .int (nI 0), .int (nI 0)])), (q1, .inl (cS, 4, .inr (.inr (.inr (.inr (fun _ => none))))))] := hD
  refine lv_iconst (v := nI 0) hx hb dX4_init_12 (by decide) ?_
  refine lv_istore_n (lv' := [(1, .int (nI 0)), (0, .ref h0)]) hx hb dX4_init_13 rfl hl (by decide) rfl (fun ls hl => ?_)
  refine lv_iload_n hx hb dX4_init_14 rfl (lv_at hl 0 rfl) ?_
  refine lv_iconst (v := nI 4) hx hb dX4_init_15 (by decide) ?_
  refine xr_ge_n (a := 0) (b := 4) (tgt := 38) hx hb (by decide) (by decide) dX4_init_16 (by decide) (fun c9 => absurd c9 (by decide)) (fun _ => ?_)
  refine lv_aload_n hx hb dX4_init_19 rfl (lv_at hl 1 rfl) ?_
  refine va_get (D := (dC, dI)) (ci := 4) (v := .ref q1) (C := RX4) (T := TX4) (N := 3) hx hb hts i_X4 hown hK hP 0 rfl rfl 0 (by decide) k_11 (fun _ h9 => h9) rfl dX4_init_20 ?_
  refine lv_iload_n hx hb dX4_init_23 rfl (lv_at hl 0 rfl) ?_
  refine va_new (C := RX8) (T := TX8) (N := 8) (ci := 8) (fs := [.null, .null, .null, .null, .null, .null, .float 0, .int (nI 0)]) hx hb hts i_X8 tyX8 tyX8_ok hown kl_9 kn_X8 ki_X8 hK hP hD hS hA1 rfl xdfX8 (Nat.le_of_ble_eq_true rfl) (Nat.le_of_ble_eq_true rfl) dX4_init_24 (fun q2 H hP hD hS => ?_)
  have hP : va_P (dC, dI) vwCl [(h0, .inr (4, [.ref q1, .int (nI 0), .int (nI 0)])), (q1, .inl (cS, 4, .inr (.inr (.inr (.inr (fun _ => none)))))), (q2, .inr (8, [.null, .null, .null, .null, .null, .null, .float 0, .int (nI 0)]))] H := hP
  have hD : va_D A [(h0, .inr (4, [.ref q1, .int (nI 0), .int (nI 0)])), (q1, .inl (cS, 4, .inr (.inr (.inr (.inr (fun _ => none)))))), (q2, .inr (8, [.null, .null, .null, .null, .null, .null, .float 0, .int (nI 0)]))] := hD
  refine lv_dup hx hb dX4_init_27 rfl ?_
  refine xkC (wr := [(h0, .inr (4, [.ref q1, .int (nI 0), .int (nI 0)])), (q1, .inl (cS, 4, .inr (.inr (.inr (.inr (fun _ => none))))))]) (wc := [(q2, .inr (8, [.null, .null, .null, .null, .null, .null, .float 0, .int (nI 0)]))]) (xIN (wr := [(h0, .inr (4, [.ref q1, .int (nI 0), .int (nI 0)])), (q1, .inl (cS, 4, .inr (.inr (.inr (.inr (fun _ => none))))))]) (rest := [.ref q2, .int (nI 0), .ref q1]) hx hb hml hown hts (c_X8_init l dC dI cI cF cC cZ cQ cS q2) gX4_init_X8_init_n17 rfl rfl rfl (hN (RX4, 17, yX8_init) (List.mem_of_getElem? (i := 6) rfl)) ki_X8 km_X8 rfl hdN_X8_init ⟨Nat.le_of_ble_eq_true rfl, Nat.le_of_ble_eq_true rfl⟩ hN hAR hK hP hD rfl hl.1 rfl (Nat.le_of_ble_eq_true rfl) dX4_init_28 ⟨Nat.le_of_ble_eq_true rfl, Nat.le_of_ble_eq_true rfl⟩) rfl hP hD hS hA1 (fun q3w H locs hq3w hP8 hD8 hS => ?_)
  obtain ⟨q4n, eq3w, rfl⟩ := hq3w
  subst eq3w
  have hP := hP8
  have hD := hD8
  have hP : va_P (dC, dI) vwCl ([(h0, .inr (4, [.ref q1, .int (nI 0), .int (nI 0)])), (q1, .inl (cS, 4, .inr (.inr (.inr (.inr (fun _ => none))))))] ++ stW cI cF cQ q4n xT0) H := hP
  have hD : va_D A ([(h0, .inr (4, [.ref q1, .int (nI 0), .int (nI 0)])), (q1, .inl (cS, 4, .inr (.inr (.inr (.inr (fun _ => none))))))] ++ stW cI cF cQ q4n xT0) := hD
  refine xr_astq hx hb hK hP hD hS 1 5 2 8 rfl rfl rfl rfl (i := 0) (by decide) (by decide) dX4_init_31 (fun H locs hP hD hS => ?_)
  have hP : va_P (dC, dI) vwCl ([(h0, .inr (4, [.ref q1, .int (nI 0), .int (nI 0)])), (q1, .inl (cS, 4, .inr (.inr (.inr (.inr (va_up (fun _ => none) 0 (some (q4n 0))))))))] ++ stW cI cF cQ q4n xT0) H := hP
  have hD : va_D A ([(h0, .inr (4, [.ref q1, .int (nI 0), .int (nI 0)])), (q1, .inl (cS, 4, .inr (.inr (.inr (.inr (va_up (fun _ => none) 0 (some (q4n 0))))))))] ++ stW cI cF cQ q4n xT0) := hD
  refine lv_iinc (v := nI 1) (lv' := [(1, .int (nI 1)), (0, .ref h0)]) hx hb dX4_init_32 hl (k := 0) rfl (nI_inc1 0) (by decide) rfl (fun ls hl => ?_)
  refine lv_goto (tgt := 14) hx hb dX4_init_35 (by decide) ?_
  refine lv_iload_n hx hb dX4_init_14 rfl (lv_at hl 0 rfl) ?_
  refine lv_iconst (v := nI 4) hx hb dX4_init_15 (by decide) ?_
  refine xr_ge_n (a := 1) (b := 4) (tgt := 38) hx hb (by decide) (by decide) dX4_init_16 (by decide) (fun c9 => absurd c9 (by decide)) (fun _ => ?_)
  refine lv_aload_n hx hb dX4_init_19 rfl (lv_at hl 1 rfl) ?_
  refine va_get (D := (dC, dI)) (ci := 4) (v := .ref q1) (C := RX4) (T := TX4) (N := 3) hx hb hts i_X4 hown hK hP 0 rfl rfl 0 (by decide) k_11 (fun _ h9 => h9) rfl dX4_init_20 ?_
  refine lv_iload_n hx hb dX4_init_23 rfl (lv_at hl 0 rfl) ?_
  refine va_new (C := RX8) (T := TX8) (N := 8) (ci := 8) (fs := [.null, .null, .null, .null, .null, .null, .float 0, .int (nI 0)]) hx hb hts i_X8 tyX8 tyX8_ok hown kl_9 kn_X8 ki_X8 hK hP hD hS hA1 rfl xdfX8 (Nat.le_of_ble_eq_true rfl) (Nat.le_of_ble_eq_true rfl) dX4_init_24 (fun q5 H hP hD hS => ?_)
  have hP : va_P (dC, dI) vwCl (([(h0, .inr (4, [.ref q1, .int (nI 0), .int (nI 0)])), (q1, .inl (cS, 4, .inr (.inr (.inr (.inr (va_up (fun _ => none) 0 (some (q4n 0))))))))] ++ stW cI cF cQ q4n xT0) ++ [(q5, .inr (8, [.null, .null, .null, .null, .null, .null, .float 0, .int (nI 0)]))]) H := hP
  have hD : va_D A (([(h0, .inr (4, [.ref q1, .int (nI 0), .int (nI 0)])), (q1, .inl (cS, 4, .inr (.inr (.inr (.inr (va_up (fun _ => none) 0 (some (q4n 0))))))))] ++ stW cI cF cQ q4n xT0) ++ [(q5, .inr (8, [.null, .null, .null, .null, .null, .null, .float 0, .int (nI 0)]))]) := hD
  refine lv_dup hx hb dX4_init_27 rfl ?_
  refine xkC (wr := ([(h0, .inr (4, [.ref q1, .int (nI 0), .int (nI 0)])), (q1, .inl (cS, 4, .inr (.inr (.inr (.inr (va_up (fun _ => none) 0 (some (q4n 0))))))))] ++ stW cI cF cQ q4n xT0)) (wc := [(q5, .inr (8, [.null, .null, .null, .null, .null, .null, .float 0, .int (nI 0)]))]) (xIN (wr := ([(h0, .inr (4, [.ref q1, .int (nI 0), .int (nI 0)])), (q1, .inl (cS, 4, .inr (.inr (.inr (.inr (va_up (fun _ => none) 0 (some (q4n 0))))))))] ++ stW cI cF cQ q4n xT0)) (rest := [.ref q5, .int (nI 1), .ref q1]) hx hb hml hown hts (c_X8_init l dC dI cI cF cC cZ cQ cS q5) gX4_init_X8_init_n17 rfl rfl rfl (hN (RX4, 17, yX8_init) (List.mem_of_getElem? (i := 6) rfl)) ki_X8 km_X8 rfl hdN_X8_init ⟨Nat.le_of_ble_eq_true rfl, Nat.le_of_ble_eq_true rfl⟩ hN hAR hK hP hD rfl hl.1 rfl (Nat.le_of_ble_eq_true rfl) dX4_init_28 ⟨Nat.le_of_ble_eq_true rfl, Nat.le_of_ble_eq_true rfl⟩) rfl hP hD hS hA1 (fun q6w H locs hq6w hP8 hD8 hS => ?_)
  obtain ⟨q7n, eq6w, rfl⟩ := hq6w
  subst eq6w
  have hP := hP8
  have hD := hD8
  have hP : va_P (dC, dI) vwCl (([(h0, .inr (4, [.ref q1, .int (nI 0), .int (nI 0)])), (q1, .inl (cS, 4, .inr (.inr (.inr (.inr (va_up (fun _ => none) 0 (some (q4n 0))))))))] ++ stW cI cF cQ q4n xT0) ++ stW cI cF cQ q7n xT0) H := hP
  have hD : va_D A (([(h0, .inr (4, [.ref q1, .int (nI 0), .int (nI 0)])), (q1, .inl (cS, 4, .inr (.inr (.inr (.inr (va_up (fun _ => none) 0 (some (q4n 0))))))))] ++ stW cI cF cQ q4n xT0) ++ stW cI cF cQ q7n xT0) := hD
  refine xr_astq hx hb hK hP hD hS 1 5 42 8 rfl rfl rfl rfl (i := 1) (by decide) (by decide) dX4_init_31 (fun H locs hP hD hS => ?_)
  have hP : va_P (dC, dI) vwCl (([(h0, .inr (4, [.ref q1, .int (nI 0), .int (nI 0)])), (q1, .inl (cS, 4, .inr (.inr (.inr (.inr (va_up (va_up (fun _ => none) 0 (some (q4n 0))) 1 (some (q7n 0))))))))] ++ stW cI cF cQ q4n xT0) ++ stW cI cF cQ q7n xT0) H := hP
  have hD : va_D A (([(h0, .inr (4, [.ref q1, .int (nI 0), .int (nI 0)])), (q1, .inl (cS, 4, .inr (.inr (.inr (.inr (va_up (va_up (fun _ => none) 0 (some (q4n 0))) 1 (some (q7n 0))))))))] ++ stW cI cF cQ q4n xT0) ++ stW cI cF cQ q7n xT0) := hD
  refine lv_iinc (v := nI 2) (lv' := [(1, .int (nI 2)), (0, .ref h0)]) hx hb dX4_init_32 hl (k := 0) rfl (nI_inc1 1) (by decide) rfl (fun ls hl => ?_)
  refine lv_goto (tgt := 14) hx hb dX4_init_35 (by decide) ?_
  refine lv_iload_n hx hb dX4_init_14 rfl (lv_at hl 0 rfl) ?_
  refine lv_iconst (v := nI 4) hx hb dX4_init_15 (by decide) ?_
  refine xr_ge_n (a := 2) (b := 4) (tgt := 38) hx hb (by decide) (by decide) dX4_init_16 (by decide) (fun c9 => absurd c9 (by decide)) (fun _ => ?_)
  refine lv_aload_n hx hb dX4_init_19 rfl (lv_at hl 1 rfl) ?_
  refine va_get (D := (dC, dI)) (ci := 4) (v := .ref q1) (C := RX4) (T := TX4) (N := 3) hx hb hts i_X4 hown hK hP 0 rfl rfl 0 (by decide) k_11 (fun _ h9 => h9) rfl dX4_init_20 ?_
  refine lv_iload_n hx hb dX4_init_23 rfl (lv_at hl 0 rfl) ?_
  refine va_new (C := RX8) (T := TX8) (N := 8) (ci := 8) (fs := [.null, .null, .null, .null, .null, .null, .float 0, .int (nI 0)]) hx hb hts i_X8 tyX8 tyX8_ok hown kl_9 kn_X8 ki_X8 hK hP hD hS hA1 rfl xdfX8 (Nat.le_of_ble_eq_true rfl) (Nat.le_of_ble_eq_true rfl) dX4_init_24 (fun q8 H hP hD hS => ?_)
  have hP : va_P (dC, dI) vwCl ((([(h0, .inr (4, [.ref q1, .int (nI 0), .int (nI 0)])), (q1, .inl (cS, 4, .inr (.inr (.inr (.inr (va_up (va_up (fun _ => none) 0 (some (q4n 0))) 1 (some (q7n 0))))))))] ++ stW cI cF cQ q4n xT0) ++ stW cI cF cQ q7n xT0) ++ [(q8, .inr (8, [.null, .null, .null, .null, .null, .null, .float 0, .int (nI 0)]))]) H := hP
  have hD : va_D A ((([(h0, .inr (4, [.ref q1, .int (nI 0), .int (nI 0)])), (q1, .inl (cS, 4, .inr (.inr (.inr (.inr (va_up (va_up (fun _ => none) 0 (some (q4n 0))) 1 (some (q7n 0))))))))] ++ stW cI cF cQ q4n xT0) ++ stW cI cF cQ q7n xT0) ++ [(q8, .inr (8, [.null, .null, .null, .null, .null, .null, .float 0, .int (nI 0)]))]) := hD
  refine lv_dup hx hb dX4_init_27 rfl ?_
  refine xkC (wr := (([(h0, .inr (4, [.ref q1, .int (nI 0), .int (nI 0)])), (q1, .inl (cS, 4, .inr (.inr (.inr (.inr (va_up (va_up (fun _ => none) 0 (some (q4n 0))) 1 (some (q7n 0))))))))] ++ stW cI cF cQ q4n xT0) ++ stW cI cF cQ q7n xT0)) (wc := [(q8, .inr (8, [.null, .null, .null, .null, .null, .null, .float 0, .int (nI 0)]))]) (xIN (wr := (([(h0, .inr (4, [.ref q1, .int (nI 0), .int (nI 0)])), (q1, .inl (cS, 4, .inr (.inr (.inr (.inr (va_up (va_up (fun _ => none) 0 (some (q4n 0))) 1 (some (q7n 0))))))))] ++ stW cI cF cQ q4n xT0) ++ stW cI cF cQ q7n xT0)) (rest := [.ref q8, .int (nI 2), .ref q1]) hx hb hml hown hts (c_X8_init l dC dI cI cF cC cZ cQ cS q8) gX4_init_X8_init_n17 rfl rfl rfl (hN (RX4, 17, yX8_init) (List.mem_of_getElem? (i := 6) rfl)) ki_X8 km_X8 rfl hdN_X8_init ⟨Nat.le_of_ble_eq_true rfl, Nat.le_of_ble_eq_true rfl⟩ hN hAR hK hP hD rfl hl.1 rfl (Nat.le_of_ble_eq_true rfl) dX4_init_28 ⟨Nat.le_of_ble_eq_true rfl, Nat.le_of_ble_eq_true rfl⟩) rfl hP hD hS hA1 (fun q9w H locs hq9w hP8 hD8 hS => ?_)
  obtain ⟨q10n, eq9w, rfl⟩ := hq9w
  subst eq9w
  have hP := hP8
  have hD := hD8
  have hP : va_P (dC, dI) vwCl ((([(h0, .inr (4, [.ref q1, .int (nI 0), .int (nI 0)])), (q1, .inl (cS, 4, .inr (.inr (.inr (.inr (va_up (va_up (fun _ => none) 0 (some (q4n 0))) 1 (some (q7n 0))))))))] ++ stW cI cF cQ q4n xT0) ++ stW cI cF cQ q7n xT0) ++ stW cI cF cQ q10n xT0) H := hP
  have hD : va_D A ((([(h0, .inr (4, [.ref q1, .int (nI 0), .int (nI 0)])), (q1, .inl (cS, 4, .inr (.inr (.inr (.inr (va_up (va_up (fun _ => none) 0 (some (q4n 0))) 1 (some (q7n 0))))))))] ++ stW cI cF cQ q4n xT0) ++ stW cI cF cQ q7n xT0) ++ stW cI cF cQ q10n xT0) := hD
  refine xr_astq hx hb hK hP hD hS 1 5 82 8 rfl rfl rfl rfl (i := 2) (by decide) (by decide) dX4_init_31 (fun H locs hP hD hS => ?_)
  have hP : va_P (dC, dI) vwCl ((([(h0, .inr (4, [.ref q1, .int (nI 0), .int (nI 0)])), (q1, .inl (cS, 4, .inr (.inr (.inr (.inr (va_up (va_up (va_up (fun _ => none) 0 (some (q4n 0))) 1 (some (q7n 0))) 2 (some (q10n 0))))))))] ++ stW cI cF cQ q4n xT0) ++ stW cI cF cQ q7n xT0) ++ stW cI cF cQ q10n xT0) H := hP
  have hD : va_D A ((([(h0, .inr (4, [.ref q1, .int (nI 0), .int (nI 0)])), (q1, .inl (cS, 4, .inr (.inr (.inr (.inr (va_up (va_up (va_up (fun _ => none) 0 (some (q4n 0))) 1 (some (q7n 0))) 2 (some (q10n 0))))))))] ++ stW cI cF cQ q4n xT0) ++ stW cI cF cQ q7n xT0) ++ stW cI cF cQ q10n xT0) := hD
  refine lv_iinc (v := nI 3) (lv' := [(1, .int (nI 3)), (0, .ref h0)]) hx hb dX4_init_32 hl (k := 0) rfl (nI_inc1 2) (by decide) rfl (fun ls hl => ?_)
  refine lv_goto (tgt := 14) hx hb dX4_init_35 (by decide) ?_
  refine lv_iload_n hx hb dX4_init_14 rfl (lv_at hl 0 rfl) ?_
  refine lv_iconst (v := nI 4) hx hb dX4_init_15 (by decide) ?_
  refine xr_ge_n (a := 3) (b := 4) (tgt := 38) hx hb (by decide) (by decide) dX4_init_16 (by decide) (fun c9 => absurd c9 (by decide)) (fun _ => ?_)
  refine lv_aload_n hx hb dX4_init_19 rfl (lv_at hl 1 rfl) ?_
  refine va_get (D := (dC, dI)) (ci := 4) (v := .ref q1) (C := RX4) (T := TX4) (N := 3) hx hb hts i_X4 hown hK hP 0 rfl rfl 0 (by decide) k_11 (fun _ h9 => h9) rfl dX4_init_20 ?_
  refine lv_iload_n hx hb dX4_init_23 rfl (lv_at hl 0 rfl) ?_
  refine va_new (C := RX8) (T := TX8) (N := 8) (ci := 8) (fs := [.null, .null, .null, .null, .null, .null, .float 0, .int (nI 0)]) hx hb hts i_X8 tyX8 tyX8_ok hown kl_9 kn_X8 ki_X8 hK hP hD hS hA1 rfl xdfX8 (Nat.le_of_ble_eq_true rfl) (Nat.le_of_ble_eq_true rfl) dX4_init_24 (fun q11 H hP hD hS => ?_)
  have hP : va_P (dC, dI) vwCl (((([(h0, .inr (4, [.ref q1, .int (nI 0), .int (nI 0)])), (q1, .inl (cS, 4, .inr (.inr (.inr (.inr (va_up (va_up (va_up (fun _ => none) 0 (some (q4n 0))) 1 (some (q7n 0))) 2 (some (q10n 0))))))))] ++ stW cI cF cQ q4n xT0) ++ stW cI cF cQ q7n xT0) ++ stW cI cF cQ q10n xT0) ++ [(q11, .inr (8, [.null, .null, .null, .null, .null, .null, .float 0, .int (nI 0)]))]) H := hP
  have hD : va_D A (((([(h0, .inr (4, [.ref q1, .int (nI 0), .int (nI 0)])), (q1, .inl (cS, 4, .inr (.inr (.inr (.inr (va_up (va_up (va_up (fun _ => none) 0 (some (q4n 0))) 1 (some (q7n 0))) 2 (some (q10n 0))))))))] ++ stW cI cF cQ q4n xT0) ++ stW cI cF cQ q7n xT0) ++ stW cI cF cQ q10n xT0) ++ [(q11, .inr (8, [.null, .null, .null, .null, .null, .null, .float 0, .int (nI 0)]))]) := hD
  refine lv_dup hx hb dX4_init_27 rfl ?_
  refine xkC (wr := ((([(h0, .inr (4, [.ref q1, .int (nI 0), .int (nI 0)])), (q1, .inl (cS, 4, .inr (.inr (.inr (.inr (va_up (va_up (va_up (fun _ => none) 0 (some (q4n 0))) 1 (some (q7n 0))) 2 (some (q10n 0))))))))] ++ stW cI cF cQ q4n xT0) ++ stW cI cF cQ q7n xT0) ++ stW cI cF cQ q10n xT0)) (wc := [(q11, .inr (8, [.null, .null, .null, .null, .null, .null, .float 0, .int (nI 0)]))]) (xIN (wr := ((([(h0, .inr (4, [.ref q1, .int (nI 0), .int (nI 0)])), (q1, .inl (cS, 4, .inr (.inr (.inr (.inr (va_up (va_up (va_up (fun _ => none) 0 (some (q4n 0))) 1 (some (q7n 0))) 2 (some (q10n 0))))))))] ++ stW cI cF cQ q4n xT0) ++ stW cI cF cQ q7n xT0) ++ stW cI cF cQ q10n xT0)) (rest := [.ref q11, .int (nI 3), .ref q1]) hx hb hml hown hts (c_X8_init l dC dI cI cF cC cZ cQ cS q11) gX4_init_X8_init_n17 rfl rfl rfl (hN (RX4, 17, yX8_init) (List.mem_of_getElem? (i := 6) rfl)) ki_X8 km_X8 rfl hdN_X8_init ⟨Nat.le_of_ble_eq_true rfl, Nat.le_of_ble_eq_true rfl⟩ hN hAR hK hP hD rfl hl.1 rfl (Nat.le_of_ble_eq_true rfl) dX4_init_28 ⟨Nat.le_of_ble_eq_true rfl, Nat.le_of_ble_eq_true rfl⟩) rfl hP hD hS hA1 (fun q12w H locs hq12w hP8 hD8 hS => ?_)
  obtain ⟨q13n, eq12w, rfl⟩ := hq12w
  subst eq12w
  have hP := hP8
  have hD := hD8
  have hP : va_P (dC, dI) vwCl (((([(h0, .inr (4, [.ref q1, .int (nI 0), .int (nI 0)])), (q1, .inl (cS, 4, .inr (.inr (.inr (.inr (va_up (va_up (va_up (fun _ => none) 0 (some (q4n 0))) 1 (some (q7n 0))) 2 (some (q10n 0))))))))] ++ stW cI cF cQ q4n xT0) ++ stW cI cF cQ q7n xT0) ++ stW cI cF cQ q10n xT0) ++ stW cI cF cQ q13n xT0) H := hP
  have hD : va_D A (((([(h0, .inr (4, [.ref q1, .int (nI 0), .int (nI 0)])), (q1, .inl (cS, 4, .inr (.inr (.inr (.inr (va_up (va_up (va_up (fun _ => none) 0 (some (q4n 0))) 1 (some (q7n 0))) 2 (some (q10n 0))))))))] ++ stW cI cF cQ q4n xT0) ++ stW cI cF cQ q7n xT0) ++ stW cI cF cQ q10n xT0) ++ stW cI cF cQ q13n xT0) := hD
  refine xr_astq hx hb hK hP hD hS 1 5 122 8 rfl rfl rfl rfl (i := 3) (by decide) (by decide) dX4_init_31 (fun H locs hP hD hS => ?_)
  have hP : va_P (dC, dI) vwCl (((([(h0, .inr (4, [.ref q1, .int (nI 0), .int (nI 0)])), (q1, .inl (cS, 4, .inr (.inr (.inr (.inr (va_up (va_up (va_up (va_up (fun _ => none) 0 (some (q4n 0))) 1 (some (q7n 0))) 2 (some (q10n 0))) 3 (some (q13n 0))))))))] ++ stW cI cF cQ q4n xT0) ++ stW cI cF cQ q7n xT0) ++ stW cI cF cQ q10n xT0) ++ stW cI cF cQ q13n xT0) H := hP
  have hD : va_D A (((([(h0, .inr (4, [.ref q1, .int (nI 0), .int (nI 0)])), (q1, .inl (cS, 4, .inr (.inr (.inr (.inr (va_up (va_up (va_up (va_up (fun _ => none) 0 (some (q4n 0))) 1 (some (q7n 0))) 2 (some (q10n 0))) 3 (some (q13n 0))))))))] ++ stW cI cF cQ q4n xT0) ++ stW cI cF cQ q7n xT0) ++ stW cI cF cQ q10n xT0) ++ stW cI cF cQ q13n xT0) := hD
  refine lv_iinc (v := nI 4) (lv' := [(1, .int (nI 4)), (0, .ref h0)]) hx hb dX4_init_32 hl (k := 0) rfl (nI_inc1 3) (by decide) rfl (fun ls hl => ?_)
  refine lv_goto (tgt := 14) hx hb dX4_init_35 (by decide) ?_
  refine lv_iload_n hx hb dX4_init_14 rfl (lv_at hl 0 rfl) ?_
  refine lv_iconst (v := nI 4) hx hb dX4_init_15 (by decide) ?_
  refine xr_ge_n (a := 4) (b := 4) (tgt := 38) hx hb (by decide) (by decide) dX4_init_16 (by decide) (fun _ => ?_) (fun c9 => absurd c9 (by decide))
  have hP := xP_arrq hP 1 rfl (f := xsa (fun k => ([q4n, q7n, q10n, q13n] : List (Nat → Nat)).getD k q4n)) (fun k hk => by
    rcases (show k = 0 ∨ k = 1 ∨ k = 2 ∨ k = 3 by omega) with rfl | rfl | rfl | rfl <;> rfl)
  have hP : va_P (dC, dI) vwCl (((([(h0, .inr (4, [.ref q1, .int (nI 0), .int (nI 0)])), (q1, .inl (cS, 4, .inr (.inr (.inr (.inr (xsa (fun k => ([q4n, q7n, q10n, q13n] : List (Nat → Nat)).getD k q4n)))))))] ++ stW cI cF cQ q4n xT0) ++ stW cI cF cQ q7n xT0) ++ stW cI cF cQ q10n xT0) ++ stW cI cF cQ q13n xT0) H := hP
  have hD := va_D_adr (W' := (((([(h0, .inr (4, [.ref q1, .int (nI 0), .int (nI 0)])), (q1, .inl (cS, 4, .inr (.inr (.inr (.inr (xsa (fun k => ([q4n, q7n, q10n, q13n] : List (Nat → Nat)).getD k q4n)))))))] ++ stW cI cF cQ q4n xT0) ++ stW cI cF cQ q7n xT0) ++ stW cI cF cQ q10n xT0) ++ stW cI cF cQ q13n xT0)) hD rfl
  rw [List.append_assoc, List.append_assoc, List.append_assoc] at hP hD
  have hP : va_P (dC, dI) vwCl ([(h0, .inr (4, [.ref q1, .int (nI 0), .int (nI 0)])), (q1, .inl (cS, 4, .inr (.inr (.inr (.inr (xsa (fun k => ([q4n, q7n, q10n, q13n] : List (Nat → Nat)).getD k q4n)))))))] ++ hiW cI cF cQ (fun k => ([q4n, q7n, q10n, q13n] : List (Nat → Nat)).getD k q4n) (fun _ => xT0)) H := hP
  have hD : va_D A ([(h0, .inr (4, [.ref q1, .int (nI 0), .int (nI 0)])), (q1, .inl (cS, 4, .inr (.inr (.inr (.inr (xsa (fun k => ([q4n, q7n, q10n, q13n] : List (Nat → Nat)).getD k q4n)))))))] ++ hiW cI cF cQ (fun k => ([q4n, q7n, q10n, q13n] : List (Nat → Nat)).getD k q4n) (fun _ => xT0)) := hD
  refine xr_old (wc := [(h0, .inr (4, [.null, .int (nI 0), .int (nI 0)]))]) (by rw [← hA]; exact hS) (fun locs1 hl1 => ?_)
  exact W.vret hx hb hr (fun t ht hW => ⟨⟨_, rfl, ⟨q1, (fun k => ([q4n, q7n, q10n, q13n] : List (Nat → Nat)).getD k q4n), rfl⟩, by rw [ht]; exact hP, by rw [← hA]; exact hD⟩, xS_fr (by rw [← hA]; exact hS) ht⟩) hl1 dX4_init_38
