theorem hdV_X4_push : yX4_push.cls = RX4 ∧ yX4_push.cls ≠ "java/lang/invoke/MethodHandle" ∧ yX4_push.cls ≠ "java/lang/invoke/VarHandle" ∧ (parseMethodDescriptor yX4_push.desc).map (fun d => d.parameters.length) = some 1 := by decide +kernel
set_option maxHeartbeats 4000000 in
set_option maxRecDepth 100000 in
theorem c_X4_push (l : Launch) (dC : Nat → ClassId) (dI : Nat → Nat → Nat) (cI cF cC cZ cQ cS : ClassId) (hh : Nat) (hs : Nat) (ad : Nat → Nat → Nat) (ol : Nat) (sz : Nat) (o : Nat → Nat) (S : Nat → Nat → Nat → Int32) (T : Nat → Nat → Int32) (hol : ol < 4) (hsz : sz ≤ 4) : Met l yX4_push wsX4_push ({ frames := 4, cells := 0, slots := 0, locals := 104 }) (xPre (dC, dI) vwCl [.ref hh, .ref (o 0)] (xtys cI cF cC cZ cQ cS) (([(hh, .inr (4, [.ref hs, .int (nI ol), .int (nI sz)])), (hs, .inl (cS, 4, .inr (.inr (.inr (.inr (xsa ad))))))] ++ stW cI cF cQ o T) ++ hiW cI cF cQ ad S)) (xWv (dC, dI) vwCl (([(hh, .inr (4, [.ref hs, .int (nI ol), .int (nI sz)])), (hs, .inl (cS, 4, .inr (.inr (.inr (.inr (xsa ad))))))] ++ stW cI cF cQ o T) ++ hiW cI cF cQ ad S) (fun w0 => w0 = (([(hh, .inr (4, [.ref hs, .int (nI (xol ol sz)), .int (nI (xsz sz))])), (hs, .inl (cS, 4, .inr (.inr (.inr (.inr (xsa ad))))))] ++ stW cI cF cQ o T) ++ hiW cI cF cQ ad (xupS S ((ol + sz) % 4) T)))) 0 0 (va_B (([(hh, .inr (4, [.ref hs, .int (nI ol), .int (nI sz)])), (hs, .inl (cS, 4, .inr (.inr (.inr (.inr (xsa ad))))))] ++ stW cI cF cQ o T) ++ hiW cI cF cQ ad S)) := by
  refine Met.ofW (cc := cX4_push) (maxL := 2) (ret := none) (by decide) rfl ?_
  intro p e s m args below meth c s₁ B hml hv
  obtain ⟨rfl, hP, hK, hD0, hN⟩ := hv
  have hx := B.exec
  have hb := B.bytes
  have hr := B.returns
  have hts := atoms_spec (ws := wsX4_push) B.pre
  have hown : s.vm.findClass RX4 = some m.cls := findClass_of_methodNamed B.named
  have hlocks := B.notSynchronized
  have k_11 := hts (Cond.fieldLink RX4 11 "ShelfStages$History" "states" "[LShelfStages$State;") (by decide +kernel)
  have k_18 := hts (Cond.fieldLink RX4 18 "ShelfStages$History" "size" "I") (by decide +kernel)
  have k_22 := hts (Cond.fieldLink RX4 22 "ShelfStages$History" "oldest" "I") (by decide +kernel)
  have i_X4 : ∀ w ∈ wsX40, w ∈ wsX4_push := by decide +kernel
  obtain ⟨A, hA⟩ : ∃ A, A = va_B (([(hh, .inr (4, [.ref hs, .int (nI ol), .int (nI sz)])), (hs, .inl (cS, 4, .inr (.inr (.inr (.inr (xsa ad))))))] ++ stW cI cF cQ o T) ++ hiW cI cF cQ ad S) := ⟨_, rfl⟩
  have hD : va_D A (([(hh, .inr (4, [.ref hs, .int (nI ol), .int (nI sz)])), (hs, .inl (cS, 4, .inr (.inr (.inr (.inr (xsa ad))))))] ++ stW cI cF cQ o T) ++ hiW cI cF cQ ad S) := hA ▸ hD0.own
  have hS : va_S A s.heap s.heap [] := va_S.rf
  have hl := lv_entry ([.ref hh, .ref (o 0)]) (n := 2) (Nat.le_of_ble_eq_true rfl)
  rw [lg_entry_eq]
  generalize (lg_sl ([.ref hh, .ref (o 0)]) ++ List.replicate (2 - (lg_sl ([.ref hh, .ref (o 0)])).length) Slot.unset).toArray = ls at hl ⊢
  have hl : lv_has ls 2 [(0, .ref hh), (1, .ref (o 0))] := hl
  refine lv_aload_n hx hb dX4_push_0 rfl (lv_at hl 0 rfl) ?_
  refine va_get (D := (dC, dI)) (ci := 4) (v := .int (nI sz)) (C := RX4) (T := TX4) (N := 3) hx hb hts i_X4 hown hK hP 0 rfl rfl 2 (by decide) k_18 (fun _ h9 => h9) rfl dX4_push_1 ?_
  refine lv_iconst (v := nI 4) hx hb dX4_push_4 (by decide) ?_
  refine xr_ne_n (tgt := 30) hx hb (by omega) (by omega) dX4_push_5 (by decide) (fun c_1 => ?_) (fun c_1 => ?_)
  · skip
    refine lv_aload_n hx hb dX4_push_30 rfl (lv_at hl 0 rfl) ?_
    refine va_get (D := (dC, dI)) (ci := 4) (v := .ref hs) (C := RX4) (T := TX4) (N := 3) hx hb hts i_X4 hown hK hP 0 rfl rfl 0 (by decide) k_11 (fun _ h9 => h9) rfl dX4_push_31 ?_
    refine lv_aload_n hx hb dX4_push_34 rfl (lv_at hl 0 rfl) ?_
    refine va_get (D := (dC, dI)) (ci := 4) (v := .int (nI ol)) (C := RX4) (T := TX4) (N := 3) hx hb hts i_X4 hown hK hP 0 rfl rfl 1 (by decide) k_22 (fun _ h9 => h9) rfl dX4_push_35 ?_
    refine lv_aload_n hx hb dX4_push_38 rfl (lv_at hl 0 rfl) ?_
    refine va_get (D := (dC, dI)) (ci := 4) (v := .int (nI sz)) (C := RX4) (T := TX4) (N := 3) hx hb hts i_X4 hown hK hP 0 rfl rfl 2 (by decide) k_18 (fun _ h9 => h9) rfl dX4_push_39 ?_
    refine xr_iadd_n hx hb dX4_push_42 ?_
    refine lv_iconst (v := nI 4) hx hb dX4_push_43 (by decide) ?_
    refine lv_irem hx hb dX4_push_44 (by decide) ?_
    refine xr_top (nI_rem (by omega) (by omega) (by omega)) ?_
    refine xr_top (show nI ((ol + sz) % 4) = nI ((ol + sz) % 4) from by first | rfl | (congr 1; omega)) ?_
    have ht4 : ((ol + sz) % 4) < 4 := Nat.mod_lt _ (by decide)
    refine xr_aald hx hb hK hP 1 5 rfl rfl rfl (i := ((ol + sz) % 4)) (v := ad ((ol + sz) % 4) 0) (by omega) (by decide) rfl dX4_push_45 ?_
    refine lv_aload_n hx hb dX4_push_46 rfl (lv_at hl 1 rfl) ?_
    have hPF : va_P (dC, dI) vwCl ([(hh, .inr (4, [.ref hs, .int (nI ol), .int (nI sz)])), (hs, .inl (cS, 4, .inr (.inr (.inr (.inr (xsa ad))))))] ++ (stW cI cF cQ o T ++ hiW cI cF cQ ad S)) s.heap := hP
    have hDF : va_D A ([(hh, .inr (4, [.ref hs, .int (nI ol), .int (nI sz)])), (hs, .inl (cS, 4, .inr (.inr (.inr (.inr (xsa ad))))))] ++ (stW cI cF cQ o T ++ hiW cI cF cQ ad S)) := hD
    have hPc := xpu_in ht4 hPF
    have hDc := xpu_inD ht4 hDF
    refine xkV3 (xVg (As := [.ref (o 0)]) (rest := []) (wc := stW cI cF cQ (ad ((ol + sz) % 4)) (S ((ol + sz) % 4)) ++ stW cI cF cQ o T) (W0 := stW cI cF cQ (ad ((ol + sz) % 4)) (S ((ol + sz) % 4)) ++ stW cI cF cQ o T) hx hb hml hown hts (c_copyW l dC dI cI cF cC cZ cQ cS (ad ((ol + sz) % 4)) o (S ((ol + sz) % 4)) T) 1 gX4_push_X8_copyFrom rfl rfl rfl hdV_X8_copyFrom ⟨Nat.le_of_ble_eq_true rfl, Nat.le_of_ble_eq_true rfl⟩ hN hK hPc hPc hDc 8 0 rfl rfl rfl hl.1 rfl (Nat.le_of_ble_eq_true rfl) dX4_push_47 ⟨Nat.zero_le _, Nat.zero_le _⟩) hS (xB_of hDc) (fun H locs hk9 hP1 hS => ?_)
    obtain ⟨hP, hD⟩ := xpu_out ht4 hPF hDF hk9 hP1
    have hP : va_P (dC, dI) vwCl (([(hh, .inr (4, [.ref hs, .int (nI ol), .int (nI sz)])), (hs, .inl (cS, 4, .inr (.inr (.inr (.inr (xsa ad))))))] ++ stW cI cF cQ o T) ++ hiW cI cF cQ ad (xupS S ((ol + sz) % 4) T)) H := hP
    have hD : va_D A (([(hh, .inr (4, [.ref hs, .int (nI ol), .int (nI sz)])), (hs, .inl (cS, 4, .inr (.inr (.inr (.inr (xsa ad))))))] ++ stW cI cF cQ o T) ++ hiW cI cF cQ ad (xupS S ((ol + sz) % 4) T)) := hD
    refine lv_aload_n hx hb dX4_push_50 rfl (lv_at hl 0 rfl) ?_
    refine lv_dup hx hb dX4_push_51 rfl ?_
    refine va_get (D := (dC, dI)) (ci := 4) (v := .int (nI sz)) (C := RX4) (T := TX4) (N := 3) hx hb hts i_X4 hown hK hP 0 rfl rfl 2 (by decide) k_18 (fun _ h9 => h9) rfl dX4_push_52 ?_
    refine lv_iconst (v := nI 1) hx hb dX4_push_55 (by decide) ?_
    refine xr_iadd_n hx hb dX4_push_56 ?_
    refine va_put (D := (dC, dI)) (ci := 4) (v := .int (nI (sz + 1))) (ty := .int) (C := RX4) (T := TX4) (N := 3) hx hb hts i_X4 tyX4 tyX4_ok nmX4 hown hK hP hD hS 0 rfl rfl 2 (by decide) k_18 (fun _ h9 => h9) rfl (by decide +kernel) rfl rfl (Nat.le_of_ble_eq_true rfl) dX4_push_57 (fun H locs hP hD hS => ?_)
    have hP : va_P (dC, dI) vwCl (([(hh, .inr (4, [.ref hs, .int (nI ol), .int (nI (sz + 1))])), (hs, .inl (cS, 4, .inr (.inr (.inr (.inr (xsa ad))))))] ++ stW cI cF cQ o T) ++ hiW cI cF cQ ad (xupS S ((ol + sz) % 4) T)) H := hP
    have hD : va_D A (([(hh, .inr (4, [.ref hs, .int (nI ol), .int (nI (sz + 1))])), (hs, .inl (cS, 4, .inr (.inr (.inr (.inr (xsa ad))))))] ++ stW cI cF cQ o T) ++ hiW cI cF cQ ad (xupS S ((ol + sz) % 4) T)) := hD
    have hP9 : va_P (dC, dI) vwCl (([(hh, .inr (4, [.ref hs, .int (nI (xol ol sz)), .int (nI (xsz sz))])), (hs, .inl (cS, 4, .inr (.inr (.inr (.inr (xsa ad))))))] ++ stW cI cF cQ o T) ++ hiW cI cF cQ ad (xupS S ((ol + sz) % 4) T)) H := by rw [show xol ol sz = ol from if_neg c_1, show xsz sz = sz + 1 from if_neg c_1]; exact hP
    have hS9 : va_S (va_B (([(hh, .inr (4, [.ref hs, .int (nI ol), .int (nI sz)])), (hs, .inl (cS, 4, .inr (.inr (.inr (.inr (xsa ad))))))] ++ stW cI cF cQ o T) ++ hiW cI cF cQ ad S)) s.heap H locs := by rw [← hA]; exact hS
    exact W.vret hx hb hr (fun t ht hW => ⟨⟨_, rfl, rfl, by rw [ht]; exact hP9⟩, hS9.X ht⟩) hS9.2.2 dX4_push_60
  refine lv_aload_n hx hb dX4_push_8 rfl (lv_at hl 0 rfl) ?_
  refine lv_aload_n hx hb dX4_push_9 rfl (lv_at hl 0 rfl) ?_
  refine va_get (D := (dC, dI)) (ci := 4) (v := .int (nI ol)) (C := RX4) (T := TX4) (N := 3) hx hb hts i_X4 hown hK hP 0 rfl rfl 1 (by decide) k_22 (fun _ h9 => h9) rfl dX4_push_10 ?_
  refine lv_iconst (v := nI 1) hx hb dX4_push_13 (by decide) ?_
  refine xr_iadd_n hx hb dX4_push_14 ?_
  refine lv_iconst (v := nI 4) hx hb dX4_push_15 (by decide) ?_
  refine lv_irem hx hb dX4_push_16 (by decide) ?_
  refine xr_top (nI_rem (by omega) (by omega) (by omega)) ?_
  refine va_put (D := (dC, dI)) (ci := 4) (v := .int (nI ((ol + 1) % 4))) (ty := .int) (C := RX4) (T := TX4) (N := 3) hx hb hts i_X4 tyX4 tyX4_ok nmX4 hown hK hP hD hS 0 rfl rfl 1 (by decide) k_22 (fun _ h9 => h9) rfl (by decide +kernel) rfl rfl (Nat.le_of_ble_eq_true rfl) dX4_push_17 (fun H locs hP hD hS => ?_)
  have hP : va_P (dC, dI) vwCl (([(hh, .inr (4, [.ref hs, .int (nI ((ol + 1) % 4)), .int (nI sz)])), (hs, .inl (cS, 4, .inr (.inr (.inr (.inr (xsa ad))))))] ++ stW cI cF cQ o T) ++ hiW cI cF cQ ad S) H := hP
  have hD : va_D A (([(hh, .inr (4, [.ref hs, .int (nI ((ol + 1) % 4)), .int (nI sz)])), (hs, .inl (cS, 4, .inr (.inr (.inr (.inr (xsa ad))))))] ++ stW cI cF cQ o T) ++ hiW cI cF cQ ad S) := hD
  refine lv_aload_n hx hb dX4_push_20 rfl (lv_at hl 0 rfl) ?_
  refine lv_dup hx hb dX4_push_21 rfl ?_
  refine va_get (D := (dC, dI)) (ci := 4) (v := .int (nI sz)) (C := RX4) (T := TX4) (N := 3) hx hb hts i_X4 hown hK hP 0 rfl rfl 2 (by decide) k_18 (fun _ h9 => h9) rfl dX4_push_22 ?_
  refine lv_iconst (v := nI 1) hx hb dX4_push_25 (by decide) ?_
  refine xr_isub_n hx hb (by omega) dX4_push_26 ?_
  refine va_put (D := (dC, dI)) (ci := 4) (v := .int (nI (sz - 1))) (ty := .int) (C := RX4) (T := TX4) (N := 3) hx hb hts i_X4 tyX4 tyX4_ok nmX4 hown hK hP hD hS 0 rfl rfl 2 (by decide) k_18 (fun _ h9 => h9) rfl (by decide +kernel) rfl rfl (Nat.le_of_ble_eq_true rfl) dX4_push_27 (fun H locs hP hD hS => ?_)
  have hP : va_P (dC, dI) vwCl (([(hh, .inr (4, [.ref hs, .int (nI ((ol + 1) % 4)), .int (nI (sz - 1))])), (hs, .inl (cS, 4, .inr (.inr (.inr (.inr (xsa ad))))))] ++ stW cI cF cQ o T) ++ hiW cI cF cQ ad S) H := hP
  have hD : va_D A (([(hh, .inr (4, [.ref hs, .int (nI ((ol + 1) % 4)), .int (nI (sz - 1))])), (hs, .inl (cS, 4, .inr (.inr (.inr (.inr (xsa ad))))))] ++ stW cI cF cQ o T) ++ hiW cI cF cQ ad S) := hD
  refine lv_aload_n hx hb dX4_push_30 rfl (lv_at hl 0 rfl) ?_
  refine va_get (D := (dC, dI)) (ci := 4) (v := .ref hs) (C := RX4) (T := TX4) (N := 3) hx hb hts i_X4 hown hK hP 0 rfl rfl 0 (by decide) k_11 (fun _ h9 => h9) rfl dX4_push_31 ?_
  refine lv_aload_n hx hb dX4_push_34 rfl (lv_at hl 0 rfl) ?_
  refine va_get (D := (dC, dI)) (ci := 4) (v := .int (nI ((ol + 1) % 4))) (C := RX4) (T := TX4) (N := 3) hx hb hts i_X4 hown hK hP 0 rfl rfl 1 (by decide) k_22 (fun _ h9 => h9) rfl dX4_push_35 ?_
  refine lv_aload_n hx hb dX4_push_38 rfl (lv_at hl 0 rfl) ?_
  refine va_get (D := (dC, dI)) (ci := 4) (v := .int (nI (sz - 1))) (C := RX4) (T := TX4) (N := 3) hx hb hts i_X4 hown hK hP 0 rfl rfl 2 (by decide) k_18 (fun _ h9 => h9) rfl dX4_push_39 ?_
  refine xr_iadd_n hx hb dX4_push_42 ?_
  refine lv_iconst (v := nI 4) hx hb dX4_push_43 (by decide) ?_
  refine lv_irem hx hb dX4_push_44 (by decide) ?_
  refine xr_top (nI_rem (by omega) (by omega) (by omega)) ?_
  refine xr_top (show nI ((((ol + 1) % 4) + (sz - 1)) % 4) = nI ((ol + sz) % 4) from by first | rfl | (congr 1; omega)) ?_
  have ht4 : ((ol + sz) % 4) < 4 := Nat.mod_lt _ (by decide)
  refine xr_aald hx hb hK hP 1 5 rfl rfl rfl (i := ((ol + sz) % 4)) (v := ad ((ol + sz) % 4) 0) (by omega) (by decide) rfl dX4_push_45 ?_
  refine lv_aload_n hx hb dX4_push_46 rfl (lv_at hl 1 rfl) ?_
  have hPF : va_P (dC, dI) vwCl ([(hh, .inr (4, [.ref hs, .int (nI ((ol + 1) % 4)), .int (nI (sz - 1))])), (hs, .inl (cS, 4, .inr (.inr (.inr (.inr (xsa ad))))))] ++ (stW cI cF cQ o T ++ hiW cI cF cQ ad S)) H := hP
  have hDF : va_D A ([(hh, .inr (4, [.ref hs, .int (nI ((ol + 1) % 4)), .int (nI (sz - 1))])), (hs, .inl (cS, 4, .inr (.inr (.inr (.inr (xsa ad))))))] ++ (stW cI cF cQ o T ++ hiW cI cF cQ ad S)) := hD
  have hPc := xpu_in ht4 hPF
  have hDc := xpu_inD ht4 hDF
  refine xkV3 (xVg (As := [.ref (o 0)]) (rest := []) (wc := stW cI cF cQ (ad ((ol + sz) % 4)) (S ((ol + sz) % 4)) ++ stW cI cF cQ o T) (W0 := stW cI cF cQ (ad ((ol + sz) % 4)) (S ((ol + sz) % 4)) ++ stW cI cF cQ o T) hx hb hml hown hts (c_copyW l dC dI cI cF cC cZ cQ cS (ad ((ol + sz) % 4)) o (S ((ol + sz) % 4)) T) 1 gX4_push_X8_copyFrom rfl rfl rfl hdV_X8_copyFrom ⟨Nat.le_of_ble_eq_true rfl, Nat.le_of_ble_eq_true rfl⟩ hN hK hPc hPc hDc 8 0 rfl rfl rfl hl.1 rfl (Nat.le_of_ble_eq_true rfl) dX4_push_47 ⟨Nat.zero_le _, Nat.zero_le _⟩) hS (xB_of hDc) (fun H locs hk9 hP1 hS => ?_)
  obtain ⟨hP, hD⟩ := xpu_out ht4 hPF hDF hk9 hP1
  have hP : va_P (dC, dI) vwCl (([(hh, .inr (4, [.ref hs, .int (nI ((ol + 1) % 4)), .int (nI (sz - 1))])), (hs, .inl (cS, 4, .inr (.inr (.inr (.inr (xsa ad))))))] ++ stW cI cF cQ o T) ++ hiW cI cF cQ ad (xupS S ((ol + sz) % 4) T)) H := hP
  have hD : va_D A (([(hh, .inr (4, [.ref hs, .int (nI ((ol + 1) % 4)), .int (nI (sz - 1))])), (hs, .inl (cS, 4, .inr (.inr (.inr (.inr (xsa ad))))))] ++ stW cI cF cQ o T) ++ hiW cI cF cQ ad (xupS S ((ol + sz) % 4) T)) := hD
  refine lv_aload_n hx hb dX4_push_50 rfl (lv_at hl 0 rfl) ?_
  refine lv_dup hx hb dX4_push_51 rfl ?_
  refine va_get (D := (dC, dI)) (ci := 4) (v := .int (nI (sz - 1))) (C := RX4) (T := TX4) (N := 3) hx hb hts i_X4 hown hK hP 0 rfl rfl 2 (by decide) k_18 (fun _ h9 => h9) rfl dX4_push_52 ?_
  refine lv_iconst (v := nI 1) hx hb dX4_push_55 (by decide) ?_
  refine xr_iadd_n hx hb dX4_push_56 ?_
  refine va_put (D := (dC, dI)) (ci := 4) (v := .int (nI ((sz - 1) + 1))) (ty := .int) (C := RX4) (T := TX4) (N := 3) hx hb hts i_X4 tyX4 tyX4_ok nmX4 hown hK hP hD hS 0 rfl rfl 2 (by decide) k_18 (fun _ h9 => h9) rfl (by decide +kernel) rfl rfl (Nat.le_of_ble_eq_true rfl) dX4_push_57 (fun H locs hP hD hS => ?_)
  have hP : va_P (dC, dI) vwCl (([(hh, .inr (4, [.ref hs, .int (nI ((ol + 1) % 4)), .int (nI ((sz - 1) + 1))])), (hs, .inl (cS, 4, .inr (.inr (.inr (.inr (xsa ad))))))] ++ stW cI cF cQ o T) ++ hiW cI cF cQ ad (xupS S ((ol + sz) % 4) T)) H := hP
  have hD : va_D A (([(hh, .inr (4, [.ref hs, .int (nI ((ol + 1) % 4)), .int (nI ((sz - 1) + 1))])), (hs, .inl (cS, 4, .inr (.inr (.inr (.inr (xsa ad))))))] ++ stW cI cF cQ o T) ++ hiW cI cF cQ ad (xupS S ((ol + sz) % 4) T)) := hD
  rw [show (sz - 1) + 1 = 4 from by omega] at hP
  have hP9 : va_P (dC, dI) vwCl (([(hh, .inr (4, [.ref hs, .int (nI (xol ol sz)), .int (nI (xsz sz))])), (hs, .inl (cS, 4, .inr (.inr (.inr (.inr (xsa ad))))))] ++ stW cI cF cQ o T) ++ hiW cI cF cQ ad (xupS S ((ol + sz) % 4) T)) H := by rw [show xol ol sz = (ol + 1) % 4 from if_pos c_1, show xsz sz = 4 from if_pos c_1]; exact hP
  have hS9 : va_S (va_B (([(hh, .inr (4, [.ref hs, .int (nI ol), .int (nI sz)])), (hs, .inl (cS, 4, .inr (.inr (.inr (.inr (xsa ad))))))] ++ stW cI cF cQ o T) ++ hiW cI cF cQ ad S)) s.heap H locs := by rw [← hA]; exact hS
  exact W.vret hx hb hr (fun t ht hW => ⟨⟨_, rfl, rfl, by rw [ht]; exact hP9⟩, hS9.X ht⟩) hS9.2.2 dX4_push_60
theorem hdV_X4_popInto : yX4_popInto.cls = RX4 ∧ yX4_popInto.cls ≠ "java/lang/invoke/MethodHandle" ∧ yX4_popInto.cls ≠ "java/lang/invoke/VarHandle" ∧ (parseMethodDescriptor yX4_popInto.desc).map (fun d => d.parameters.length) = some 1 := by decide +kernel
set_option maxHeartbeats 4000000 in
set_option maxRecDepth 100000 in
theorem c_X4_popInto (l : Launch) (dC : Nat → ClassId) (dI : Nat → Nat → Nat) (cI cF cC cZ cQ cS : ClassId) (hh : Nat) (hs : Nat) (ad : Nat → Nat → Nat) (ol : Nat) (sz : Nat) (o : Nat → Nat) (S : Nat → Nat → Nat → Int32) (T : Nat → Nat → Int32) (hol : ol < 4) (hsz : 0 < sz ∧ sz ≤ 4) : Met l yX4_popInto wsX4_popInto ({ frames := 4, cells := 0, slots := 0, locals := 104 }) (xPre (dC, dI) vwCl [.ref hh, .ref (o 0)] (xtys cI cF cC cZ cQ cS) (([(hh, .inr (4, [.ref hs, .int (nI ol), .int (nI sz)])), (hs, .inl (cS, 4, .inr (.inr (.inr (.inr (xsa ad))))))] ++ stW cI cF cQ o T) ++ hiW cI cF cQ ad S)) (xWv (dC, dI) vwCl (([(hh, .inr (4, [.ref hs, .int (nI ol), .int (nI sz)])), (hs, .inl (cS, 4, .inr (.inr (.inr (.inr (xsa ad))))))] ++ stW cI cF cQ o T) ++ hiW cI cF cQ ad S) (fun w0 => w0 = (([(hh, .inr (4, [.ref hs, .int (nI ol), .int (nI (sz - 1))])), (hs, .inl (cS, 4, .inr (.inr (.inr (.inr (xsa ad))))))] ++ stW cI cF cQ o (S ((ol + (sz - 1)) % 4))) ++ hiW cI cF cQ ad S))) 0 0 (va_B (([(hh, .inr (4, [.ref hs, .int (nI ol), .int (nI sz)])), (hs, .inl (cS, 4, .inr (.inr (.inr (.inr (xsa ad))))))] ++ stW cI cF cQ o T) ++ hiW cI cF cQ ad S)) := by
  refine Met.ofW (cc := cX4_popInto) (maxL := 2) (ret := none) (by decide) rfl ?_
  intro p e s m args below meth c s₁ B hml hv
  obtain ⟨rfl, hP, hK, hD0, hN⟩ := hv
  have hx := B.exec
  have hb := B.bytes
  have hr := B.returns
  have hts := atoms_spec (ws := wsX4_popInto) B.pre
  have hown : s.vm.findClass RX4 = some m.cls := findClass_of_methodNamed B.named
  have hlocks := B.notSynchronized
  have k_11 := hts (Cond.fieldLink RX4 11 "ShelfStages$History" "states" "[LShelfStages$State;") (by decide +kernel)
  have k_18 := hts (Cond.fieldLink RX4 18 "ShelfStages$History" "size" "I") (by decide +kernel)
  have k_22 := hts (Cond.fieldLink RX4 22 "ShelfStages$History" "oldest" "I") (by decide +kernel)
  have i_X4 : ∀ w ∈ wsX40, w ∈ wsX4_popInto := by decide +kernel
  obtain ⟨A, hA⟩ : ∃ A, A = va_B (([(hh, .inr (4, [.ref hs, .int (nI ol), .int (nI sz)])), (hs, .inl (cS, 4, .inr (.inr (.inr (.inr (xsa ad))))))] ++ stW cI cF cQ o T) ++ hiW cI cF cQ ad S) := ⟨_, rfl⟩
  have hD : va_D A (([(hh, .inr (4, [.ref hs, .int (nI ol), .int (nI sz)])), (hs, .inl (cS, 4, .inr (.inr (.inr (.inr (xsa ad))))))] ++ stW cI cF cQ o T) ++ hiW cI cF cQ ad S) := hA ▸ hD0.own
  have hS : va_S A s.heap s.heap [] := va_S.rf
  have hl := lv_entry ([.ref hh, .ref (o 0)]) (n := 2) (Nat.le_of_ble_eq_true rfl)
  rw [lg_entry_eq]
  generalize (lg_sl ([.ref hh, .ref (o 0)]) ++ List.replicate (2 - (lg_sl ([.ref hh, .ref (o 0)])).length) Slot.unset).toArray = ls at hl ⊢
  have hl : lv_has ls 2 [(0, .ref hh), (1, .ref (o 0))] := hl
  refine lv_aload_n hx hb dX4_popInto_0 rfl (lv_at hl 0 rfl) ?_
  refine lv_dup hx hb dX4_popInto_1 rfl ?_
  refine va_get (D := (dC, dI)) (ci := 4) (v := .int (nI sz)) (C := RX4) (T := TX4) (N := 3) hx hb hts i_X4 hown hK hP 0 rfl rfl 2 (by decide) k_18 (fun _ h9 => h9) rfl dX4_popInto_2 ?_
  refine lv_iconst (v := nI 1) hx hb dX4_popInto_5 (by decide) ?_
  refine xr_isub_n hx hb (by omega) dX4_popInto_6 ?_
  refine va_put (D := (dC, dI)) (ci := 4) (v := .int (nI (sz - 1))) (ty := .int) (C := RX4) (T := TX4) (N := 3) hx hb hts i_X4 tyX4 tyX4_ok nmX4 hown hK hP hD hS 0 rfl rfl 2 (by decide) k_18 (fun _ h9 => h9) rfl (by decide +kernel) rfl rfl (Nat.le_of_ble_eq_true rfl) dX4_popInto_7 (fun H locs hP hD hS => ?_)
  have hP : va_P (dC, dI) vwCl (([(hh, .inr (4, [.ref hs, .int (nI ol), .int (nI (sz - 1))])), (hs, .inl (cS, 4, .inr (.inr (.inr (.inr (xsa ad))))))] ++ stW cI cF cQ o T) ++ hiW cI cF cQ ad S) H := hP
  have hD : va_D A (([(hh, .inr (4, [.ref hs, .int (nI ol), .int (nI (sz - 1))])), (hs, .inl (cS, 4, .inr (.inr (.inr (.inr (xsa ad))))))] ++ stW cI cF cQ o T) ++ hiW cI cF cQ ad S) := hD
  refine lv_aload_n hx hb dX4_popInto_10 rfl (lv_at hl 1 rfl) ?_
  refine lv_aload_n hx hb dX4_popInto_11 rfl (lv_at hl 0 rfl) ?_
  refine va_get (D := (dC, dI)) (ci := 4) (v := .ref hs) (C := RX4) (T := TX4) (N := 3) hx hb hts i_X4 hown hK hP 0 rfl rfl 0 (by decide) k_11 (fun _ h9 => h9) rfl dX4_popInto_12 ?_
  refine lv_aload_n hx hb dX4_popInto_15 rfl (lv_at hl 0 rfl) ?_
  refine va_get (D := (dC, dI)) (ci := 4) (v := .int (nI ol)) (C := RX4) (T := TX4) (N := 3) hx hb hts i_X4 hown hK hP 0 rfl rfl 1 (by decide) k_22 (fun _ h9 => h9) rfl dX4_popInto_16 ?_
  refine lv_aload_n hx hb dX4_popInto_19 rfl (lv_at hl 0 rfl) ?_
  refine va_get (D := (dC, dI)) (ci := 4) (v := .int (nI (sz - 1))) (C := RX4) (T := TX4) (N := 3) hx hb hts i_X4 hown hK hP 0 rfl rfl 2 (by decide) k_18 (fun _ h9 => h9) rfl dX4_popInto_20 ?_
  refine xr_iadd_n hx hb dX4_popInto_23 ?_
  refine lv_iconst (v := nI 4) hx hb dX4_popInto_24 (by decide) ?_
  refine lv_irem hx hb dX4_popInto_25 (by decide) ?_
  refine xr_top (nI_rem (by omega) (by omega) (by omega)) ?_
  refine xr_top (show nI ((ol + (sz - 1)) % 4) = nI ((ol + (sz - 1)) % 4) from by first | rfl | (congr 1; omega)) ?_
  have ht4 : ((ol + (sz - 1)) % 4) < 4 := Nat.mod_lt _ (by decide)
  refine xr_aald hx hb hK hP 1 5 rfl rfl rfl (i := ((ol + (sz - 1)) % 4)) (v := ad ((ol + (sz - 1)) % 4) 0) (by omega) (by decide) rfl dX4_popInto_26 ?_
  have hPF : va_P (dC, dI) vwCl ([(hh, .inr (4, [.ref hs, .int (nI ol), .int (nI (sz - 1))])), (hs, .inl (cS, 4, .inr (.inr (.inr (.inr (xsa ad))))))] ++ (stW cI cF cQ o T ++ hiW cI cF cQ ad S)) H := hP
  have hDF : va_D A ([(hh, .inr (4, [.ref hs, .int (nI ol), .int (nI (sz - 1))])), (hs, .inl (cS, 4, .inr (.inr (.inr (.inr (xsa ad))))))] ++ (stW cI cF cQ o T ++ hiW cI cF cQ ad S)) := hD
  have hPc := xpo_in ht4 hPF
  have hDc := xpo_inD ht4 hDF
  refine xkV3 (xVg (As := [.ref ((ad ((ol + (sz - 1)) % 4)) 0)]) (rest := []) (wc := stW cI cF cQ o T ++ stW cI cF cQ (ad ((ol + (sz - 1)) % 4)) (S ((ol + (sz - 1)) % 4))) (W0 := stW cI cF cQ o T ++ stW cI cF cQ (ad ((ol + (sz - 1)) % 4)) (S ((ol + (sz - 1)) % 4))) hx hb hml hown hts (c_copyW l dC dI cI cF cC cZ cQ cS o (ad ((ol + (sz - 1)) % 4)) T (S ((ol + (sz - 1)) % 4))) 1 gX4_popInto_X8_copyFrom rfl rfl rfl hdV_X8_copyFrom ⟨Nat.le_of_ble_eq_true rfl, Nat.le_of_ble_eq_true rfl⟩ hN hK hPc hPc hDc 8 0 rfl rfl rfl hl.1 rfl (Nat.le_of_ble_eq_true rfl) dX4_popInto_27 ⟨Nat.zero_le _, Nat.zero_le _⟩) hS (xB_of hDc) (fun H locs hk9 hP1 hS => ?_)
  obtain ⟨hP, hD⟩ := xpo_out ht4 hPF hDF hk9 hP1
  have hP : va_P (dC, dI) vwCl (([(hh, .inr (4, [.ref hs, .int (nI ol), .int (nI (sz - 1))])), (hs, .inl (cS, 4, .inr (.inr (.inr (.inr (xsa ad))))))] ++ stW cI cF cQ o (S ((ol + (sz - 1)) % 4))) ++ hiW cI cF cQ ad S) H := hP
  have hD : va_D A (([(hh, .inr (4, [.ref hs, .int (nI ol), .int (nI (sz - 1))])), (hs, .inl (cS, 4, .inr (.inr (.inr (.inr (xsa ad))))))] ++ stW cI cF cQ o (S ((ol + (sz - 1)) % 4))) ++ hiW cI cF cQ ad S) := hD
  have hP9 : va_P (dC, dI) vwCl (([(hh, .inr (4, [.ref hs, .int (nI ol), .int (nI (sz - 1))])), (hs, .inl (cS, 4, .inr (.inr (.inr (.inr (xsa ad))))))] ++ stW cI cF cQ o (S ((ol + (sz - 1)) % 4))) ++ hiW cI cF cQ ad S) H := hP
  have hS9 : va_S (va_B (([(hh, .inr (4, [.ref hs, .int (nI ol), .int (nI sz)])), (hs, .inl (cS, 4, .inr (.inr (.inr (.inr (xsa ad))))))] ++ stW cI cF cQ o T) ++ hiW cI cF cQ ad S)) s.heap H locs := by rw [← hA]; exact hS
  exact W.vret hx hb hr (fun t ht hW => ⟨⟨_, rfl, rfl, by rw [ht]; exact hP9⟩, hS9.X ht⟩) hS9.2.2 dX4_popInto_30
