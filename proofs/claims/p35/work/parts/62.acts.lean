set_option maxHeartbeats 4000000 in
set_option maxRecDepth 100000 in
theorem c_X9_addGoods (l : Launch) (dC : Nat → ClassId) (dI : Nat → Nat → Nat) (cI cF cC cZ cQ cS : ClassId) (x0 : Nat) (o : Nat → Nat) (x0_snapshot : Value) (x0_trial : Value) (hh : Nat) (x0_filling : Value) (x0_delivery : Value) (x0_text : Value) (x0_textLength : Value) (x0_hasSnapshot : Value) (hs : Nat) (ad : Nat → Nat → Nat) (ol : Nat) (sz : Nat) (S : Nat → Nat → Nat → Int32) (T : Nat → Nat → Int32) (gz : Nat) (price : Int32) (life : Int32) (hol : ol < 4) (hsz : sz ≤ 4) (hT0 : T 0 0 = nI gz) (hgz : gz < 12) (hpr : nI 1 ≤ price ∧ price ≤ nI 9999) (hli : nI 1 ≤ life ∧ life ≤ nI 60) : Met l yX9_addGood wsX9_addGood ({ frames := 5, cells := 0, slots := 0, locals := 125 }) (xPre (dC, dI) vwCl [.ref x0, .int price, .int life] (xtys cI cF cC cZ cQ cS) (([(x0, .inr (9, [.ref (o 0), x0_snapshot, x0_trial, .ref hh, x0_filling, x0_delivery, x0_text, x0_textLength, x0_hasSnapshot])), (hh, .inr (4, [.ref hs, .int (nI ol), .int (nI sz)])), (hs, .inl (cS, 4, .inr (.inr (.inr (.inr (xsa ad))))))] ++ stW cI cF cQ o T) ++ hiW cI cF cQ ad S)) (xWi (dC, dI) vwCl (([(x0, .inr (9, [.ref (o 0), x0_snapshot, x0_trial, .ref hh, x0_filling, x0_delivery, x0_text, x0_textLength, x0_hasSnapshot])), (hh, .inr (4, [.ref hs, .int (nI ol), .int (nI sz)])), (hs, .inl (cS, 4, .inr (.inr (.inr (.inr (xsa ad))))))] ++ stW cI cF cQ o T) ++ hiW cI cF cQ ad S) (fun r0 w0 => r0 = nI gz ∧ w0 = (([(x0, .inr (9, [.ref (o 0), x0_snapshot, x0_trial, .ref hh, x0_filling, x0_delivery, x0_text, x0_textLength, x0_hasSnapshot])), (hh, .inr (4, [.ref hs, .int (nI (xol ol sz)), .int (nI (xsz sz))])), (hs, .inl (cS, 4, .inr (.inr (.inr (.inr (xsa ad))))))] ++ stW cI cF cQ o (xT (xT (xT T 0 (fun _ => nI (gz + 1))) 1 (upd (T 1) gz price)) 2 (upd (T 2) gz life))) ++ hiW cI cF cQ ad (xupS S ((ol + sz) % 4) T)))) 0 0 (va_B (([(x0, .inr (9, [.ref (o 0), x0_snapshot, x0_trial, .ref hh, x0_filling, x0_delivery, x0_text, x0_textLength, x0_hasSnapshot])), (hh, .inr (4, [.ref hs, .int (nI ol), .int (nI sz)])), (hs, .inl (cS, 4, .inr (.inr (.inr (.inr (xsa ad))))))] ++ stW cI cF cQ o T) ++ hiW cI cF cQ ad S)) := by
  refine Met.ofW (cc := cX9_addGood) (maxL := 3) (ret := (some .int)) (by decide) rfl ?_
  intro p e s m args below meth c s₁ B hml hv
  obtain ⟨rfl, hP, hK, hD0, hN⟩ := hv
  have hx := B.exec
  have hb := B.bytes
  have hr := B.returns
  have hts := atoms_spec (ws := wsX9_addGood) B.pre
  have hown : s.vm.findClass RX9 = some m.cls := findClass_of_methodNamed B.named
  have hlocks := B.notSynchronized
  have k_12 := hts (Cond.fieldLink RX9 12 "ShelfStages" "now" "LShelfStages$State;") (by decide +kernel)
  have k_25 := hts (Cond.fieldLink RX9 25 "ShelfStages" "history" "LShelfStages$History;") (by decide +kernel)
  have k_51 := hts (Cond.fieldLink RX9 51 "ShelfStages$State" "goods" "LShelfStages$Goods;") (by decide +kernel)
  have k_55 := hts (Cond.fieldLink RX9 55 "ShelfStages$Goods" "size" "I") (by decide +kernel)
  have i_X3 : ∀ w ∈ wsX30, w ∈ wsX9_addGood := by decide +kernel
  have i_X8 : ∀ w ∈ wsX80, w ∈ wsX9_addGood := by decide +kernel
  have i_X9 : ∀ w ∈ wsX90, w ∈ wsX9_addGood := by decide +kernel
  obtain ⟨A, hA⟩ : ∃ A, A = va_B (([(x0, .inr (9, [.ref (o 0), x0_snapshot, x0_trial, .ref hh, x0_filling, x0_delivery, x0_text, x0_textLength, x0_hasSnapshot])), (hh, .inr (4, [.ref hs, .int (nI ol), .int (nI sz)])), (hs, .inl (cS, 4, .inr (.inr (.inr (.inr (xsa ad))))))] ++ stW cI cF cQ o T) ++ hiW cI cF cQ ad S) := ⟨_, rfl⟩
  have hD : va_D A (([(x0, .inr (9, [.ref (o 0), x0_snapshot, x0_trial, .ref hh, x0_filling, x0_delivery, x0_text, x0_textLength, x0_hasSnapshot])), (hh, .inr (4, [.ref hs, .int (nI ol), .int (nI sz)])), (hs, .inl (cS, 4, .inr (.inr (.inr (.inr (xsa ad))))))] ++ stW cI cF cQ o T) ++ hiW cI cF cQ ad S) := hA ▸ hD0.own
  have hS : va_S A s.heap s.heap [] := va_S.rf
  have hl := lv_entry ([.ref x0, .int price, .int life]) (n := 3) (Nat.le_of_ble_eq_true rfl)
  rw [lg_entry_eq]
  generalize (lg_sl ([.ref x0, .int price, .int life]) ++ List.replicate (3 - (lg_sl ([.ref x0, .int price, .int life])).length) Slot.unset).toArray = ls at hl ⊢
  have hl : lv_has ls 3 [(0, .ref x0), (1, .int price), (2, .int life)] := hl
  have hTT : stW cI cF cQ o T = stW cI cF cQ o (xT T 0 (fun _ => nI gz)) := (xsc0 hT0)
  rw [hTT] at hP hD
  refine lv_iload_n hx hb dX9_addGood_0 rfl (lv_at hl 1 rfl) ?_
  refine lv_iconst (v := nI 1) hx hb dX9_addGood_1 (by decide) ?_
  refine lv_sipush (v := nI 9999) hx hb dX9_addGood_2 (by decide) ?_
  refine xkRi (xSs (Ws' := ([] : List Cond)) (As := [.int price, .int (nI 1), .int (nI 9999)]) (rest := []) (wc := []) hx hb hml hown hts (c_X9_within l dC dI cI cF cC cZ cQ cS price (nI 1) (nI 9999)) 3 (fun hR => va_cwS 3 hts gX9_addGood_X9_within rfl rfl rfl hdN_X9_within hR) ⟨Nat.le_of_ble_eq_true rfl, Nat.le_of_ble_eq_true rfl⟩ hN hK hP hD [] rfl rfl rfl hl.1 rfl (Nat.le_of_ble_eq_true rfl) dX9_addGood_5 ⟨Nat.zero_le _, Nat.zero_le _⟩) (fun r_1 hr_1 => ?_)
  have hr_1 : r_1 = (if (nI 1) ≤ price ∧ price ≤ (nI 9999) then nI 1 else nI 0) := hr_1
  obtain rfl : r_1 = nI 1 := hr_1.trans (if_pos hpr)
  refine xr_if1 (tgt := 21) hx hb (by decide) dX9_addGood_8 (by decide) ?_
  refine lv_iload_n hx hb dX9_addGood_11 rfl (lv_at hl 2 rfl) ?_
  refine lv_iconst (v := nI 1) hx hb dX9_addGood_12 (by decide) ?_
  refine lv_bipush (v := nI 60) hx hb dX9_addGood_13 (by decide) ?_
  refine xkRi (xSs (Ws' := ([] : List Cond)) (As := [.int life, .int (nI 1), .int (nI 60)]) (rest := []) (wc := []) hx hb hml hown hts (c_X9_within l dC dI cI cF cC cZ cQ cS life (nI 1) (nI 60)) 3 (fun hR => va_cwS 3 hts gX9_addGood_X9_within rfl rfl rfl hdN_X9_within hR) ⟨Nat.le_of_ble_eq_true rfl, Nat.le_of_ble_eq_true rfl⟩ hN hK hP hD [] rfl rfl rfl hl.1 rfl (Nat.le_of_ble_eq_true rfl) dX9_addGood_15 ⟨Nat.zero_le _, Nat.zero_le _⟩) (fun r_2 hr_2 => ?_)
  have hr_2 : r_2 = (if (nI 1) ≤ life ∧ life ≤ (nI 60) then nI 1 else nI 0) := hr_2
  obtain rfl : r_2 = nI 1 := hr_2.trans (if_pos hli)
  refine xr_ifn1 (tgt := 24) hx hb (by decide) dX9_addGood_18 (by decide) ?_
  refine lv_aload_n hx hb dX9_addGood_24 rfl (lv_at hl 0 rfl) ?_
  refine va_get (D := (dC, dI)) (ci := 9) (v := .ref (o 0)) (C := RX9) (T := TX9) (N := 9) hx hb hts i_X9 hown hK hP 0 rfl rfl 0 (by decide) k_12 (fun _ h9 => h9) rfl dX9_addGood_25 ?_
  refine va_get (D := (dC, dI)) (ci := 8) (v := .ref (o 1)) (C := RX8) (T := TX8) (N := 8) hx hb hts i_X8 hown hK hP 3 rfl rfl 0 (by decide) k_51 (fun _ h9 => h9) rfl dX9_addGood_28 ?_
  refine va_get (D := (dC, dI)) (ci := 3) (v := .int (nI gz)) (C := RX3) (T := TX3) (N := 5) hx hb hts i_X3 hown hK hP 4 rfl rfl 0 (by decide) k_55 (fun _ h9 => h9) rfl dX9_addGood_31 ?_
  refine lv_bipush (v := nI 12) hx hb dX9_addGood_34 (by decide) ?_
  refine xr_lt_n (tgt := 42) hx hb (by omega) (by omega) dX9_addGood_36 (by decide) (fun c_3 => ?_) (fun c_3 => False.elim (by omega))
  refine lv_aload_n hx hb dX9_addGood_42 rfl (lv_at hl 0 rfl) ?_
  refine va_get (D := (dC, dI)) (ci := 9) (v := .ref hh) (C := RX9) (T := TX9) (N := 9) hx hb hts i_X9 hown hK hP 0 rfl rfl 3 (by decide) k_25 (fun _ h9 => h9) rfl dX9_addGood_43 ?_
  refine lv_aload_n hx hb dX9_addGood_46 rfl (lv_at hl 0 rfl) ?_
  refine va_get (D := (dC, dI)) (ci := 9) (v := .ref (o 0)) (C := RX9) (T := TX9) (N := 9) hx hb hts i_X9 hown hK hP 0 rfl rfl 0 (by decide) k_12 (fun _ h9 => h9) rfl dX9_addGood_47 ?_
  have hPF : va_P (dC, dI) vwCl ([(x0, .inr (9, [.ref (o 0), x0_snapshot, x0_trial, .ref hh, x0_filling, x0_delivery, x0_text, x0_textLength, x0_hasSnapshot]))] ++ (([(hh, .inr (4, [.ref hs, .int (nI ol), .int (nI sz)])), (hs, .inl (cS, 4, .inr (.inr (.inr (.inr (xsa ad))))))] ++ stW cI cF cQ o T) ++ hiW cI cF cQ ad S)) s.heap := by rw [hTT]; exact hP
  have hDF : va_D A ([(x0, .inr (9, [.ref (o 0), x0_snapshot, x0_trial, .ref hh, x0_filling, x0_delivery, x0_text, x0_textLength, x0_hasSnapshot]))] ++ (([(hh, .inr (4, [.ref hs, .int (nI ol), .int (nI sz)])), (hs, .inl (cS, 4, .inr (.inr (.inr (.inr (xsa ad))))))] ++ stW cI cF cQ o T) ++ hiW cI cF cQ ad S)) := by rw [hTT]; exact hD
  have hPc := xP_r hPF
  have hDc := xD_r hDF
  refine xkV3 (xVg (As := [.ref (o 0)]) (rest := []) (W0 := (([(hh, .inr (4, [.ref hs, .int (nI ol), .int (nI sz)])), (hs, .inl (cS, 4, .inr (.inr (.inr (.inr (xsa ad))))))] ++ stW cI cF cQ o T) ++ hiW cI cF cQ ad S)) hx hb hml hown hts (c_X4_push l dC dI cI cF cC cZ cQ cS hh hs ad ol sz o S T hol hsz) 1 gX9_addGood_X4_push rfl rfl rfl hdV_X4_push ⟨Nat.le_of_ble_eq_true rfl, Nat.le_of_ble_eq_true rfl⟩ hN hK hPc hPc hDc 4 0 rfl rfl rfl hl.1 rfl (Nat.le_of_ble_eq_true rfl) dX9_addGood_50 ⟨Nat.zero_le _, Nat.zero_le _⟩) hS (xB_of hDc) (fun H locs hk9 hP1 hS => ?_)
  obtain ⟨hP, hD⟩ := xback hPF hDF (by exact xh_adr rfl) hk9 hP1
  obtain ⟨S1, hS1⟩ : ∃ x, x = xupS S ((ol + sz) % 4) T := ⟨_, rfl⟩
  rw [← hS1, hTT] at hP hD
  have hP : va_P (dC, dI) vwCl (([(x0, .inr (9, [.ref (o 0), x0_snapshot, x0_trial, .ref hh, x0_filling, x0_delivery, x0_text, x0_textLength, x0_hasSnapshot])), (hh, .inr (4, [.ref hs, .int (nI (xol ol sz)), .int (nI (xsz sz))])), (hs, .inl (cS, 4, .inr (.inr (.inr (.inr (xsa ad))))))] ++ stW cI cF cQ o (xT T 0 (fun _ => nI gz))) ++ hiW cI cF cQ ad S1) H := hP
  have hD : va_D A (([(x0, .inr (9, [.ref (o 0), x0_snapshot, x0_trial, .ref hh, x0_filling, x0_delivery, x0_text, x0_textLength, x0_hasSnapshot])), (hh, .inr (4, [.ref hs, .int (nI (xol ol sz)), .int (nI (xsz sz))])), (hs, .inl (cS, 4, .inr (.inr (.inr (.inr (xsa ad))))))] ++ stW cI cF cQ o (xT T 0 (fun _ => nI gz))) ++ hiW cI cF cQ ad S1) := hD
  refine lv_aload_n hx hb dX9_addGood_53 rfl (lv_at hl 0 rfl) ?_
  refine va_get (D := (dC, dI)) (ci := 9) (v := .ref (o 0)) (C := RX9) (T := TX9) (N := 9) hx hb hts i_X9 hown hK hP 0 rfl rfl 0 (by decide) k_12 (fun _ h9 => h9) rfl dX9_addGood_54 ?_
  refine va_get (D := (dC, dI)) (ci := 8) (v := .ref (o 1)) (C := RX8) (T := TX8) (N := 8) hx hb hts i_X8 hown hK hP 3 rfl rfl 0 (by decide) k_51 (fun _ h9 => h9) rfl dX9_addGood_57 ?_
  refine lv_iload_n hx hb dX9_addGood_60 rfl (lv_at hl 1 rfl) ?_
  refine lv_iload_n hx hb dX9_addGood_61 rfl (lv_at hl 2 rfl) ?_
  refine xkI2t (xV (As := [.int price, .int life]) (rest := []) (wc := [(o 1, .inr (3, [.int (nI gz), .ref (o 2), .ref (o 3), .ref (o 4), .ref (o 5)])), (o 2, .inl (cI, 12, .inl (T 1))), (o 3, .inl (cI, 12, .inl (T 2)))]) hx hb hml hown hts (c_X3_append l dC dI cI cF cC cZ cQ cS (o 1) (o 2) (o 3) (.ref (o 4)) (.ref (o 5)) (T 1) (T 2) gz price life (by omega)) 2 gX9_addGood_X3_append rfl rfl rfl hdV_X3_append ⟨Nat.le_of_ble_eq_true rfl, Nat.le_of_ble_eq_true rfl⟩ hN hK hP hD [4, 5, 6] rfl rfl 3 4 rfl rfl rfl hl.1 rfl (Nat.le_of_ble_eq_true rfl) dX9_addGood_62 ⟨Nat.zero_le _, Nat.zero_le _⟩) hP hD hS [4, 5, 6] [0, 1, 2, 3, 4, 5, 6, 7, 8, 9, 10, 11, 12, 13, 14, 15, 16, 17, 18, 19, 20, 21, 22, 23, 24, 25, 26, 27, 28, 29, 30, 31, 32, 33, 34, 35, 36, 37, 38, 39, 40, 41, 42] rfl rfl 43 rfl (by decide +kernel) (fun H locs hP hD hS => ?_)
  have hP : va_P (dC, dI) vwCl (([(x0, .inr (9, [.ref (o 0), x0_snapshot, x0_trial, .ref hh, x0_filling, x0_delivery, x0_text, x0_textLength, x0_hasSnapshot])), (hh, .inr (4, [.ref hs, .int (nI (xol ol sz)), .int (nI (xsz sz))])), (hs, .inl (cS, 4, .inr (.inr (.inr (.inr (xsa ad))))))] ++ stW cI cF cQ o (xT (xT (xT T 0 (fun _ => nI (gz + 1))) 1 (upd (T 1) gz price)) 2 (upd (T 2) gz life))) ++ hiW cI cF cQ ad S1) H := hP
  have hD : va_D A (([(x0, .inr (9, [.ref (o 0), x0_snapshot, x0_trial, .ref hh, x0_filling, x0_delivery, x0_text, x0_textLength, x0_hasSnapshot])), (hh, .inr (4, [.ref hs, .int (nI (xol ol sz)), .int (nI (xsz sz))])), (hs, .inl (cS, 4, .inr (.inr (.inr (.inr (xsa ad))))))] ++ stW cI cF cQ o (xT (xT (xT T 0 (fun _ => nI (gz + 1))) 1 (upd (T 1) gz price)) 2 (upd (T 2) gz life))) ++ hiW cI cF cQ ad S1) := hD
  subst hS1
  have hP9 : va_P (dC, dI) vwCl (([(x0, .inr (9, [.ref (o 0), x0_snapshot, x0_trial, .ref hh, x0_filling, x0_delivery, x0_text, x0_textLength, x0_hasSnapshot])), (hh, .inr (4, [.ref hs, .int (nI (xol ol sz)), .int (nI (xsz sz))])), (hs, .inl (cS, 4, .inr (.inr (.inr (.inr (xsa ad))))))] ++ stW cI cF cQ o (xT (xT (xT T 0 (fun _ => nI (gz + 1))) 1 (upd (T 1) gz price)) 2 (upd (T 2) gz life))) ++ hiW cI cF cQ ad (xupS S ((ol + sz) % 4) T)) H := hP
  have hS9 : va_S (va_B (([(x0, .inr (9, [.ref (o 0), x0_snapshot, x0_trial, .ref hh, x0_filling, x0_delivery, x0_text, x0_textLength, x0_hasSnapshot])), (hh, .inr (4, [.ref hs, .int (nI ol), .int (nI sz)])), (hs, .inl (cS, 4, .inr (.inr (.inr (.inr (xsa ad))))))] ++ stW cI cF cQ o T) ++ hiW cI cF cQ ad S)) s.heap H locs := by rw [← hA]; exact hS
  exact W.iret (v := nI gz) hx hb hr (fun t ht hW => ⟨⟨_, _, rfl, ⟨(show nI gz = nI gz from rfl), rfl⟩, by rw [ht]; exact hP9⟩, hS9.X ht⟩) hS9.2.2 dX9_addGood_65
