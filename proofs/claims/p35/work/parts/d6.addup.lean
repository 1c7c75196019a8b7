/-! The law's check that all adds up. -/
section ADDS
variable {n bz oz tk lz nx dy : Nat} {T : Nat → Nat → Int32}
theorem Iv.waste (h : Iv n bz oz tk lz nx dy T) : xsum (T 13) bz + xsum (T 14) bz + xsum (T 15) bz = xsum (fun b => T 13 b + T 14 b + T 15 b) bz := by
  rw [zs_add (fun b => T 13 b + T 14 b) (T 15), zs_add]
theorem Iv.cents (h : Iv n bz oz tk lz nx dy T) : ¬ xsum (T 12) bz < xsum (T 25) oz := by
  have hn := h.n1
  obtain ⟨X, C, D, ⟨h0, h1, h2⟩, h3, h4, h5, h6⟩ := h.2.2.2.2.2.2.2
  rw [h5, h6]
  exact nI_nlt h2 (by omega)
theorem Iv.bystages (h : Iv n bz oz tk lz nx dy T) : xsum (fun s => xsumP (fun b => decide (¬ T 9 b ≤ 0 ∧ xstg (T 30) (T 8) (T 2) (T 6) b = s)) (T 9) bz) 4 = xsum (T 9) bz := zs_stages (fun b => xstg_lt _ _ _ _ _) bz fun b hb => h.u hb
end ADDS
set_option maxHeartbeats 4000000 in
set_option maxRecDepth 100000 in
theorem c_L_addUp (l : Launch) (dC : Nat → ClassId) (dI : Nat → Nat → Nat) (z : XK) {n bz oz tk lz nx dy : Nat} {T : Nat → Nat → Int32} {M : XM} {L : List (Nat → Nat → Int32)} (eT : mT M = T) (hI : Iv n bz oz tk lz nx dy T) (hH : mH M L) : zL (fun r M' => r = nI 1 ∧ M' = M) l (dC, dI) z yL_addUp wsL_addUp 8 300 [.ref (zo z), .int (nI n)] M := by
  unfold zL
  refine Met.ofW (cc := cL_addUp) (maxL := 12) (ret := (some .boolean)) (by decide) rfl ?_
  intro p e s m args below meth c s₁ B hml hv
  obtain ⟨rfl, hP, hK, hD0, hN⟩ := hv
  have hx := B.exec
  have hb := B.bytes
  have hr := B.returns
  have hts := atoms_spec (ws := wsL_addUp) B.pre
  have hown : s.vm.findClass RL = some m.cls := findClass_of_methodNamed B.named
  have hlocks := B.notSynchronized
  have kf_52 := hts (Cond.constantFloat RL 52 (1120403456)) (by decide +kernel)
  obtain ⟨A, hA⟩ : ∃ A, A = va_B (cw z M) := ⟨_, rfl⟩
  have hD : va_D A (cw z M) := hA ▸ hD0.own
  have hS : va_S A s.heap s.heap [] := va_S.rf
  have hl := lv_entry ([.ref (zo z), .int (nI n)]) (n := 12) (Nat.le_of_ble_eq_true rfl)
  rw [lg_entry_eq]
  generalize (lg_sl ([.ref (zo z), .int (nI n)]) ++ List.replicate (12 - (lg_sl ([.ref (zo z), .int (nI n)])).length) Slot.unset).toArray = ls at hl ⊢
  have hl : lv_has ls 12 [(0, .ref (zo z)), (1, .int (nI n))] := hl
  have hn := hI.n1
  have htk := hI.1.2.1
  refine lv_iconst (v := nI 0) hx hb dL_addUp_0 (by decide) ?_
  refine lv_istore_n (lv' := [(2, .int (nI 0)), (0, .ref (zo z)), (1, .int (nI n))]) hx hb dL_addUp_1 rfl hl (by decide) rfl (fun ls hl => ?_)
  refine lv_iconst (v := nI 0) hx hb dL_addUp_2 (by decide) ?_
  refine lv_istore_n (lv' := [(3, .int (nI 0)), (2, .int (nI 0)), (0, .ref (zo z)), (1, .int (nI n))]) hx hb dL_addUp_3 rfl hl (by decide) rfl (fun ls hl => ?_)
  refine lv_iconst (v := nI 0) hx hb dL_addUp_4 (by decide) ?_
  refine lv_istore (lv' := [(4, .int (nI 0)), (3, .int (nI 0)), (2, .int (nI 0)), (0, .ref (zo z)), (1, .int (nI n))]) hx hb dL_addUp_5 hl (by decide) rfl (fun ls hl => ?_)
  refine lv_iconst (v := nI 0) hx hb dL_addUp_7 (by decide) ?_
  refine lv_istore (lv' := [(5, .int (nI 0)), (4, .int (nI 0)), (3, .int (nI 0)), (2, .int (nI 0)), (0, .ref (zo z)), (1, .int (nI n))]) hx hb dL_addUp_8 hl (by decide) rfl (fun ls hl => ?_)
  refine lv_iconst (v := nI 0) hx hb dL_addUp_10 (by decide) ?_
  refine lv_istore (lv' := [(6, .int (nI 0)), (5, .int (nI 0)), (4, .int (nI 0)), (3, .int (nI 0)), (2, .int (nI 0)), (0, .ref (zo z)), (1, .int (nI n))]) hx hb dL_addUp_11 hl (by decide) rfl (fun ls hl => ?_)
  refine xr_loop (J := Nat) (fun n0 H locs g => ∃ (k : Nat) (ls : Array Slot), n0 = bz - k + 1 ∧ g = F0 m 13 ls [] ∧ lv_has ls 12 [(6, .int (nI k)), (5, .int (xsum (fun b => T 13 b + T 14 b + T 15 b) k)), (4, .int (xsum (T 11) k)), (3, .int (xsum (T 10) k)), (2, .int (xsum (T 9) k)), (0, .ref (zo z)), (1, .int (nI n))] ∧ va_P (dC, dI) vwCl (cw z M) H ∧ va_D A (cw z M) ∧ va_S A s.heap H locs ∧ (k ≤ bz)) (fun n => n) ?_ (bz - 0 + 1) (g := F0 m 13 ls []) ⟨0, ls, rfl, rfl, lv_sub hl [0, 1, 2, 3, 4, 5, 6] rfl, hP, hD, hS, (Nat.zero_le _)⟩
  intro n0 ih_13 H locs g hp
  obtain ⟨k, ls, rfl, rfl, hl, hP, hD, hS, hk⟩ := hp
  refine lv_iload hx hb dL_addUp_13 (lv_at hl 0 rfl) ?_
  refine lv_aload_n hx hb dL_addUp_15 rfl (lv_at hl 5 rfl) ?_
  refine lv_iconst (v := nI 2) hx hb dL_addUp_16 (by decide) ?_
  refine zrV (M := M) (M' := M) (x := nI bz) (As := [.int (nI 2)]) (rest := [.int (nI k)]) hx hb hml hown hts hN hK (t_count2 l dC dI z eT hI hH) 1 gL_addUp_X9_count rfl hdV_X9_count ⟨Nat.le_of_ble_eq_true rfl, Nat.le_of_ble_eq_true rfl⟩ hP hD hS rfl hl.1 rfl (Nat.le_of_ble_eq_true rfl) dL_addUp_17 ⟨Nat.zero_le _, Nat.zero_le _⟩ (fun H locs hP hD hS => ?_)
  refine xr_ge_n (tgt := 246) hx hb (by omega) (by omega) dL_addUp_20 (by decide) (fun c_1 => ?_) (fun c_1 => ?_)
  · skip
    have e_k : k = bz := by omega
    rw [e_k] at hl
    refine lv_iconst (v := nI 0) hx hb dL_addUp_246 (by decide) ?_
    refine lv_istore (lv' := [(6, .int (nI 0)), (5, .int (xsum (fun b => T 13 b + T 14 b + T 15 b) bz)), (4, .int (xsum (T 11) bz)), (3, .int (xsum (T 10) bz)), (2, .int (xsum (T 9) bz)), (0, .ref (zo z)), (1, .int (nI n))]) hx hb dL_addUp_247 hl (by decide) rfl (fun ls hl => ?_)
    refine lv_iconst (v := nI 0) hx hb dL_addUp_249 (by decide) ?_
    refine lv_istore (lv' := [(7, .int (nI 0)), (6, .int (nI 0)), (5, .int (xsum (fun b => T 13 b + T 14 b + T 15 b) bz)), (4, .int (xsum (T 11) bz)), (3, .int (xsum (T 10) bz)), (2, .int (xsum (T 9) bz)), (0, .ref (zo z)), (1, .int (nI n))]) hx hb dL_addUp_250 hl (by decide) rfl (fun ls hl => ?_)
    refine lv_iconst (v := nI 0) hx hb dL_addUp_252 (by decide) ?_
    refine lv_istore (lv' := [(8, .int (nI 0)), (7, .int (nI 0)), (6, .int (nI 0)), (5, .int (xsum (fun b => T 13 b + T 14 b + T 15 b) bz)), (4, .int (xsum (T 11) bz)), (3, .int (xsum (T 10) bz)), (2, .int (xsum (T 9) bz)), (0, .ref (zo z)), (1, .int (nI n))]) hx hb dL_addUp_253 hl (by decide) rfl (fun ls hl => ?_)
    refine lv_iconst (v := nI 0) hx hb dL_addUp_255 (by decide) ?_
    refine lv_istore (lv' := [(9, .int (nI 0)), (8, .int (nI 0)), (7, .int (nI 0)), (6, .int (nI 0)), (5, .int (xsum (fun b => T 13 b + T 14 b + T 15 b) bz)), (4, .int (xsum (T 11) bz)), (3, .int (xsum (T 10) bz)), (2, .int (xsum (T 9) bz)), (0, .ref (zo z)), (1, .int (nI n))]) hx hb dL_addUp_256 hl (by decide) rfl (fun ls hl => ?_)
    refine xr_loop (J := Nat) (fun n0 H locs g => ∃ (o : Nat) (ls : Array Slot), n0 = oz - o + 1 ∧ g = F0 m 258 ls [] ∧ lv_has ls 12 [(9, .int (nI o)), (8, .int (nI 0)), (7, .int (xsum (T 25) o)), (6, .int (xsum (T 20) o)), (5, .int (xsum (fun b => T 13 b + T 14 b + T 15 b) bz)), (4, .int (xsum (T 11) bz)), (3, .int (xsum (T 10) bz)), (2, .int (xsum (T 9) bz)), (0, .ref (zo z)), (1, .int (nI n))] ∧ va_P (dC, dI) vwCl (cw z M) H ∧ va_D A (cw z M) ∧ va_S A s.heap H locs ∧ (o ≤ oz)) (fun n => n) ?_ (oz - 0 + 1) (g := F0 m 258 ls []) ⟨0, ls, rfl, rfl, lv_sub hl [0, 1, 2, 3, 4, 5, 6, 7, 8, 9] rfl, hP, hD, hS, (Nat.zero_le _)⟩
    intro n0 ih_258 H locs g hp
    obtain ⟨o, ls, rfl, rfl, hl, hP, hD, hS, ho⟩ := hp
    refine lv_iload hx hb dL_addUp_258 (lv_at hl 0 rfl) ?_
    refine lv_aload_n hx hb dL_addUp_260 rfl (lv_at hl 8 rfl) ?_
    refine lv_iconst (v := nI 3) hx hb dL_addUp_261 (by decide) ?_
    refine zrV (M := M) (M' := M) (x := nI oz) (As := [.int (nI 3)]) (rest := [.int (nI o)]) hx hb hml hown hts hN hK (t_count3 l dC dI z eT hI hH) 1 gL_addUp_X9_count rfl hdV_X9_count ⟨Nat.le_of_ble_eq_true rfl, Nat.le_of_ble_eq_true rfl⟩ hP hD hS rfl hl.1 rfl (Nat.le_of_ble_eq_true rfl) dL_addUp_262 ⟨Nat.zero_le _, Nat.zero_le _⟩ (fun H locs hP hD hS => ?_)
    refine xr_ge_n (tgt := 391) hx hb (by omega) (by omega) dL_addUp_265 (by decide) (fun c_2 => ?_) (fun c_2 => ?_)
    · skip
      have e_o : o = oz := by omega
      rw [e_o] at hl
      refine lv_iconst (v := nI 0) hx hb dL_addUp_391 (by decide) ?_
      refine lv_istore (lv' := [(9, .int (nI 0)), (8, .int (nI 0)), (7, .int (xsum (T 25) oz)), (6, .int (xsum (T 20) oz)), (5, .int (xsum (fun b => T 13 b + T 14 b + T 15 b) bz)), (4, .int (xsum (T 11) bz)), (3, .int (xsum (T 10) bz)), (2, .int (xsum (T 9) bz)), (0, .ref (zo z)), (1, .int (nI n))]) hx hb dL_addUp_392 hl (by decide) rfl (fun ls hl => ?_)
      refine xr_loop (J := Nat) (fun n0 H locs g => ∃ (b9 : Nat) (ls : Array Slot), n0 = bz - b9 + 1 ∧ g = F0 m 394 ls [] ∧ lv_has ls 12 [(9, .int (nI b9)), (8, .int (xsum (T 12) b9)), (7, .int (xsum (T 25) oz)), (6, .int (xsum (T 20) oz)), (5, .int (xsum (fun b => T 13 b + T 14 b + T 15 b) bz)), (4, .int (xsum (T 11) bz)), (3, .int (xsum (T 10) bz)), (2, .int (xsum (T 9) bz)), (0, .ref (zo z)), (1, .int (nI n))] ∧ va_P (dC, dI) vwCl (cw z M) H ∧ va_D A (cw z M) ∧ va_S A s.heap H locs ∧ (b9 ≤ bz)) (fun n => n) ?_ (bz - 0 + 1) (g := F0 m 394 ls []) ⟨0, ls, rfl, rfl, lv_sub hl [0, 1, 2, 3, 4, 5, 6, 7, 8, 9] rfl, hP, hD, hS, (Nat.zero_le _)⟩
      intro n0 ih_394 H locs g hp
      obtain ⟨b9, ls, rfl, rfl, hl, hP, hD, hS, hb9⟩ := hp
      refine lv_iload hx hb dL_addUp_394 (lv_at hl 0 rfl) ?_
      refine lv_aload_n hx hb dL_addUp_396 rfl (lv_at hl 8 rfl) ?_
      refine lv_iconst (v := nI 2) hx hb dL_addUp_397 (by decide) ?_
      refine zrV (M := M) (M' := M) (x := nI bz) (As := [.int (nI 2)]) (rest := [.int (nI b9)]) hx hb hml hown hts hN hK (t_count2 l dC dI z eT hI hH) 1 gL_addUp_X9_count rfl hdV_X9_count ⟨Nat.le_of_ble_eq_true rfl, Nat.le_of_ble_eq_true rfl⟩ hP hD hS rfl hl.1 rfl (Nat.le_of_ble_eq_true rfl) dL_addUp_398 ⟨Nat.zero_le _, Nat.zero_le _⟩ (fun H locs hP hD hS => ?_)
      refine xr_ge_n (tgt := 423) hx hb (by omega) (by omega) dL_addUp_401 (by decide) (fun c_3 => ?_) (fun c_3 => ?_)
      · skip
        have e_b9 : b9 = bz := by omega
        rw [e_b9] at hl
        refine lv_iconst (v := nI 0) hx hb dL_addUp_423 (by decide) ?_
        refine lv_istore (lv' := [(9, .int (nI 0)), (8, .int (xsum (T 12) bz)), (7, .int (xsum (T 25) oz)), (6, .int (xsum (T 20) oz)), (5, .int (xsum (fun b => T 13 b + T 14 b + T 15 b) bz)), (4, .int (xsum (T 11) bz)), (3, .int (xsum (T 10) bz)), (2, .int (xsum (T 9) bz)), (0, .ref (zo z)), (1, .int (nI n))]) hx hb dL_addUp_424 hl (by decide) rfl (fun ls hl => ?_)
        refine lv_iconst (v := nI 0) hx hb dL_addUp_426 (by decide) ?_
        refine lv_istore (lv' := [(10, .int (nI 0)), (9, .int (nI 0)), (8, .int (xsum (T 12) bz)), (7, .int (xsum (T 25) oz)), (6, .int (xsum (T 20) oz)), (5, .int (xsum (fun b => T 13 b + T 14 b + T 15 b) bz)), (4, .int (xsum (T 11) bz)), (3, .int (xsum (T 10) bz)), (2, .int (xsum (T 9) bz)), (0, .ref (zo z)), (1, .int (nI n))]) hx hb dL_addUp_427 hl (by decide) rfl (fun ls hl => ?_)
        refine xr_loop (J := Nat) (fun n0 H locs g => ∃ (s9 : Nat) (ls : Array Slot), n0 = 4 - s9 + 1 ∧ g = F0 m 429 ls [] ∧ lv_has ls 12 [(10, .int (nI s9)), (9, .int (xsum (fun s => xsumP (fun b => decide (¬ T 9 b ≤ 0 ∧ xstg (T 30) (T 8) (T 2) (T 6) b = s)) (T 9) bz) s9)), (8, .int (xsum (T 12) bz)), (7, .int (xsum (T 25) oz)), (6, .int (xsum (T 20) oz)), (5, .int (xsum (fun b => T 13 b + T 14 b + T 15 b) bz)), (4, .int (xsum (T 11) bz)), (3, .int (xsum (T 10) bz)), (2, .int (xsum (T 9) bz)), (0, .ref (zo z)), (1, .int (nI n))] ∧ va_P (dC, dI) vwCl (cw z M) H ∧ va_D A (cw z M) ∧ va_S A s.heap H locs ∧ (s9 ≤ 4)) (fun n => n) ?_ (4 - 0 + 1) (g := F0 m 429 ls []) ⟨0, ls, rfl, rfl, lv_sub hl [0, 1, 2, 3, 4, 5, 6, 7, 8, 9, 10] rfl, hP, hD, hS, (Nat.zero_le _)⟩
        intro n0 ih_429 H locs g hp
        obtain ⟨s9, ls, rfl, rfl, hl, hP, hD, hS, hs9⟩ := hp
        refine lv_iload hx hb dL_addUp_429 (lv_at hl 0 rfl) ?_
        refine lv_iconst (v := nI 4) hx hb dL_addUp_431 (by decide) ?_
        refine xr_ge_n (tgt := 453) hx hb (by omega) (by omega) dL_addUp_432 (by decide) (fun c_4 => ?_) (fun c_4 => ?_)
        · skip
          have e_s9 : s9 = 4 := by omega
          rw [e_s9] at hl
          refine lv_aload_n hx hb dL_addUp_453 rfl (lv_at hl 9 rfl) ?_
          refine lv_iconst (v := nI 4) hx hb dL_addUp_454 (by decide) ?_
          refine zrV (M := M) (M' := M) (x := xsum (T 9) bz) (As := [.int (nI 4)]) (rest := []) hx hb hml hown hts hN hK (t_count4 l dC dI z eT hI hH) 1 gL_addUp_X9_count rfl hdV_X9_count ⟨Nat.le_of_ble_eq_true rfl, Nat.le_of_ble_eq_true rfl⟩ hP hD hS rfl hl.1 rfl (Nat.le_of_ble_eq_true rfl) dL_addUp_455 ⟨Nat.zero_le _, Nat.zero_le _⟩ (fun H locs hP hD hS => ?_)
          refine lv_iload_n hx hb dL_addUp_458 rfl (lv_at hl 8 rfl) ?_
          refine lv_icmp_ne (tgt := 537) hx hb dL_addUp_459 (by decide) (fun c_5 => False.elim (by exact c_5 rfl)) (fun c_5 => ?_)
          refine lv_aload_n hx hb dL_addUp_462 rfl (lv_at hl 9 rfl) ?_
          refine lv_iconst (v := nI 5) hx hb dL_addUp_463 (by decide) ?_
          refine zrV (M := M) (M' := M) (x := xsum (T 10) bz) (As := [.int (nI 5)]) (rest := []) hx hb hml hown hts hN hK (t_count5 l dC dI z eT hI hH) 1 gL_addUp_X9_count rfl hdV_X9_count ⟨Nat.le_of_ble_eq_true rfl, Nat.le_of_ble_eq_true rfl⟩ hP hD hS rfl hl.1 rfl (Nat.le_of_ble_eq_true rfl) dL_addUp_464 ⟨Nat.zero_le _, Nat.zero_le _⟩ (fun H locs hP hD hS => ?_)
          refine lv_iload_n hx hb dL_addUp_467 rfl (lv_at hl 7 rfl) ?_
          refine lv_icmp_ne (tgt := 537) hx hb dL_addUp_468 (by decide) (fun c_6 => False.elim (by exact c_6 rfl)) (fun c_6 => ?_)
          refine lv_aload_n hx hb dL_addUp_471 rfl (lv_at hl 9 rfl) ?_
          refine lv_bipush (v := nI 6) hx hb dL_addUp_472 (by decide) ?_
          refine zrV (M := M) (M' := M) (x := xsum (T 11) bz) (As := [.int (nI 6)]) (rest := []) hx hb hml hown hts hN hK (t_count6 l dC dI z eT hI hH) 1 gL_addUp_X9_count rfl hdV_X9_count ⟨Nat.le_of_ble_eq_true rfl, Nat.le_of_ble_eq_true rfl⟩ hP hD hS rfl hl.1 rfl (Nat.le_of_ble_eq_true rfl) dL_addUp_474 ⟨Nat.zero_le _, Nat.zero_le _⟩ (fun H locs hP hD hS => ?_)
          refine lv_iload hx hb dL_addUp_477 (lv_at hl 6 rfl) ?_
          refine lv_icmp_ne (tgt := 537) hx hb dL_addUp_479 (by decide) (fun c_7 => False.elim (by exact c_7 rfl)) (fun c_7 => ?_)
          refine lv_aload_n hx hb dL_addUp_482 rfl (lv_at hl 9 rfl) ?_
          refine lv_bipush (v := nI 7) hx hb dL_addUp_483 (by decide) ?_
          refine zrV (M := M) (M' := M) (x := xsum (T 13) bz + xsum (T 14) bz + xsum (T 15) bz) (As := [.int (nI 7)]) (rest := []) hx hb hml hown hts hN hK (t_count7 l dC dI z eT hI hH) 1 gL_addUp_X9_count rfl hdV_X9_count ⟨Nat.le_of_ble_eq_true rfl, Nat.le_of_ble_eq_true rfl⟩ hP hD hS rfl hl.1 rfl (Nat.le_of_ble_eq_true rfl) dL_addUp_485 ⟨Nat.zero_le _, Nat.zero_le _⟩ (fun H locs hP hD hS => ?_)
          refine lv_iload hx hb dL_addUp_488 (lv_at hl 5 rfl) ?_
          refine lv_icmp_ne (tgt := 537) hx hb dL_addUp_490 (by decide) (fun c_8 => False.elim (by exact c_8 hI.waste)) (fun c_8 => ?_)
          refine lv_iload_n hx hb dL_addUp_493 rfl (lv_at hl 7 rfl) ?_
          refine lv_iload hx hb dL_addUp_494 (lv_at hl 4 rfl) ?_
          refine lv_icmp_ne (tgt := 537) hx hb dL_addUp_496 (by decide) (fun c_9 => False.elim (by exact c_9 hI.sold.symm)) (fun c_9 => ?_)
          refine lv_aload_n hx hb dL_addUp_499 rfl (lv_at hl 9 rfl) ?_
          refine lv_bipush (v := nI 13) hx hb dL_addUp_500 (by decide) ?_
          refine zrV (M := M) (M' := M) (x := xsum (T 25) oz) (As := [.int (nI 13)]) (rest := []) hx hb hml hown hts hN hK (t_count13 l dC dI z eT hI hH) 1 gL_addUp_X9_count rfl hdV_X9_count ⟨Nat.le_of_ble_eq_true rfl, Nat.le_of_ble_eq_true rfl⟩ hP hD hS rfl hl.1 rfl (Nat.le_of_ble_eq_true rfl) dL_addUp_502 ⟨Nat.zero_le _, Nat.zero_le _⟩ (fun H locs hP hD hS => ?_)
          refine lv_iload hx hb dL_addUp_505 (lv_at hl 3 rfl) ?_
          refine lv_icmp_ne (tgt := 537) hx hb dL_addUp_507 (by decide) (fun c_10 => False.elim (by exact c_10 rfl)) (fun c_10 => ?_)
          refine lv_iload hx hb dL_addUp_510 (lv_at hl 3 rfl) ?_
          refine lv_iload hx hb dL_addUp_512 (lv_at hl 2 rfl) ?_
          refine lv_icmp_gt (tgt := 537) hx hb dL_addUp_514 (by decide) (fun c_11 => False.elim (by exact hI.cents c_11)) (fun c_11 => ?_)
          refine lv_iload hx hb dL_addUp_517 (lv_at hl 1 rfl) ?_
          refine lv_iload_n hx hb dL_addUp_519 rfl (lv_at hl 8 rfl) ?_
          refine lv_icmp_ne (tgt := 537) hx hb dL_addUp_520 (by decide) (fun c_12 => False.elim (by exact c_12 hI.bystages)) (fun c_12 => ?_)
          refine lv_aload_n hx hb dL_addUp_523 rfl (lv_at hl 9 rfl) ?_
          refine lv_iload_n hx hb dL_addUp_524 rfl (lv_at hl 10 rfl) ?_
          refine lv_iload_n hx hb dL_addUp_525 rfl (lv_at hl 8 rfl) ?_
          refine lv_iload_n hx hb dL_addUp_526 rfl (lv_at hl 7 rfl) ?_
          refine zrS (M := M) (As := [.ref (zo z), .int (nI n), .int (xsum (T 9) bz), .int (xsum (T 10) bz)]) (rest := []) hx hb hml hown hts hN hK (c_L_byGoods l dC dI z eT hI) 4 gL_addUp_L_byGoods rfl hdL_byGoods ⟨Nat.le_of_ble_eq_true rfl, Nat.le_of_ble_eq_true rfl⟩ hP hD hS rfl hl.1 rfl (Nat.le_of_ble_eq_true rfl) dL_addUp_527 ⟨Nat.zero_le _, Nat.zero_le _⟩ (fun x_13 M_15 H locs q_14 hP hD hS => ?_)
          obtain ⟨q_14, q8⟩ := q_14
          rw [q8] at hP hD
          rw [q_14]
          refine xr_if1 (tgt := 537) hx hb (by decide) dL_addUp_530 (by decide) ?_
          refine lv_iconst (v := nI 1) hx hb dL_addUp_533 (by decide) ?_
          refine lv_goto (tgt := 538) hx hb dL_addUp_534 (by decide) ?_
          have hS9 : va_S (va_B (cw z M)) s.heap H locs := by rw [← hA]; exact hS
          exact W.zret (v := nI 1) hx hb hr rfl (fun t ht hW => ⟨⟨_, _, rfl, ⟨M, rfl, ⟨rfl, rfl⟩⟩, by rw [ht]; exact hP⟩, hS9.X ht⟩) hS9.2.2 dL_addUp_538
        refine lv_iload hx hb dL_addUp_435 (lv_at hl 1 rfl) ?_
        refine lv_aload_n hx hb dL_addUp_437 rfl (lv_at hl 9 rfl) ?_
        refine lv_iload hx hb dL_addUp_438 (lv_at hl 0 rfl) ?_
        refine lv_iconst (v := nI 2) hx hb dL_addUp_440 (by decide) ?_
        refine zrV (M := M) (M' := M) (x := xsumP (fun b => decide (¬ T 9 b ≤ 0 ∧ xstg (T 30) (T 8) (T 2) (T 6) b = s9)) (T 9) bz) (As := [.int (nI s9), .int (nI 2)]) (rest := [.int (xsum (fun s => xsumP (fun b => decide (¬ T 9 b ≤ 0 ∧ xstg (T 30) (T 8) (T 2) (T 6) b = s)) (T 9) bz) s9)]) hx hb hml hown hts hN hK (t_stage2 l dC dI z eT hI (by omega)) 2 gL_addUp_X9_stage rfl hdV_X9_stage ⟨Nat.le_of_ble_eq_true rfl, Nat.le_of_ble_eq_true rfl⟩ hP hD hS rfl hl.1 rfl (Nat.le_of_ble_eq_true rfl) dL_addUp_441 ⟨Nat.zero_le _, Nat.zero_le _⟩ (fun H locs hP hD hS => ?_)
        refine lv_iadd hx hb dL_addUp_444 ?_
        refine lv_istore (lv' := [(9, .int ((xsum (fun s => xsumP (fun b => decide (¬ T 9 b ≤ 0 ∧ xstg (T 30) (T 8) (T 2) (T 6) b = s)) (T 9) bz) s9) + (xsumP (fun b => decide (¬ T 9 b ≤ 0 ∧ xstg (T 30) (T 8) (T 2) (T 6) b = s9)) (T 9) bz))), (10, .int (nI s9)), (8, .int (xsum (T 12) bz)), (7, .int (xsum (T 25) oz)), (6, .int (xsum (T 20) oz)), (5, .int (xsum (fun b => T 13 b + T 14 b + T 15 b) bz)), (4, .int (xsum (T 11) bz)), (3, .int (xsum (T 10) bz)), (2, .int (xsum (T 9) bz)), (0, .ref (zo z)), (1, .int (nI n))]) hx hb dL_addUp_445 hl (by decide) rfl (fun ls hl => ?_)
        refine lv_iinc (v := nI (s9 + 1)) (lv' := [(10, .int (nI (s9 + 1))), (9, .int ((xsum (fun s => xsumP (fun b => decide (¬ T 9 b ≤ 0 ∧ xstg (T 30) (T 8) (T 2) (T 6) b = s)) (T 9) bz) s9) + (xsumP (fun b => decide (¬ T 9 b ≤ 0 ∧ xstg (T 30) (T 8) (T 2) (T 6) b = s9)) (T 9) bz))), (8, .int (xsum (T 12) bz)), (7, .int (xsum (T 25) oz)), (6, .int (xsum (T 20) oz)), (5, .int (xsum (fun b => T 13 b + T 14 b + T 15 b) bz)), (4, .int (xsum (T 11) bz)), (3, .int (xsum (T 10) bz)), (2, .int (xsum (T 9) bz)), (0, .ref (zo z)), (1, .int (nI n))]) hx hb dL_addUp_447 hl (k := 1) rfl (nI_inc1 s9) (by decide) rfl (fun ls hl => ?_)
        refine lv_goto (tgt := 429) hx hb dL_addUp_450 (by decide) ?_
        exact ih_429 (4 - (s9 + 1) + 1) _ _ _ (show 4 - (s9 + 1) + 1 < 4 - s9 + 1 from by omega) ⟨(s9 + 1), ls, rfl, rfl, lv_sub hl [0, 1, 2, 3, 4, 5, 6, 7, 8, 9, 10] rfl, hP, hD, hS, (by omega)⟩
      refine lv_iload hx hb dL_addUp_404 (lv_at hl 1 rfl) ?_
      refine lv_aload_n hx hb dL_addUp_406 rfl (lv_at hl 8 rfl) ?_
      refine lv_iload hx hb dL_addUp_407 (lv_at hl 0 rfl) ?_
      refine lv_bipush (v := nI 11) hx hb dL_addUp_409 (by decide) ?_
      refine zrV (M := M) (M' := M) (x := T 12 b9) (As := [.int (nI b9), .int (nI 11)]) (rest := [.int (xsum (T 12) b9)]) hx hb hml hown hts hN hK (t_batch11 l dC dI z eT hI (by omega)) 2 gL_addUp_X9_batch rfl hdV_X9_batch ⟨Nat.le_of_ble_eq_true rfl, Nat.le_of_ble_eq_true rfl⟩ hP hD hS rfl hl.1 rfl (Nat.le_of_ble_eq_true rfl) dL_addUp_411 ⟨Nat.zero_le _, Nat.zero_le _⟩ (fun H locs hP hD hS => ?_)
      refine lv_iadd hx hb dL_addUp_414 ?_
      refine lv_istore (lv' := [(8, .int ((xsum (T 12) b9) + (T 12 b9))), (9, .int (nI b9)), (7, .int (xsum (T 25) oz)), (6, .int (xsum (T 20) oz)), (5, .int (xsum (fun b => T 13 b + T 14 b + T 15 b) bz)), (4, .int (xsum (T 11) bz)), (3, .int (xsum (T 10) bz)), (2, .int (xsum (T 9) bz)), (0, .ref (zo z)), (1, .int (nI n))]) hx hb dL_addUp_415 hl (by decide) rfl (fun ls hl => ?_)
      refine lv_iinc (v := nI (b9 + 1)) (lv' := [(9, .int (nI (b9 + 1))), (8, .int ((xsum (T 12) b9) + (T 12 b9))), (7, .int (xsum (T 25) oz)), (6, .int (xsum (T 20) oz)), (5, .int (xsum (fun b => T 13 b + T 14 b + T 15 b) bz)), (4, .int (xsum (T 11) bz)), (3, .int (xsum (T 10) bz)), (2, .int (xsum (T 9) bz)), (0, .ref (zo z)), (1, .int (nI n))]) hx hb dL_addUp_417 hl (k := 1) rfl (nI_inc1 b9) (by decide) rfl (fun ls hl => ?_)
      refine lv_goto (tgt := 394) hx hb dL_addUp_420 (by decide) ?_
      exact ih_394 (bz - (b9 + 1) + 1) _ _ _ (show bz - (b9 + 1) + 1 < bz - b9 + 1 from by omega) ⟨(b9 + 1), ls, rfl, rfl, lv_sub hl [0, 1, 2, 3, 4, 5, 6, 7, 8, 9] rfl, hP, hD, hS, (by omega)⟩
    obtain ⟨⟨og, og1, og2⟩, ⟨ow, oG, orp, ⟨ob1, ob2, ob3⟩, ow9, oG9, orp9⟩, oft, opt, of1, of2, of3, of4⟩ := hI.O (show o < oz by omega)
    refine lv_iconst (v := nI 0) hx hb dL_addUp_268 (by decide) ?_
    refine lv_istore (lv' := [(10, .int (nI 0)), (9, .int (nI o)), (8, .int (nI 0)), (7, .int (xsum (T 25) o)), (6, .int (xsum (T 20) o)), (5, .int (xsum (fun b => T 13 b + T 14 b + T 15 b) bz)), (4, .int (xsum (T 11) bz)), (3, .int (xsum (T 10) bz)), (2, .int (xsum (T 9) bz)), (0, .ref (zo z)), (1, .int (nI n))]) hx hb dL_addUp_269 hl (by decide) rfl (fun ls hl => ?_)
    refine lv_iconst (v := nI 0) hx hb dL_addUp_271 (by decide) ?_
    refine lv_istore (lv' := [(11, .int (nI 0)), (10, .int (nI 0)), (9, .int (nI o)), (8, .int (nI 0)), (7, .int (xsum (T 25) o)), (6, .int (xsum (T 20) o)), (5, .int (xsum (fun b => T 13 b + T 14 b + T 15 b) bz)), (4, .int (xsum (T 11) bz)), (3, .int (xsum (T 10) bz)), (2, .int (xsum (T 9) bz)), (0, .ref (zo z)), (1, .int (nI n))]) hx hb dL_addUp_272 hl (by decide) rfl (fun ls hl => ?_)
    refine xr_loop (J := Nat) (fun n0 H locs g => ∃ (p : Nat) (ls : Array Slot), n0 = opt - p + 1 ∧ g = F0 m 274 ls [] ∧ lv_has ls 12 [(11, .int (nI p)), (10, .int (xsum (fun p => T 29 (oft + p)) p)), (9, .int (nI o)), (8, .int (nI 0)), (7, .int (xsum (T 25) o)), (6, .int (xsum (T 20) o)), (5, .int (xsum (fun b => T 13 b + T 14 b + T 15 b) bz)), (4, .int (xsum (T 11) bz)), (3, .int (xsum (T 10) bz)), (2, .int (xsum (T 9) bz)), (0, .ref (zo z)), (1, .int (nI n))] ∧ va_P (dC, dI) vwCl (cw z M) H ∧ va_D A (cw z M) ∧ va_S A s.heap H locs ∧ (p ≤ opt)) (fun n => n) ?_ (opt - 0 + 1) (g := F0 m 274 ls []) ⟨0, ls, rfl, rfl, lv_sub hl [0, 1, 2, 3, 4, 5, 6, 7, 8, 9, 10, 11] rfl, hP, hD, hS, (Nat.zero_le _)⟩
    intro n0 ih_274 H locs g hp
    obtain ⟨p, ls, rfl, rfl, hl, hP, hD, hS, hp⟩ := hp
    refine lv_iload hx hb dL_addUp_274 (lv_at hl 0 rfl) ?_
    refine lv_aload_n hx hb dL_addUp_276 rfl (lv_at hl 10 rfl) ?_
    refine lv_iload hx hb dL_addUp_277 (lv_at hl 2 rfl) ?_
    refine lv_bipush (v := nI 6) hx hb dL_addUp_279 (by decide) ?_
    refine zrV (M := M) (M' := M) (x := nI opt) (As := [.int (nI o), .int (nI 6)]) (rest := [.int (nI p)]) hx hb hml hown hts hN hK (zX.r (t_order6 l dC dI z eT hI (by omega)) of3) 2 gL_addUp_X9_orderTold rfl hdV_X9_orderTold ⟨Nat.le_of_ble_eq_true rfl, Nat.le_of_ble_eq_true rfl⟩ hP hD hS rfl hl.1 rfl (Nat.le_of_ble_eq_true rfl) dL_addUp_281 ⟨Nat.zero_le _, Nat.zero_le _⟩ (fun H locs hP hD hS => ?_)
    refine xr_ge_n (tgt := 307) hx hb (by omega) (by omega) dL_addUp_284 (by decide) (fun c_16 => ?_) (fun c_16 => ?_)
    · skip
      refine lv_iload hx hb dL_addUp_307 (lv_at hl 1 rfl) ?_
      refine lv_aload_n hx hb dL_addUp_309 rfl (lv_at hl 10 rfl) ?_
      refine lv_iload hx hb dL_addUp_310 (lv_at hl 2 rfl) ?_
      refine lv_iconst (v := nI 2) hx hb dL_addUp_312 (by decide) ?_
      refine zrV (M := M) (M' := M) (x := T 20 o) (As := [.int (nI o), .int (nI 2)]) (rest := [.int (xsum (fun p => T 29 (oft + p)) p)]) hx hb hml hown hts hN hK (t_order2 l dC dI z eT hI (by omega)) 2 gL_addUp_X9_orderTold rfl hdV_X9_orderTold ⟨Nat.le_of_ble_eq_true rfl, Nat.le_of_ble_eq_true rfl⟩ hP hD hS rfl hl.1 rfl (Nat.le_of_ble_eq_true rfl) dL_addUp_313 ⟨Nat.zero_le _, Nat.zero_le _⟩ (fun H locs hP hD hS => ?_)
      refine lv_icmp_ne (tgt := 363) hx hb dL_addUp_316 (by decide) (fun c_17 => False.elim (by exact c_17 ((show p = opt by omega) ▸ of4))) (fun c_17 => ?_)
      refine lv_iload hx hb dL_addUp_319 (lv_at hl 1 rfl) ?_
      refine lv_aload_n hx hb dL_addUp_321 rfl (lv_at hl 10 rfl) ?_
      refine lv_iload hx hb dL_addUp_322 (lv_at hl 2 rfl) ?_
      refine lv_iconst (v := nI 1) hx hb dL_addUp_324 (by decide) ?_
      refine zrV (M := M) (M' := M) (x := T 19 o) (As := [.int (nI o), .int (nI 1)]) (rest := [.int (xsum (fun p => T 29 (oft + p)) p)]) hx hb hml hown hts hN hK (t_order1 l dC dI z eT hI (by omega)) 2 gL_addUp_X9_orderTold rfl hdV_X9_orderTold ⟨Nat.le_of_ble_eq_true rfl, Nat.le_of_ble_eq_true rfl⟩ hP hD hS rfl hl.1 rfl (Nat.le_of_ble_eq_true rfl) dL_addUp_325 ⟨Nat.zero_le _, Nat.zero_le _⟩ (fun H locs hP hD hS => ?_)
      refine lv_icmp_gt (tgt := 363) hx hb dL_addUp_328 (by decide) (fun c_18 => False.elim (by have q := (show p = opt by omega); subst q; rw [of4, oG9, ow9] at c_18; exact nI_nlt ob2 (by omega) c_18)) (fun c_18 => ?_)
      refine lv_aload_n hx hb dL_addUp_331 rfl (lv_at hl 10 rfl) ?_
      refine lv_iload hx hb dL_addUp_332 (lv_at hl 2 rfl) ?_
      refine lv_iconst (v := nI 3) hx hb dL_addUp_334 (by decide) ?_
      refine zrV (M := M) (M' := M) (x := T 21 o) (As := [.int (nI o), .int (nI 3)]) (rest := []) hx hb hml hown hts hN hK (t_order3 l dC dI z eT hI (by omega)) 2 gL_addUp_X9_orderTold rfl hdV_X9_orderTold ⟨Nat.le_of_ble_eq_true rfl, Nat.le_of_ble_eq_true rfl⟩ hP hD hS rfl hl.1 rfl (Nat.le_of_ble_eq_true rfl) dL_addUp_335 ⟨Nat.zero_le _, Nat.zero_le _⟩ (fun H locs hP hD hS => ?_)
      refine lv_iload hx hb dL_addUp_338 (lv_at hl 1 rfl) ?_
      refine lv_icmp_gt (tgt := 363) hx hb dL_addUp_340 (by decide) (fun c_19 => False.elim (by have q := (show p = opt by omega); subst q; rw [of4, oG9, orp9] at c_19; exact nI_nlt ob1 (by omega) c_19)) (fun c_19 => ?_)
      refine lv_aload_n hx hb dL_addUp_343 rfl (lv_at hl 10 rfl) ?_
      refine lv_iload hx hb dL_addUp_344 (lv_at hl 2 rfl) ?_
      refine lv_aload_n hx hb dL_addUp_346 rfl (lv_at hl 10 rfl) ?_
      refine lv_iload hx hb dL_addUp_347 (lv_at hl 2 rfl) ?_
      refine lv_bipush (v := nI 6) hx hb dL_addUp_349 (by decide) ?_
      refine zrV (M := M) (M' := M) (x := nI opt) (As := [.int (nI o), .int (nI 6)]) (rest := [.int (nI o), .ref (zo z)]) hx hb hml hown hts hN hK (zX.r (t_order6 l dC dI z eT hI (by omega)) of3) 2 gL_addUp_X9_orderTold rfl hdV_X9_orderTold ⟨Nat.le_of_ble_eq_true rfl, Nat.le_of_ble_eq_true rfl⟩ hP hD hS rfl hl.1 rfl (Nat.le_of_ble_eq_true rfl) dL_addUp_351 ⟨Nat.zero_le _, Nat.zero_le _⟩ (fun H locs hP hD hS => ?_)
      refine lv_iconst (v := nI 0) hx hb dL_addUp_354 (by decide) ?_
      refine zrV (M := M) (M' := M) (x := (-5)) (As := [.int (nI o), .int (nI opt), .int (nI 0)]) (rest := []) hx hb hml hown hts hN hK (t_takenN l dC dI z eT hI (by omega) of3 (by omega)) 3 gL_addUp_X9_taken rfl hdV_X9_taken ⟨Nat.le_of_ble_eq_true rfl, Nat.le_of_ble_eq_true rfl⟩ hP hD hS rfl hl.1 rfl (Nat.le_of_ble_eq_true rfl) dL_addUp_355 ⟨Nat.zero_le _, Nat.zero_le _⟩ (fun H locs hP hD hS => ?_)
      refine lv_bipush (v := (-5)) hx hb dL_addUp_358 (by decide) ?_
      refine lv_icmp_eq (tgt := 365) hx hb dL_addUp_360 (by decide) (fun c_20 => ?_) (fun c_20 => False.elim (by exact c_20 rfl))
      refine lv_iload hx hb dL_addUp_365 (lv_at hl 5 rfl) ?_
      refine lv_iload hx hb dL_addUp_367 (lv_at hl 1 rfl) ?_
      refine lv_iadd hx hb dL_addUp_369 ?_
      refine xr_top (show (xsum (T 20) o) + (xsum (fun p => T 29 (oft + p)) p) = xsum (T 20) o + T 20 o from by rw [(show xsum (fun p => T 29 (oft + p)) p = T 20 o from (show p = opt by omega) ▸ of4)]) ?_
      refine lv_istore (lv' := [(6, .int (xsum (T 20) o + T 20 o)), (11, .int (nI p)), (10, .int (xsum (fun p => T 29 (oft + p)) p)), (9, .int (nI o)), (8, .int (nI 0)), (7, .int (xsum (T 25) o)), (5, .int (xsum (fun b => T 13 b + T 14 b + T 15 b) bz)), (4, .int (xsum (T 11) bz)), (3, .int (xsum (T 10) bz)), (2, .int (xsum (T 9) bz)), (0, .ref (zo z)), (1, .int (nI n))]) hx hb dL_addUp_370 hl (by decide) rfl (fun ls hl => ?_)
      refine lv_iload hx hb dL_addUp_372 (lv_at hl 5 rfl) ?_
      refine lv_aload_n hx hb dL_addUp_374 rfl (lv_at hl 10 rfl) ?_
      refine lv_iload hx hb dL_addUp_375 (lv_at hl 3 rfl) ?_
      refine lv_bipush (v := nI 7) hx hb dL_addUp_377 (by decide) ?_
      refine zrV (M := M) (M' := M) (x := T 25 o) (As := [.int (nI o), .int (nI 7)]) (rest := [.int (xsum (T 25) o)]) hx hb hml hown hts hN hK (t_order7 l dC dI z eT hI (by omega)) 2 gL_addUp_X9_orderTold rfl hdV_X9_orderTold ⟨Nat.le_of_ble_eq_true rfl, Nat.le_of_ble_eq_true rfl⟩ hP hD hS rfl hl.1 rfl (Nat.le_of_ble_eq_true rfl) dL_addUp_379 ⟨Nat.zero_le _, Nat.zero_le _⟩ (fun H locs hP hD hS => ?_)
      refine lv_iadd hx hb dL_addUp_382 ?_
      refine lv_istore (lv' := [(7, .int ((xsum (T 25) o) + (T 25 o))), (6, .int (xsum (T 20) o + T 20 o)), (11, .int (nI p)), (10, .int (xsum (fun p => T 29 (oft + p)) p)), (9, .int (nI o)), (8, .int (nI 0)), (5, .int (xsum (fun b => T 13 b + T 14 b + T 15 b) bz)), (4, .int (xsum (T 11) bz)), (3, .int (xsum (T 10) bz)), (2, .int (xsum (T 9) bz)), (0, .ref (zo z)), (1, .int (nI n))]) hx hb dL_addUp_383 hl (by decide) rfl (fun ls hl => ?_)
      refine lv_iinc (v := nI (o + 1)) (lv' := [(9, .int (nI (o + 1))), (7, .int ((xsum (T 25) o) + (T 25 o))), (6, .int (xsum (T 20) o + T 20 o)), (11, .int (nI p)), (10, .int (xsum (fun p => T 29 (oft + p)) p)), (8, .int (nI 0)), (5, .int (xsum (fun b => T 13 b + T 14 b + T 15 b) bz)), (4, .int (xsum (T 11) bz)), (3, .int (xsum (T 10) bz)), (2, .int (xsum (T 9) bz)), (0, .ref (zo z)), (1, .int (nI n))]) hx hb dL_addUp_385 hl (k := 4) rfl (nI_inc1 o) (by decide) rfl (fun ls hl => ?_)
      refine lv_goto (tgt := 258) hx hb dL_addUp_388 (by decide) ?_
      exact ih_258 (oz - (o + 1) + 1) _ _ _ (show oz - (o + 1) + 1 < oz - o + 1 from by omega) ⟨(o + 1), ls, rfl, rfl, lv_sub hl [0, 5, 1, 2, 6, 7, 8, 9, 10, 11] rfl, hP, hD, hS, (by omega)⟩
    refine lv_iload hx hb dL_addUp_287 (lv_at hl 1 rfl) ?_
    refine lv_aload_n hx hb dL_addUp_289 rfl (lv_at hl 10 rfl) ?_
    refine lv_iload hx hb dL_addUp_290 (lv_at hl 2 rfl) ?_
    refine lv_iload hx hb dL_addUp_292 (lv_at hl 0 rfl) ?_
    refine lv_iconst (v := nI 1) hx hb dL_addUp_294 (by decide) ?_
    refine zrV (M := M) (M' := M) (x := T 29 (oft + p)) (As := [.int (nI o), .int (nI p), .int (nI 1)]) (rest := [.int (xsum (fun p => T 29 (oft + p)) p)]) hx hb hml hown hts hN hK (t_taken1 l dC dI z eT hI (by omega) of2 of3 (by omega) (by omega)) 3 gL_addUp_X9_taken rfl hdV_X9_taken ⟨Nat.le_of_ble_eq_true rfl, Nat.le_of_ble_eq_true rfl⟩ hP hD hS rfl hl.1 rfl (Nat.le_of_ble_eq_true rfl) dL_addUp_295 ⟨Nat.zero_le _, Nat.zero_le _⟩ (fun H locs hP hD hS => ?_)
    refine lv_iadd hx hb dL_addUp_298 ?_
    refine lv_istore (lv' := [(10, .int ((xsum (fun p => T 29 (oft + p)) p) + (T 29 (oft + p)))), (11, .int (nI p)), (9, .int (nI o)), (8, .int (nI 0)), (7, .int (xsum (T 25) o)), (6, .int (xsum (T 20) o)), (5, .int (xsum (fun b => T 13 b + T 14 b + T 15 b) bz)), (4, .int (xsum (T 11) bz)), (3, .int (xsum (T 10) bz)), (2, .int (xsum (T 9) bz)), (0, .ref (zo z)), (1, .int (nI n))]) hx hb dL_addUp_299 hl (by decide) rfl (fun ls hl => ?_)
    refine lv_iinc (v := nI (p + 1)) (lv' := [(11, .int (nI (p + 1))), (10, .int ((xsum (fun p => T 29 (oft + p)) p) + (T 29 (oft + p)))), (9, .int (nI o)), (8, .int (nI 0)), (7, .int (xsum (T 25) o)), (6, .int (xsum (T 20) o)), (5, .int (xsum (fun b => T 13 b + T 14 b + T 15 b) bz)), (4, .int (xsum (T 11) bz)), (3, .int (xsum (T 10) bz)), (2, .int (xsum (T 9) bz)), (0, .ref (zo z)), (1, .int (nI n))]) hx hb dL_addUp_301 hl (k := 1) rfl (nI_inc1 p) (by decide) rfl (fun ls hl => ?_)
    refine lv_goto (tgt := 274) hx hb dL_addUp_304 (by decide) ?_
    exact ih_274 (opt - (p + 1) + 1) _ _ _ (show opt - (p + 1) + 1 < opt - p + 1 from by omega) ⟨(p + 1), ls, rfl, rfl, lv_sub hl [0, 1, 2, 3, 4, 5, 6, 7, 8, 9, 10, 11] rfl, hP, hD, hS, (by omega)⟩
  refine lv_aload_n hx hb dL_addUp_23 rfl (lv_at hl 5 rfl) ?_
  refine lv_iload hx hb dL_addUp_24 (lv_at hl 0 rfl) ?_
  refine lv_bipush (v := nI 7) hx hb dL_addUp_26 (by decide) ?_
  refine zrV (M := M) (M' := M) (x := T 13 k) (As := [.int (nI k), .int (nI 7)]) (rest := []) hx hb hml hown hts hN hK (t_batch7 l dC dI z eT hI (by omega)) 2 gL_addUp_X9_batch rfl hdV_X9_batch ⟨Nat.le_of_ble_eq_true rfl, Nat.le_of_ble_eq_true rfl⟩ hP hD hS rfl hl.1 rfl (Nat.le_of_ble_eq_true rfl) dL_addUp_28 ⟨Nat.zero_le _, Nat.zero_le _⟩ (fun H locs hP hD hS => ?_)
  refine lv_aload_n hx hb dL_addUp_31 rfl (lv_at hl 5 rfl) ?_
  refine lv_iload hx hb dL_addUp_32 (lv_at hl 0 rfl) ?_
  refine lv_bipush (v := nI 8) hx hb dL_addUp_34 (by decide) ?_
  refine zrV (M := M) (M' := M) (x := T 14 k) (As := [.int (nI k), .int (nI 8)]) (rest := [.int (T 13 k)]) hx hb hml hown hts hN hK (t_batch8 l dC dI z eT hI (by omega)) 2 gL_addUp_X9_batch rfl hdV_X9_batch ⟨Nat.le_of_ble_eq_true rfl, Nat.le_of_ble_eq_true rfl⟩ hP hD hS rfl hl.1 rfl (Nat.le_of_ble_eq_true rfl) dL_addUp_36 ⟨Nat.zero_le _, Nat.zero_le _⟩ (fun H locs hP hD hS => ?_)
  refine lv_iadd hx hb dL_addUp_39 ?_
  refine lv_aload_n hx hb dL_addUp_40 rfl (lv_at hl 5 rfl) ?_
  refine lv_iload hx hb dL_addUp_41 (lv_at hl 0 rfl) ?_
  refine lv_bipush (v := nI 9) hx hb dL_addUp_43 (by decide) ?_
  refine zrV (M := M) (M' := M) (x := T 15 k) (As := [.int (nI k), .int (nI 9)]) (rest := [.int ((T 13 k) + (T 14 k))]) hx hb hml hown hts hN hK (t_batch9 l dC dI z eT hI (by omega)) 2 gL_addUp_X9_batch rfl hdV_X9_batch ⟨Nat.le_of_ble_eq_true rfl, Nat.le_of_ble_eq_true rfl⟩ hP hD hS rfl hl.1 rfl (Nat.le_of_ble_eq_true rfl) dL_addUp_45 ⟨Nat.zero_le _, Nat.zero_le _⟩ (fun H locs hP hD hS => ?_)
  refine lv_iadd hx hb dL_addUp_48 ?_
  refine lv_istore (lv' := [(7, .int (((T 13 k) + (T 14 k)) + (T 15 k))), (6, .int (nI k)), (5, .int (xsum (fun b => T 13 b + T 14 b + T 15 b) k)), (4, .int (xsum (T 11) k)), (3, .int (xsum (T 10) k)), (2, .int (xsum (T 9) k)), (0, .ref (zo z)), (1, .int (nI n))]) hx hb dL_addUp_49 hl (by decide) rfl (fun ls hl => ?_)
  refine lv_aload_n hx hb dL_addUp_51 rfl (lv_at hl 6 rfl) ?_
  refine lv_aload_n hx hb dL_addUp_52 rfl (lv_at hl 6 rfl) ?_
  refine lv_iload hx hb dL_addUp_53 (lv_at hl 1 rfl) ?_
  refine lv_iconst (v := nI 0) hx hb dL_addUp_55 (by decide) ?_
  refine zrV (M := M) (M' := M) (x := nI ((T 6 k).toNatClampNeg)) (As := [.int (nI k), .int (nI 0)]) (rest := [.ref (zo z)]) hx hb hml hown hts hN hK (zX.r (t_batch0 l dC dI z eT hI (by omega)) ((hI).gb (by omega)).2) 2 gL_addUp_X9_batch rfl hdV_X9_batch ⟨Nat.le_of_ble_eq_true rfl, Nat.le_of_ble_eq_true rfl⟩ hP hD hS rfl hl.1 rfl (Nat.le_of_ble_eq_true rfl) dL_addUp_56 ⟨Nat.zero_le _, Nat.zero_le _⟩ (fun H locs hP hD hS => ?_)
  refine lv_iconst (v := nI 0) hx hb dL_addUp_59 (by decide) ?_
  refine zrV (M := M) (M' := M) (x := T 1 ((T 6 k).toNatClampNeg)) (As := [.int (nI ((T 6 k).toNatClampNeg)), .int (nI 0)]) (rest := []) hx hb hml hown hts hN hK (t_good0 l dC dI z eT hI (hI.gb (show k < bz by omega)).1) 2 gL_addUp_X9_good rfl hdV_X9_good ⟨Nat.le_of_ble_eq_true rfl, Nat.le_of_ble_eq_true rfl⟩ hP hD hS rfl hl.1 rfl (Nat.le_of_ble_eq_true rfl) dL_addUp_60 ⟨Nat.zero_le _, Nat.zero_le _⟩ (fun H locs hP hD hS => ?_)
  refine lv_i2f hx hb dL_addUp_63 ?_
  refine lv_fconst1 hx hb dL_addUp_64 ?_
  refine lv_aload_n hx hb dL_addUp_65 rfl (lv_at hl 6 rfl) ?_
  refine lv_aload_n hx hb dL_addUp_66 rfl (lv_at hl 6 rfl) ?_
  refine lv_iload hx hb dL_addUp_67 (lv_at hl 1 rfl) ?_
  refine zrS (M := M) (As := [.ref (zo z), .int (nI k)]) (rest := [.ref (zo z), .float FP.fconst1, .float (FP.i2f (T 1 ((T 6 k).toNatClampNeg)))]) hx hb hml hown hts hN hK (c_L_stage l dC dI z eT hI (show k < bz by omega)) 2 gL_addUp_L_stage rfl hdL_stage ⟨Nat.le_of_ble_eq_true rfl, Nat.le_of_ble_eq_true rfl⟩ hP hD hS rfl hl.1 rfl (Nat.le_of_ble_eq_true rfl) dL_addUp_69 ⟨Nat.zero_le _, Nat.zero_le _⟩ (fun x_21 M_23 H locs q_22 hP hD hS => ?_)
  obtain ⟨q_22, q8⟩ := q_22
  rw [q8] at hP hD
  rw [q_22]
  refine zrF (M := M) (xf := xf1 (T 31 (xstg (T 30) (T 8) (T 2) (T 6) k))) (As := [.int (nI (xstg (T 30) (T 8) (T 2) (T 6) k))]) (rest := [.float FP.fconst1, .float (FP.i2f (T 1 ((T 6 k).toNatClampNeg)))]) hx hb hml hown hts hN hK (t_md l dC dI z eT (xstg_lt _ _ _ _ _)) 1 gL_addUp_X9_markdown rfl hdV_X9_markdown ⟨Nat.le_of_ble_eq_true rfl, Nat.le_of_ble_eq_true rfl⟩ hP hD rfl hl.1 rfl (Nat.le_of_ble_eq_true rfl) dL_addUp_72 ⟨Nat.zero_le _, Nat.zero_le _⟩ ?_
  refine lv_ldcf hx hb hown kf_52 dL_addUp_75 ?_
  refine lv_fdiv hx hb dL_addUp_77 (hI.md (xstg (T 30) (T 8) (T 2) (T 6) k) (xstg_lt _ _ _ _ _)).1 ?_
  refine lv_fsub hx hb dL_addUp_78 (hI.md (xstg (T 30) (T 8) (T 2) (T 6) k) (xstg_lt _ _ _ _ _)).2.1 ?_
  refine lv_fmul hx hb dL_addUp_79 ((hI.md (xstg (T 30) (T 8) (T 2) (T 6) k) (xstg_lt _ _ _ _ _)).2.2 _) ?_
  refine lv_fstore (lv' := [(8, .float (FP.fmul (FP.i2f (T 1 ((T 6 k).toNatClampNeg))) (FP.fsub FP.fconst1 (FP.fdiv (xf1 (T 31 (xstg (T 30) (T 8) (T 2) (T 6) k))) 1120403456)))), (7, .int (((T 13 k) + (T 14 k)) + (T 15 k))), (6, .int (nI k)), (5, .int (xsum (fun b => T 13 b + T 14 b + T 15 b) k)), (4, .int (xsum (T 11) k)), (3, .int (xsum (T 10) k)), (2, .int (xsum (T 9) k)), (0, .ref (zo z)), (1, .int (nI n))]) hx hb dL_addUp_80 hl (by decide) rfl (fun ls hl => ?_)
  refine lv_aload_n hx hb dL_addUp_82 rfl (lv_at hl 7 rfl) ?_
  refine lv_iload hx hb dL_addUp_83 (lv_at hl 2 rfl) ?_
  refine lv_iconst (v := nI 1) hx hb dL_addUp_85 (by decide) ?_
  refine zrV (M := M) (M' := M) (x := T 7 k) (As := [.int (nI k), .int (nI 1)]) (rest := []) hx hb hml hown hts hN hK (t_batch1 l dC dI z eT hI (by omega)) 2 gL_addUp_X9_batch rfl hdV_X9_batch ⟨Nat.le_of_ble_eq_true rfl, Nat.le_of_ble_eq_true rfl⟩ hP hD hS rfl hl.1 rfl (Nat.le_of_ble_eq_true rfl) dL_addUp_86 ⟨Nat.zero_le _, Nat.zero_le _⟩ (fun H locs hP hD hS => ?_)
  refine lv_aload_n hx hb dL_addUp_89 rfl (lv_at hl 7 rfl) ?_
  refine lv_iload hx hb dL_addUp_90 (lv_at hl 2 rfl) ?_
  refine lv_iconst (v := nI 3) hx hb dL_addUp_92 (by decide) ?_
  refine zrV (M := M) (M' := M) (x := T 9 k) (As := [.int (nI k), .int (nI 3)]) (rest := [.int (T 7 k)]) hx hb hml hown hts hN hK (t_batch3 l dC dI z eT hI (by omega)) 2 gL_addUp_X9_batch rfl hdV_X9_batch ⟨Nat.le_of_ble_eq_true rfl, Nat.le_of_ble_eq_true rfl⟩ hP hD hS rfl hl.1 rfl (Nat.le_of_ble_eq_true rfl) dL_addUp_93 ⟨Nat.zero_le _, Nat.zero_le _⟩ (fun H locs hP hD hS => ?_)
  refine lv_aload_n hx hb dL_addUp_96 rfl (lv_at hl 7 rfl) ?_
  refine lv_iload hx hb dL_addUp_97 (lv_at hl 2 rfl) ?_
  refine lv_iconst (v := nI 4) hx hb dL_addUp_99 (by decide) ?_
  refine zrV (M := M) (M' := M) (x := T 10 k) (As := [.int (nI k), .int (nI 4)]) (rest := [.int (T 9 k), .int (T 7 k)]) hx hb hml hown hts hN hK (t_batch4 l dC dI z eT hI (by omega)) 2 gL_addUp_X9_batch rfl hdV_X9_batch ⟨Nat.le_of_ble_eq_true rfl, Nat.le_of_ble_eq_true rfl⟩ hP hD hS rfl hl.1 rfl (Nat.le_of_ble_eq_true rfl) dL_addUp_100 ⟨Nat.zero_le _, Nat.zero_le _⟩ (fun H locs hP hD hS => ?_)
  refine lv_iadd hx hb dL_addUp_103 ?_
  refine lv_aload_n hx hb dL_addUp_104 rfl (lv_at hl 7 rfl) ?_
  refine lv_iload hx hb dL_addUp_105 (lv_at hl 2 rfl) ?_
  refine lv_iconst (v := nI 5) hx hb dL_addUp_107 (by decide) ?_
  refine zrV (M := M) (M' := M) (x := T 11 k) (As := [.int (nI k), .int (nI 5)]) (rest := [.int ((T 9 k) + (T 10 k)), .int (T 7 k)]) hx hb hml hown hts hN hK (t_batch5 l dC dI z eT hI (by omega)) 2 gL_addUp_X9_batch rfl hdV_X9_batch ⟨Nat.le_of_ble_eq_true rfl, Nat.le_of_ble_eq_true rfl⟩ hP hD hS rfl hl.1 rfl (Nat.le_of_ble_eq_true rfl) dL_addUp_108 ⟨Nat.zero_le _, Nat.zero_le _⟩ (fun H locs hP hD hS => ?_)
  refine lv_iadd hx hb dL_addUp_111 ?_
  refine lv_aload_n hx hb dL_addUp_112 rfl (lv_at hl 7 rfl) ?_
  refine lv_iload hx hb dL_addUp_113 (lv_at hl 2 rfl) ?_
  refine lv_bipush (v := nI 6) hx hb dL_addUp_115 (by decide) ?_
  refine zrV (M := M) (M' := M) (x := T 13 k + T 14 k + T 15 k) (As := [.int (nI k), .int (nI 6)]) (rest := [.int (((T 9 k) + (T 10 k)) + (T 11 k)), .int (T 7 k)]) hx hb hml hown hts hN hK (t_batch6 l dC dI z eT hI (by omega)) 2 gL_addUp_X9_batch rfl hdV_X9_batch ⟨Nat.le_of_ble_eq_true rfl, Nat.le_of_ble_eq_true rfl⟩ hP hD hS rfl hl.1 rfl (Nat.le_of_ble_eq_true rfl) dL_addUp_117 ⟨Nat.zero_le _, Nat.zero_le _⟩ (fun H locs hP hD hS => ?_)
  refine lv_iadd hx hb dL_addUp_120 ?_
  refine lv_icmp_ne (tgt := 176) hx hb dL_addUp_121 (by decide) (fun c_24 => False.elim (by exact c_24 (hI.B (show k < bz by omega)).2.2.2)) (fun c_24 => ?_)
  refine lv_iload hx hb dL_addUp_124 (lv_at hl 1 rfl) ?_
  refine lv_aload_n hx hb dL_addUp_126 rfl (lv_at hl 7 rfl) ?_
  refine lv_iload hx hb dL_addUp_127 (lv_at hl 2 rfl) ?_
  refine lv_bipush (v := nI 6) hx hb dL_addUp_129 (by decide) ?_
  refine zrV (M := M) (M' := M) (x := T 13 k + T 14 k + T 15 k) (As := [.int (nI k), .int (nI 6)]) (rest := [.int (((T 13 k) + (T 14 k)) + (T 15 k))]) hx hb hml hown hts hN hK (t_batch6 l dC dI z eT hI (by omega)) 2 gL_addUp_X9_batch rfl hdV_X9_batch ⟨Nat.le_of_ble_eq_true rfl, Nat.le_of_ble_eq_true rfl⟩ hP hD hS rfl hl.1 rfl (Nat.le_of_ble_eq_true rfl) dL_addUp_131 ⟨Nat.zero_le _, Nat.zero_le _⟩ (fun H locs hP hD hS => ?_)
  refine lv_icmp_ne (tgt := 176) hx hb dL_addUp_134 (by decide) (fun c_25 => False.elim (by exact c_25 rfl)) (fun c_25 => ?_)
  refine lv_aload_n hx hb dL_addUp_137 rfl (lv_at hl 7 rfl) ?_
  refine lv_iload hx hb dL_addUp_138 (lv_at hl 2 rfl) ?_
  refine lv_iconst (v := nI 3) hx hb dL_addUp_140 (by decide) ?_
  refine zrV (M := M) (M' := M) (x := T 9 k) (As := [.int (nI k), .int (nI 3)]) (rest := []) hx hb hml hown hts hN hK (t_batch3 l dC dI z eT hI (by omega)) 2 gL_addUp_X9_batch rfl hdV_X9_batch ⟨Nat.le_of_ble_eq_true rfl, Nat.le_of_ble_eq_true rfl⟩ hP hD hS rfl hl.1 rfl (Nat.le_of_ble_eq_true rfl) dL_addUp_141 ⟨Nat.zero_le _, Nat.zero_le _⟩ (fun H locs hP hD hS => ?_)
  refine lv_if_lt (tgt := 176) hx hb dL_addUp_144 (by decide) (fun c_26 => False.elim (by obtain ⟨u, u1, u2⟩ := hI.u (show k < bz by omega); rw [u2] at c_26; exact nI_pos (by omega) c_26)) (fun c_26 => ?_)
  refine lv_aload_n hx hb dL_addUp_147 rfl (lv_at hl 7 rfl) ?_
  refine lv_iload hx hb dL_addUp_148 (lv_at hl 2 rfl) ?_
  refine lv_bipush (v := nI 10) hx hb dL_addUp_150 (by decide) ?_
  refine zrV (M := M) (M' := M) (x := nI (xstg (T 30) (T 8) (T 2) (T 6) k)) (As := [.int (nI k), .int (nI 10)]) (rest := []) hx hb hml hown hts hN hK (t_batch10 l dC dI z eT hI (by omega)) 2 gL_addUp_X9_batch rfl hdV_X9_batch ⟨Nat.le_of_ble_eq_true rfl, Nat.le_of_ble_eq_true rfl⟩ hP hD hS rfl hl.1 rfl (Nat.le_of_ble_eq_true rfl) dL_addUp_152 ⟨Nat.zero_le _, Nat.zero_le _⟩ (fun H locs hP hD hS => ?_)
  refine lv_aload_n hx hb dL_addUp_155 rfl (lv_at hl 7 rfl) ?_
  refine lv_iload hx hb dL_addUp_156 (lv_at hl 2 rfl) ?_
  refine zrS (M := M) (As := [.ref (zo z), .int (nI k)]) (rest := [.int (nI (xstg (T 30) (T 8) (T 2) (T 6) k))]) hx hb hml hown hts hN hK (c_L_stage l dC dI z eT hI (show k < bz by omega)) 2 gL_addUp_L_stage rfl hdL_stage ⟨Nat.le_of_ble_eq_true rfl, Nat.le_of_ble_eq_true rfl⟩ hP hD hS rfl hl.1 rfl (Nat.le_of_ble_eq_true rfl) dL_addUp_158 ⟨Nat.zero_le _, Nat.zero_le _⟩ (fun x_27 M_29 H locs q_28 hP hD hS => ?_)
  obtain ⟨q_28, q8⟩ := q_28
  rw [q8] at hP hD
  rw [q_28]
  refine lv_icmp_ne (tgt := 176) hx hb dL_addUp_161 (by decide) (fun c_30 => False.elim (by exact c_30 rfl)) (fun c_30 => ?_)
  refine lv_aload_n hx hb dL_addUp_164 rfl (lv_at hl 7 rfl) ?_
  refine lv_iload hx hb dL_addUp_165 (lv_at hl 2 rfl) ?_
  refine zrF (M := M) (xf := xpr T k) (As := [.int (nI k)]) (rest := []) hx hb hml hown hts hN hK (t_price l dC dI z eT hI (by omega)) 1 gL_addUp_X9_unitPrice rfl hdV_X9_unitPrice ⟨Nat.le_of_ble_eq_true rfl, Nat.le_of_ble_eq_true rfl⟩ hP hD rfl hl.1 rfl (Nat.le_of_ble_eq_true rfl) dL_addUp_167 ⟨Nat.zero_le _, Nat.zero_le _⟩ ?_
  refine lv_fload hx hb dL_addUp_170 (lv_at hl 0 rfl) ?_
  refine lv_fcmp hx hb dL_addUp_172 ?_
  refine lv_if_eq (tgt := 178) hx hb dL_addUp_173 (by decide) (fun c_31 => ?_) (fun c_31 => False.elim (by exact c_31 (zfc_self (r := xpr T k) (hI.pr (show k < bz by omega)) _)))
  refine lv_aload_n hx hb dL_addUp_178 rfl (lv_at hl 7 rfl) ?_
  refine lv_iload hx hb dL_addUp_179 (lv_at hl 2 rfl) ?_
  refine lv_iconst (v := nI 3) hx hb dL_addUp_181 (by decide) ?_
  refine zrV (M := M) (M' := M) (x := T 9 k) (As := [.int (nI k), .int (nI 3)]) (rest := []) hx hb hml hown hts hN hK (t_batch3 l dC dI z eT hI (by omega)) 2 gL_addUp_X9_batch rfl hdV_X9_batch ⟨Nat.le_of_ble_eq_true rfl, Nat.le_of_ble_eq_true rfl⟩ hP hD hS rfl hl.1 rfl (Nat.le_of_ble_eq_true rfl) dL_addUp_182 ⟨Nat.zero_le _, Nat.zero_le _⟩ (fun H locs hP hD hS => ?_)
  refine lv_if_le (tgt := 201) hx hb dL_addUp_185 (by decide) (fun c_32 => ?_) (fun c_32 => ?_)
  · skip
    refine lv_iload_n hx hb dL_addUp_201 rfl (lv_at hl 6 rfl) ?_
    refine lv_aload_n hx hb dL_addUp_202 rfl (lv_at hl 7 rfl) ?_
    refine lv_iload hx hb dL_addUp_203 (lv_at hl 2 rfl) ?_
    refine lv_iconst (v := nI 3) hx hb dL_addUp_205 (by decide) ?_
    refine zrV (M := M) (M' := M) (x := T 9 k) (As := [.int (nI k), .int (nI 3)]) (rest := [.int (xsum (T 9) k)]) hx hb hml hown hts hN hK (t_batch3 l dC dI z eT hI (by omega)) 2 gL_addUp_X9_batch rfl hdV_X9_batch ⟨Nat.le_of_ble_eq_true rfl, Nat.le_of_ble_eq_true rfl⟩ hP hD hS rfl hl.1 rfl (Nat.le_of_ble_eq_true rfl) dL_addUp_206 ⟨Nat.zero_le _, Nat.zero_le _⟩ (fun H locs hP hD hS => ?_)
    refine lv_iadd hx hb dL_addUp_209 ?_
    refine lv_istore_n (lv' := [(2, .int ((xsum (T 9) k) + (T 9 k))), (8, .float (FP.fmul (FP.i2f (T 1 ((T 6 k).toNatClampNeg))) (FP.fsub FP.fconst1 (FP.fdiv (xf1 (T 31 (xstg (T 30) (T 8) (T 2) (T 6) k))) 1120403456)))), (7, .int (((T 13 k) + (T 14 k)) + (T 15 k))), (6, .int (nI k)), (5, .int (xsum (fun b => T 13 b + T 14 b + T 15 b) k)), (4, .int (xsum (T 11) k)), (3, .int (xsum (T 10) k)), (0, .ref (zo z)), (1, .int (nI n))]) hx hb dL_addUp_210 rfl hl (by decide) rfl (fun ls hl => ?_)
    refine lv_iload_n hx hb dL_addUp_211 rfl (lv_at hl 6 rfl) ?_
    refine lv_aload_n hx hb dL_addUp_212 rfl (lv_at hl 7 rfl) ?_
    refine lv_iload hx hb dL_addUp_213 (lv_at hl 3 rfl) ?_
    refine lv_iconst (v := nI 4) hx hb dL_addUp_215 (by decide) ?_
    refine zrV (M := M) (M' := M) (x := T 10 k) (As := [.int (nI k), .int (nI 4)]) (rest := [.int (xsum (T 10) k)]) hx hb hml hown hts hN hK (t_batch4 l dC dI z eT hI (by omega)) 2 gL_addUp_X9_batch rfl hdV_X9_batch ⟨Nat.le_of_ble_eq_true rfl, Nat.le_of_ble_eq_true rfl⟩ hP hD hS rfl hl.1 rfl (Nat.le_of_ble_eq_true rfl) dL_addUp_216 ⟨Nat.zero_le _, Nat.zero_le _⟩ (fun H locs hP hD hS => ?_)
    refine lv_iadd hx hb dL_addUp_219 ?_
    refine lv_istore_n (lv' := [(3, .int ((xsum (T 10) k) + (T 10 k))), (2, .int ((xsum (T 9) k) + (T 9 k))), (8, .float (FP.fmul (FP.i2f (T 1 ((T 6 k).toNatClampNeg))) (FP.fsub FP.fconst1 (FP.fdiv (xf1 (T 31 (xstg (T 30) (T 8) (T 2) (T 6) k))) 1120403456)))), (7, .int (((T 13 k) + (T 14 k)) + (T 15 k))), (6, .int (nI k)), (5, .int (xsum (fun b => T 13 b + T 14 b + T 15 b) k)), (4, .int (xsum (T 11) k)), (0, .ref (zo z)), (1, .int (nI n))]) hx hb dL_addUp_220 rfl hl (by decide) rfl (fun ls hl => ?_)
    refine lv_iload hx hb dL_addUp_221 (lv_at hl 6 rfl) ?_
    refine lv_aload_n hx hb dL_addUp_223 rfl (lv_at hl 7 rfl) ?_
    refine lv_iload hx hb dL_addUp_224 (lv_at hl 4 rfl) ?_
    refine lv_iconst (v := nI 5) hx hb dL_addUp_226 (by decide) ?_
    refine zrV (M := M) (M' := M) (x := T 11 k) (As := [.int (nI k), .int (nI 5)]) (rest := [.int (xsum (T 11) k)]) hx hb hml hown hts hN hK (t_batch5 l dC dI z eT hI (by omega)) 2 gL_addUp_X9_batch rfl hdV_X9_batch ⟨Nat.le_of_ble_eq_true rfl, Nat.le_of_ble_eq_true rfl⟩ hP hD hS rfl hl.1 rfl (Nat.le_of_ble_eq_true rfl) dL_addUp_227 ⟨Nat.zero_le _, Nat.zero_le _⟩ (fun H locs hP hD hS => ?_)
    refine lv_iadd hx hb dL_addUp_230 ?_
    refine lv_istore (lv' := [(4, .int ((xsum (T 11) k) + (T 11 k))), (3, .int ((xsum (T 10) k) + (T 10 k))), (2, .int ((xsum (T 9) k) + (T 9 k))), (8, .float (FP.fmul (FP.i2f (T 1 ((T 6 k).toNatClampNeg))) (FP.fsub FP.fconst1 (FP.fdiv (xf1 (T 31 (xstg (T 30) (T 8) (T 2) (T 6) k))) 1120403456)))), (7, .int (((T 13 k) + (T 14 k)) + (T 15 k))), (6, .int (nI k)), (5, .int (xsum (fun b => T 13 b + T 14 b + T 15 b) k)), (0, .ref (zo z)), (1, .int (nI n))]) hx hb dL_addUp_231 hl (by decide) rfl (fun ls hl => ?_)
    refine lv_iload hx hb dL_addUp_233 (lv_at hl 6 rfl) ?_
    refine lv_iload hx hb dL_addUp_235 (lv_at hl 4 rfl) ?_
    refine lv_iadd hx hb dL_addUp_237 ?_
    refine lv_istore (lv' := [(5, .int ((xsum (fun b => T 13 b + T 14 b + T 15 b) k) + (((T 13 k) + (T 14 k)) + (T 15 k)))), (4, .int ((xsum (T 11) k) + (T 11 k))), (3, .int ((xsum (T 10) k) + (T 10 k))), (2, .int ((xsum (T 9) k) + (T 9 k))), (8, .float (FP.fmul (FP.i2f (T 1 ((T 6 k).toNatClampNeg))) (FP.fsub FP.fconst1 (FP.fdiv (xf1 (T 31 (xstg (T 30) (T 8) (T 2) (T 6) k))) 1120403456)))), (7, .int (((T 13 k) + (T 14 k)) + (T 15 k))), (6, .int (nI k)), (0, .ref (zo z)), (1, .int (nI n))]) hx hb dL_addUp_238 hl (by decide) rfl (fun ls hl => ?_)
    refine lv_iinc (v := nI (k + 1)) (lv' := [(6, .int (nI (k + 1))), (5, .int ((xsum (fun b => T 13 b + T 14 b + T 15 b) k) + (((T 13 k) + (T 14 k)) + (T 15 k)))), (4, .int ((xsum (T 11) k) + (T 11 k))), (3, .int ((xsum (T 10) k) + (T 10 k))), (2, .int ((xsum (T 9) k) + (T 9 k))), (8, .float (FP.fmul (FP.i2f (T 1 ((T 6 k).toNatClampNeg))) (FP.fsub FP.fconst1 (FP.fdiv (xf1 (T 31 (xstg (T 30) (T 8) (T 2) (T 6) k))) 1120403456)))), (7, .int (((T 13 k) + (T 14 k)) + (T 15 k))), (0, .ref (zo z)), (1, .int (nI n))]) hx hb dL_addUp_240 hl (k := 6) rfl (nI_inc1 k) (by decide) rfl (fun ls hl => ?_)
    refine lv_goto (tgt := 13) hx hb dL_addUp_243 (by decide) ?_
    exact ih_13 (bz - (k + 1) + 1) _ _ _ (show bz - (k + 1) + 1 < bz - k + 1 from by omega) ⟨(k + 1), ls, rfl, rfl, lv_sub hl [0, 1, 2, 3, 4, 7, 8] rfl, hP, hD, hS, (by omega)⟩
  have low1 : ¬ ¬ nI 1 ≤ T 8 k := by
    obtain ⟨-, ⟨d, d1, d2, d3⟩, -⟩ := hI.B (show k < bz by omega)
    rw [d2]
    exact fun q => q (nI_le (d3 fun z => c_32 (by rw [z]; decide)) (by omega))
  refine lv_aload_n hx hb dL_addUp_188 rfl (lv_at hl 7 rfl) ?_
  refine lv_iload hx hb dL_addUp_189 (lv_at hl 2 rfl) ?_
  refine lv_iconst (v := nI 2) hx hb dL_addUp_191 (by decide) ?_
  refine zrV (M := M) (M' := M) (x := T 8 k) (As := [.int (nI k), .int (nI 2)]) (rest := []) hx hb hml hown hts hN hK (t_batch2 l dC dI z eT hI (by omega)) 2 gL_addUp_X9_batch rfl hdV_X9_batch ⟨Nat.le_of_ble_eq_true rfl, Nat.le_of_ble_eq_true rfl⟩ hP hD hS rfl hl.1 rfl (Nat.le_of_ble_eq_true rfl) dL_addUp_192 ⟨Nat.zero_le _, Nat.zero_le _⟩ (fun H locs hP hD hS => ?_)
  refine lv_iconst (v := nI 1) hx hb dL_addUp_195 (by decide) ?_
  refine lv_icmp_ge (tgt := 201) hx hb dL_addUp_196 (by decide) (fun c_33 => ?_) (fun c_33 => False.elim (by exact low1 c_33))
  refine lv_iload_n hx hb dL_addUp_201 rfl (lv_at hl 6 rfl) ?_
  refine lv_aload_n hx hb dL_addUp_202 rfl (lv_at hl 7 rfl) ?_
  refine lv_iload hx hb dL_addUp_203 (lv_at hl 2 rfl) ?_
  refine lv_iconst (v := nI 3) hx hb dL_addUp_205 (by decide) ?_
  refine zrV (M := M) (M' := M) (x := T 9 k) (As := [.int (nI k), .int (nI 3)]) (rest := [.int (xsum (T 9) k)]) hx hb hml hown hts hN hK (t_batch3 l dC dI z eT hI (by omega)) 2 gL_addUp_X9_batch rfl hdV_X9_batch ⟨Nat.le_of_ble_eq_true rfl, Nat.le_of_ble_eq_true rfl⟩ hP hD hS rfl hl.1 rfl (Nat.le_of_ble_eq_true rfl) dL_addUp_206 ⟨Nat.zero_le _, Nat.zero_le _⟩ (fun H locs hP hD hS => ?_)
  refine lv_iadd hx hb dL_addUp_209 ?_
  refine lv_istore_n (lv' := [(2, .int ((xsum (T 9) k) + (T 9 k))), (8, .float (FP.fmul (FP.i2f (T 1 ((T 6 k).toNatClampNeg))) (FP.fsub FP.fconst1 (FP.fdiv (xf1 (T 31 (xstg (T 30) (T 8) (T 2) (T 6) k))) 1120403456)))), (7, .int (((T 13 k) + (T 14 k)) + (T 15 k))), (6, .int (nI k)), (5, .int (xsum (fun b => T 13 b + T 14 b + T 15 b) k)), (4, .int (xsum (T 11) k)), (3, .int (xsum (T 10) k)), (0, .ref (zo z)), (1, .int (nI n))]) hx hb dL_addUp_210 rfl hl (by decide) rfl (fun ls hl => ?_)
  refine lv_iload_n hx hb dL_addUp_211 rfl (lv_at hl 6 rfl) ?_
  refine lv_aload_n hx hb dL_addUp_212 rfl (lv_at hl 7 rfl) ?_
  refine lv_iload hx hb dL_addUp_213 (lv_at hl 3 rfl) ?_
  refine lv_iconst (v := nI 4) hx hb dL_addUp_215 (by decide) ?_
  refine zrV (M := M) (M' := M) (x := T 10 k) (As := [.int (nI k), .int (nI 4)]) (rest := [.int (xsum (T 10) k)]) hx hb hml hown hts hN hK (t_batch4 l dC dI z eT hI (by omega)) 2 gL_addUp_X9_batch rfl hdV_X9_batch ⟨Nat.le_of_ble_eq_true rfl, Nat.le_of_ble_eq_true rfl⟩ hP hD hS rfl hl.1 rfl (Nat.le_of_ble_eq_true rfl) dL_addUp_216 ⟨Nat.zero_le _, Nat.zero_le _⟩ (fun H locs hP hD hS => ?_)
  refine lv_iadd hx hb dL_addUp_219 ?_
  refine lv_istore_n (lv' := [(3, .int ((xsum (T 10) k) + (T 10 k))), (2, .int ((xsum (T 9) k) + (T 9 k))), (8, .float (FP.fmul (FP.i2f (T 1 ((T 6 k).toNatClampNeg))) (FP.fsub FP.fconst1 (FP.fdiv (xf1 (T 31 (xstg (T 30) (T 8) (T 2) (T 6) k))) 1120403456)))), (7, .int (((T 13 k) + (T 14 k)) + (T 15 k))), (6, .int (nI k)), (5, .int (xsum (fun b => T 13 b + T 14 b + T 15 b) k)), (4, .int (xsum (T 11) k)), (0, .ref (zo z)), (1, .int (nI n))]) hx hb dL_addUp_220 rfl hl (by decide) rfl (fun ls hl => ?_)
  refine lv_iload hx hb dL_addUp_221 (lv_at hl 6 rfl) ?_
  refine lv_aload_n hx hb dL_addUp_223 rfl (lv_at hl 7 rfl) ?_
  refine lv_iload hx hb dL_addUp_224 (lv_at hl 4 rfl) ?_
  refine lv_iconst (v := nI 5) hx hb dL_addUp_226 (by decide) ?_
  refine zrV (M := M) (M' := M) (x := T 11 k) (As := [.int (nI k), .int (nI 5)]) (rest := [.int (xsum (T 11) k)]) hx hb hml hown hts hN hK (t_batch5 l dC dI z eT hI (by omega)) 2 gL_addUp_X9_batch rfl hdV_X9_batch ⟨Nat.le_of_ble_eq_true rfl, Nat.le_of_ble_eq_true rfl⟩ hP hD hS rfl hl.1 rfl (Nat.le_of_ble_eq_true rfl) dL_addUp_227 ⟨Nat.zero_le _, Nat.zero_le _⟩ (fun H locs hP hD hS => ?_)
  refine lv_iadd hx hb dL_addUp_230 ?_
  refine lv_istore (lv' := [(4, .int ((xsum (T 11) k) + (T 11 k))), (3, .int ((xsum (T 10) k) + (T 10 k))), (2, .int ((xsum (T 9) k) + (T 9 k))), (8, .float (FP.fmul (FP.i2f (T 1 ((T 6 k).toNatClampNeg))) (FP.fsub FP.fconst1 (FP.fdiv (xf1 (T 31 (xstg (T 30) (T 8) (T 2) (T 6) k))) 1120403456)))), (7, .int (((T 13 k) + (T 14 k)) + (T 15 k))), (6, .int (nI k)), (5, .int (xsum (fun b => T 13 b + T 14 b + T 15 b) k)), (0, .ref (zo z)), (1, .int (nI n))]) hx hb dL_addUp_231 hl (by decide) rfl (fun ls hl => ?_)
  refine lv_iload hx hb dL_addUp_233 (lv_at hl 6 rfl) ?_
  refine lv_iload hx hb dL_addUp_235 (lv_at hl 4 rfl) ?_
  refine lv_iadd hx hb dL_addUp_237 ?_
  refine lv_istore (lv' := [(5, .int ((xsum (fun b => T 13 b + T 14 b + T 15 b) k) + (((T 13 k) + (T 14 k)) + (T 15 k)))), (4, .int ((xsum (T 11) k) + (T 11 k))), (3, .int ((xsum (T 10) k) + (T 10 k))), (2, .int ((xsum (T 9) k) + (T 9 k))), (8, .float (FP.fmul (FP.i2f (T 1 ((T 6 k).toNatClampNeg))) (FP.fsub FP.fconst1 (FP.fdiv (xf1 (T 31 (xstg (T 30) (T 8) (T 2) (T 6) k))) 1120403456)))), (7, .int (((T 13 k) + (T 14 k)) + (T 15 k))), (6, .int (nI k)), (0, .ref (zo z)), (1, .int (nI n))]) hx hb dL_addUp_238 hl (by decide) rfl (fun ls hl => ?_)
  refine lv_iinc (v := nI (k + 1)) (lv' := [(6, .int (nI (k + 1))), (5, .int ((xsum (fun b => T 13 b + T 14 b + T 15 b) k) + (((T 13 k) + (T 14 k)) + (T 15 k)))), (4, .int ((xsum (T 11) k) + (T 11 k))), (3, .int ((xsum (T 10) k) + (T 10 k))), (2, .int ((xsum (T 9) k) + (T 9 k))), (8, .float (FP.fmul (FP.i2f (T 1 ((T 6 k).toNatClampNeg))) (FP.fsub FP.fconst1 (FP.fdiv (xf1 (T 31 (xstg (T 30) (T 8) (T 2) (T 6) k))) 1120403456)))), (7, .int (((T 13 k) + (T 14 k)) + (T 15 k))), (0, .ref (zo z)), (1, .int (nI n))]) hx hb dL_addUp_240 hl (k := 6) rfl (nI_inc1 k) (by decide) rfl (fun ls hl => ?_)
  refine lv_goto (tgt := 13) hx hb dL_addUp_243 (by decide) ?_
  exact ih_13 (bz - (k + 1) + 1) _ _ _ (show bz - (k + 1) + 1 < bz - k + 1 from by omega) ⟨(k + 1), ls, rfl, rfl, lv_sub hl [0, 1, 2, 3, 4, 7, 8] rfl, hP, hD, hS, (by omega)⟩
