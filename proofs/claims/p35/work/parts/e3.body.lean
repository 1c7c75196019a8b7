/-! The law's body. -/
theorem zrJ2 {p : Program} {l : Launch} {e : Env} {R : Room} {s : State} {m : MethodId} {args : Array Value} {below : List Frame} {meth : Method} {c : Code} {H : Heap} {locs : List Loc} {cells slots : Nat} {Q : State → Prop} {g : JFrame} {D : va_G} {z : XK} {A : Nat → Prop} {H0 : Heap} {J : Type} {lv : J → List (Nat × Value)} {K : J → Prop} {Mf : J → XM} {nL pcj : Nat}
    (h : (∀ (j : J) (H1 : Heap) (locs1 : List Loc) (ls : Array Slot), K j → va_P D vwCl (cw z (Mf j)) H1 → va_D A (cw z (Mf j)) → va_S A H0 H1 locs1 → lv_has ls nL (lv j) → W p l e R s m args below meth c H1 locs1 cells slots Q (F0 m pcj ls [])) → W p l e R s m args below meth c H locs cells slots Q g)
    (k : ∀ (j : J) (H1 : Heap) (locs1 : List Loc) (ls : Array Slot), K j → va_P D vwCl (cw z (Mf j)) H1 → va_D A (cw z (Mf j)) → va_S A H0 H1 locs1 → lv_has ls nL (lv j) → W p l e R s m args below meth c H1 locs1 cells slots Q (F0 m pcj ls [])) : W p l e R s m args below meth c H locs cells slots Q g := h k
theorem zis0 {v : Nat} (h : v ≤ 2) : ¬ xisset (nI 0) (nI v) = 0 := by
  unfold xisset
  rw [if_pos rfl, if_pos ⟨nI_le (Nat.zero_le _) (by omega), nI_le h (by omega)⟩]
  decide
theorem zis1 {v : Nat} (h1 : 1 ≤ v) (h : v ≤ 4) : ¬ xisset (nI 1) (nI v) = 0 := by
  unfold xisset
  rw [if_neg (by decide), if_pos rfl, if_pos ⟨nI_le h1 (by omega), nI_le h (by omega)⟩]
  decide
theorem zis2 {v : Nat} (h : v ≤ 999) : ¬ xisset (nI 2) (nI v) = 0 := by
  unfold xisset
  rw [if_neg (by decide), if_neg (by decide), if_pos rfl, if_pos ⟨nI_le (Nat.zero_le _) (by omega), nI_le h (by omega)⟩]
  decide
set_option maxHeartbeats 4000000 in
set_option maxRecDepth 100000 in
/-- the law's body behind the making of the store -/
theorem law_body {p : Program} {e : Env} {s : State} {m : MethodId} {args : Array Value} {below : List Frame} {meth : Method} {c : Code} {Q : State → Prop} (l : Launch) (dC : Nat → ClassId) (dI : Nat → Nat → Nat) (z : XK) {M : XM} {A : Nat → Prop} {H0 H : Heap} {locs : List Loc} {ls : Array Slot} {a0 L0 : Nat} {xs : Nat → Int32}
    (hx : p.tables.exec = Jvm.exec) (hb : c.code = cL_law) (hml : c.maxLocals = 14) (hown : s.vm.findClass RL = some m.cls) (hts : ∀ w ∈ wsL_law, w.before args s = true) (hN : xN s) (hK : va_K (dC, dI) vwCl (zty z) s) (hX : va_X a0 L0 xs s H0) (hbl : a0 < H0.size) (hbA : ¬ A a0) (hL : L0 < 2 ^ 31)
    (hP : va_P (dC, dI) vwCl (cw z M) H) (hD : va_D A (cw z M)) (hS : va_S A H0 H locs) (eT : mT M = xT0) (hH : mH M []) (hl : lv_has ls 14 [(1, .ref (zo z)), (0, .ref a0)])
    (hend : ∀ (H : Heap) (locs : List Loc) (ls : Array Slot), va_S A H0 H locs → W p l e room_1 s m args below meth c H locs 600000 7302250 Q (F0 m 497 ls [.int (nI 1)])) : W p l e room_1 s m args below meth c H locs 600000 7302250 Q (F0 m 8 ls []) := by
  have kc_98 := hts (Cond.constant RL 98 (1092616192)) (by decide +kernel)
  refine lv_iconst (v := nI 1) hx hb dL_law_8 (by decide) ?_
  refine lv_aload_n hx hb dL_law_9 rfl (lv_at hl 1 rfl) ?_
  refine lv_iconst (v := nI 0) hx hb dL_law_10 (by decide) ?_
  refine zrC (As := [.ref a0, .int (nI 0)]) (rest := [.int (nI 1)]) hx hb hml hown hts hX hbl hbA hS (c_L_cell l a0 L0 xs 0 (by omega) hL) 2 gL_law_L_cell rfl hdL_cell ⟨Nat.le_of_ble_eq_true rfl, Nat.le_of_ble_eq_true rfl⟩ rfl hl.1 rfl (Nat.le_of_ble_eq_true rfl) dL_law_11 ⟨Nat.le_refl _, Nat.le_refl _⟩ (fun x_1 q_2 => ?_)
  refine lv_iconst (v := nI 5) hx hb dL_law_14 (by decide) ?_
  refine zrP (As := [.int x_1, .int (nI 5)]) (rest := [.int (nI 1)]) hx hb hml hown hts (c_L_low l x_1 5 (by omega)) 2 gL_law_L_low rfl hdL_low ⟨Nat.le_of_ble_eq_true rfl, Nat.le_of_ble_eq_true rfl⟩ rfl hl.1 rfl (Nat.le_of_ble_eq_true rfl) dL_law_15 ⟨Nat.le_refl _, Nat.le_refl _⟩ (fun x_4 q_5 => ?_)
  obtain ⟨j_3, ej_3, hj_3⟩ : ∃ j : Nat, j = zlw x_1 5 ∧ j < 5 := ⟨_, rfl, zlw_lt _ (by omega)⟩
  rw [q_5, ← ej_3]
  refine xr_iadd_n hx hb dL_law_18 ?_
  refine lv_istore_n (lv' := [(2, .int (nI (1 + j_3))), (1, .ref (zo z)), (0, .ref a0)]) hx hb dL_law_19 rfl hl (by decide) rfl (fun ls hl => ?_)
  obtain ⟨nn, enn, hnn⟩ : ∃ nn : Nat, nn = 1 + j_3 ∧ 1 ≤ nn ∧ nn ≤ 5 := ⟨_, rfl, by omega, by omega⟩
  rw [← enn] at hl
  refine lv_aload_n hx hb dL_law_20 rfl (lv_at hl 2 rfl) ?_
  refine lv_iconst (v := nI 1) hx hb dL_law_21 (by decide) ?_
  refine zrC (As := [.ref a0, .int (nI 1)]) (rest := []) hx hb hml hown hts hX hbl hbA hS (c_L_cell l a0 L0 xs 1 (by omega) hL) 2 gL_law_L_cell rfl hdL_cell ⟨Nat.le_of_ble_eq_true rfl, Nat.le_of_ble_eq_true rfl⟩ rfl hl.1 rfl (Nat.le_of_ble_eq_true rfl) dL_law_22 ⟨Nat.le_refl _, Nat.le_refl _⟩ (fun x_6 q_7 => ?_)
  refine lv_istore_n (lv' := [(3, .int x_6), (2, .int (nI nn)), (1, .ref (zo z)), (0, .ref a0)]) hx hb dL_law_25 rfl hl (by decide) rfl (fun ls hl => ?_)
  refine lv_aload_n hx hb dL_law_26 rfl (lv_at hl 2 rfl) ?_
  refine lv_aload_n hx hb dL_law_27 rfl (lv_at hl 3 rfl) ?_
  refine lv_iload_n hx hb dL_law_28 rfl (lv_at hl 1 rfl) ?_
  refine zrG (M := M) (As := [.ref (zo z), .ref a0, .int (nI nn)]) (rest := []) hx hb hml hown hts hN hK hX hbl hbA (c_L_goods l dC dI z eT hH hnn hL) 3 gL_law_L_goods rfl hdL_goods ⟨Nat.le_of_ble_eq_true rfl, Nat.le_of_ble_eq_true rfl⟩ hP hD hS rfl hl.1 rfl (Nat.le_of_ble_eq_true rfl) dL_law_29 ⟨Nat.le_refl _, Nat.le_refl _⟩ (fun x_8 M_10 H locs q_9 hP hD hS => ?_)
  obtain ⟨q_9, T1, e1, I1, H1, C1⟩ := q_9
  rw [q_9]
  refine xr_if1 (tgt := 70) hx hb (by decide) dL_law_32 (by decide) ?_
  refine zrJ2 (D := (dC, dI)) (z := z) (A := A) (H0 := H0) (J := XM) (lv := fun J9 => [(3, .int x_6), (2, .int (nI nn)), (1, .ref (zo z)), (0, .ref a0)]) (K := fun J9 => ∃ T' : Nat → Nat → Int32, mT J9 = T' ∧ Iv nn 0 0 0 0 0 0 T' ∧ mH J9 [] ∧ T' 38 = xT0 38) (Mf := fun J9 => J9) (nL := 14) (pcj := 72) (fun jn_11 => ?_) ?_
  · skip
    refine lv_aload_n hx hb dL_law_35 rfl (lv_at hl 2 rfl) ?_
    refine lv_iload_n hx hb dL_law_36 rfl (lv_at hl 0 rfl) ?_
    refine lv_iconst (v := nI 2) hx hb dL_law_37 (by decide) ?_
    refine zrP (As := [.int x_6, .int (nI 2)]) (rest := [.ref (zo z)]) hx hb hml hown hts (c_L_low l x_6 2 (by omega)) 2 gL_law_L_low rfl hdL_low ⟨Nat.le_of_ble_eq_true rfl, Nat.le_of_ble_eq_true rfl⟩ rfl hl.1 rfl (Nat.le_of_ble_eq_true rfl) dL_law_38 ⟨Nat.le_refl _, Nat.le_refl _⟩ (fun x_13 q_14 => ?_)
    obtain ⟨j_12, ej_12, hj_12⟩ : ∃ j : Nat, j = zlw x_6 2 ∧ j < 2 := ⟨_, rfl, zlw_lt _ (by omega)⟩
    rw [q_14, ← ej_12]
    refine xr_zne_n (tgt := 48) hx hb (by omega) dL_law_41 (by decide) (fun c_15 => ?_) (fun c_15 => ?_)
    · skip
      refine lv_ldc hx hb hown kc_98 dL_law_48 ?_
      refine xr_top (show (1092616192 : Int32) = nI 1092616192 from rfl) ?_
      obtain ⟨M2, k2, e2, H2⟩ := ua_reb l dC dI z e1 H1 (Nat.le_of_ble_eq_true rfl) (by rw [C1.2]; rfl)
      obtain ⟨T2, hT2⟩ : ∃ x, x = xT T1 39 (fun _ => nI 1092616192) := ⟨_, rfl⟩
      rw [← hT2] at e2
      have I2 : Iv nn 0 0 0 0 0 0 T2 := by rw [hT2]; exact I1.rebate
      have C2 : T2 38 = xT0 38 := by rw [hT2]; exact C1.1
      refine zrV (M := M_10) (M' := M2) (x := nI 1) (As := [.int (nI 1092616192)]) (rest := []) hx hb hml hown hts hN hK (k2) 1 gL_law_X9_setRebate rfl hdV_X9_setRebate ⟨Nat.le_of_ble_eq_true rfl, Nat.le_of_ble_eq_true rfl⟩ hP hD hS rfl hl.1 rfl (Nat.le_of_ble_eq_true rfl) dL_law_50 ⟨Nat.le_refl _, Nat.le_refl _⟩ (fun H locs hP hD hS => ?_)
      refine lv_iload_n hx hb dL_law_53 rfl (lv_at hl 0 rfl) ?_
      refine lv_iconst (v := nI 2) hx hb dL_law_54 (by decide) ?_
      refine zrP (As := [.int x_6, .int (nI 2)]) (rest := [.int (nI 1)]) hx hb hml hown hts (c_L_low l x_6 2 (by omega)) 2 gL_law_L_low rfl hdL_low ⟨Nat.le_of_ble_eq_true rfl, Nat.le_of_ble_eq_true rfl⟩ rfl hl.1 rfl (Nat.le_of_ble_eq_true rfl) dL_law_55 ⟨Nat.le_refl _, Nat.le_refl _⟩ (fun x_17 q_18 => ?_)
      obtain ⟨j_16, ej_16, hj_16⟩ : ∃ j : Nat, j = zlw x_6 2 ∧ j < 2 := ⟨_, rfl, zlw_lt _ (by omega)⟩
      rw [q_18, ← ej_16]
      refine xr_zne_n (tgt := 66) hx hb (by omega) dL_law_58 (by decide) (fun c_19 => ?_) (fun c_19 => False.elim (by omega))
      refine lv_iconst (v := nI 1) hx hb dL_law_66 (by decide) ?_
      refine xr_eq_n (a := 1) (b := 1) (tgt := 72) hx hb (by decide) (by decide) dL_law_67 (by decide) (fun _ => ?_) (fun c9 => absurd c9 (by decide))
      exact jn_11 M2 H locs ls (⟨T2, e2, I2, H2.less, C2⟩) hP hD hS (lv_sub hl [0, 1, 2, 3] rfl)
    refine lv_iconst (v := nI 0) hx hb dL_law_44 (by decide) ?_
    refine lv_goto (tgt := 50) hx hb dL_law_45 (by decide) ?_
    refine zrV (M := M_10) (M' := M_10) (x := (-5)) (As := [.int (nI 0)]) (rest := []) hx hb hml hown hts hN hK (ua_rebN l dC dI z e1 (by rw [C1.2]; rfl)) 1 gL_law_X9_setRebate rfl hdV_X9_setRebate ⟨Nat.le_of_ble_eq_true rfl, Nat.le_of_ble_eq_true rfl⟩ hP hD hS rfl hl.1 rfl (Nat.le_of_ble_eq_true rfl) dL_law_50 ⟨Nat.le_refl _, Nat.le_refl _⟩ (fun H locs hP hD hS => ?_)
    refine lv_iload_n hx hb dL_law_53 rfl (lv_at hl 0 rfl) ?_
    refine lv_iconst (v := nI 2) hx hb dL_law_54 (by decide) ?_
    refine zrP (As := [.int x_6, .int (nI 2)]) (rest := [.int (-5)]) hx hb hml hown hts (c_L_low l x_6 2 (by omega)) 2 gL_law_L_low rfl hdL_low ⟨Nat.le_of_ble_eq_true rfl, Nat.le_of_ble_eq_true rfl⟩ rfl hl.1 rfl (Nat.le_of_ble_eq_true rfl) dL_law_55 ⟨Nat.le_refl _, Nat.le_refl _⟩ (fun x_21 q_22 => ?_)
    obtain ⟨j_20, ej_20, hj_20⟩ : ∃ j : Nat, j = zlw x_6 2 ∧ j < 2 := ⟨_, rfl, zlw_lt _ (by omega)⟩
    rw [q_22, ← ej_20]
    refine xr_zne_n (tgt := 66) hx hb (by omega) dL_law_58 (by decide) (fun c_23 => False.elim (by omega)) (fun c_23 => ?_)
    refine lv_bipush (v := (-5)) hx hb dL_law_61 (by decide) ?_
    refine lv_goto (tgt := 67) hx hb dL_law_63 (by decide) ?_
    refine lv_icmp_eq (tgt := 72) hx hb dL_law_67 (by decide) (fun c_24 => ?_) (fun c_24 => False.elim (by exact c_24 rfl))
    exact jn_11 M_10 H locs ls (⟨T1, e1, I1, H1, C1.1⟩) hP hD hS (lv_sub hl [0, 1, 2, 3] rfl)
  intro J9 H locs ls hJ9 hP hD hS hl
  obtain ⟨T3, e3, I3, H3, C3⟩ := hJ9
  have n3 := I3.n1
  refine lv_iload_n hx hb dL_law_72 rfl (lv_at hl 0 rfl) ?_
  refine lv_iconst (v := nI 1) hx hb dL_law_73 (by decide) ?_
  refine lv_ishr hx hb dL_law_74 ?_
  refine lv_iconst (v := nI 3) hx hb dL_law_75 (by decide) ?_
  refine zrP (As := [.int (x_6 >>> ((nI 1) &&& 31)), .int (nI 3)]) (rest := []) hx hb hml hown hts (c_L_low l (x_6 >>> ((nI 1) &&& 31)) 3 (by omega)) 2 gL_law_L_low rfl hdL_low ⟨Nat.le_of_ble_eq_true rfl, Nat.le_of_ble_eq_true rfl⟩ rfl hl.1 rfl (Nat.le_of_ble_eq_true rfl) dL_law_76 ⟨Nat.le_refl _, Nat.le_refl _⟩ (fun x_26 q_27 => ?_)
  obtain ⟨j_25, ej_25, hj_25⟩ : ∃ j : Nat, j = zlw (x_6 >>> ((nI 1) &&& 31)) 3 ∧ j < 3 := ⟨_, rfl, zlw_lt _ (by omega)⟩
  rw [q_27, ← ej_25]
  refine lv_istore (lv' := [(4, .int (nI j_25)), (3, .int x_6), (2, .int (nI nn)), (1, .ref (zo z)), (0, .ref a0)]) hx hb dL_law_79 hl (by decide) rfl (fun ls hl => ?_)
  refine lv_iconst (v := nI 1) hx hb dL_law_81 (by decide) ?_
  refine lv_iload_n hx hb dL_law_82 rfl (lv_at hl 1 rfl) ?_
  refine lv_iconst (v := nI 3) hx hb dL_law_83 (by decide) ?_
  refine lv_ishr hx hb dL_law_84 ?_
  refine lv_iconst (v := nI 4) hx hb dL_law_85 (by decide) ?_
  refine zrP (As := [.int (x_6 >>> ((nI 3) &&& 31)), .int (nI 4)]) (rest := [.int (nI 1)]) hx hb hml hown hts (c_L_low l (x_6 >>> ((nI 3) &&& 31)) 4 (by omega)) 2 gL_law_L_low rfl hdL_low ⟨Nat.le_of_ble_eq_true rfl, Nat.le_of_ble_eq_true rfl⟩ rfl hl.1 rfl (Nat.le_of_ble_eq_true rfl) dL_law_86 ⟨Nat.le_refl _, Nat.le_refl _⟩ (fun x_29 q_30 => ?_)
  obtain ⟨j_28, ej_28, hj_28⟩ : ∃ j : Nat, j = zlw (x_6 >>> ((nI 3) &&& 31)) 4 ∧ j < 4 := ⟨_, rfl, zlw_lt _ (by omega)⟩
  rw [q_30, ← ej_28]
  refine xr_iadd_n hx hb dL_law_89 ?_
  refine lv_istore (lv' := [(5, .int (nI (1 + j_28))), (4, .int (nI j_25)), (3, .int x_6), (2, .int (nI nn)), (1, .ref (zo z)), (0, .ref a0)]) hx hb dL_law_90 hl (by decide) rfl (fun ls hl => ?_)
  refine lv_iload_n hx hb dL_law_92 rfl (lv_at hl 2 rfl) ?_
  refine lv_iconst (v := nI 5) hx hb dL_law_93 (by decide) ?_
  refine lv_ishr hx hb dL_law_94 ?_
  refine lv_bipush (v := nI 60) hx hb dL_law_95 (by decide) ?_
  refine zrP (As := [.int (x_6 >>> ((nI 5) &&& 31)), .int (nI 60)]) (rest := []) hx hb hml hown hts (c_L_low l (x_6 >>> ((nI 5) &&& 31)) 60 (by omega)) 2 gL_law_L_low rfl hdL_low ⟨Nat.le_of_ble_eq_true rfl, Nat.le_of_ble_eq_true rfl⟩ rfl hl.1 rfl (Nat.le_of_ble_eq_true rfl) dL_law_97 ⟨Nat.le_refl _, Nat.le_refl _⟩ (fun x_32 q_33 => ?_)
  obtain ⟨j_31, ej_31, hj_31⟩ : ∃ j : Nat, j = zlw (x_6 >>> ((nI 5) &&& 31)) 60 ∧ j < 60 := ⟨_, rfl, zlw_lt _ (by omega)⟩
  rw [q_33, ← ej_31]
  refine lv_istore (lv' := [(6, .int (nI j_31)), (5, .int (nI (1 + j_28))), (4, .int (nI j_25)), (3, .int x_6), (2, .int (nI nn)), (1, .ref (zo z)), (0, .ref a0)]) hx hb dL_law_100 hl (by decide) rfl (fun ls hl => ?_)
  refine zrJ2 (D := (dC, dI)) (z := z) (A := A) (H0 := H0) (J := XM) (lv := fun J9 => [(6, .int (nI j_31)), (5, .int (nI (1 + j_28))), (4, .int (nI j_25)), (3, .int x_6), (2, .int (nI nn)), (1, .ref (zo z)), (0, .ref a0)]) (K := fun J9 => ∃ T' : Nat → Nat → Int32, mT J9 = T' ∧ Iv nn 0 0 0 0 0 0 T' ∧ mH J9 [] ∧ T' 38 1 = nI 4 ∧ T' 38 2 = nI 50) (Mf := fun J9 => J9) (nL := 14) (pcj := 123) (fun jn_34 => ?_) ?_
  · skip
    by_cases esame : j_25 = 0
    · skip
      refine lv_aload_n hx hb dL_law_102 rfl (lv_at hl 5 rfl) ?_
      refine lv_iconst (v := nI 0) hx hb dL_law_103 (by decide) ?_
      refine lv_iload hx hb dL_law_104 (lv_at hl 2 rfl) ?_
      refine zrV (M := J9) (M' := J9) (x := (-5)) (As := [.int (nI 0), .int (nI j_25)]) (rest := []) hx hb hml hown hts hN hK (ua_setN l dC dI z e3 (show 0 < 3 by omega) (zis0 (by omega)) (by rw [esame]; exact (by rw [C3]; rfl))) 2 gL_law_X9_set rfl hdV_X9_set ⟨Nat.le_of_ble_eq_true rfl, Nat.le_of_ble_eq_true rfl⟩ hP hD hS rfl hl.1 rfl (Nat.le_of_ble_eq_true rfl) dL_law_106 ⟨Nat.le_refl _, Nat.le_refl _⟩ (fun H locs hP hD hS => ?_)
      refine lv_iload hx hb dL_law_109 (lv_at hl 2 rfl) ?_
      refine xr_zne_n (tgt := 119) hx hb (by omega) dL_law_111 (by decide) (fun c_35 => False.elim (by omega)) (fun c_35 => ?_)
      refine lv_bipush (v := (-5)) hx hb dL_law_114 (by decide) ?_
      refine lv_goto (tgt := 120) hx hb dL_law_116 (by decide) ?_
      refine lv_icmp_ne (tgt := 169) hx hb dL_law_120 (by decide) (fun c_36 => False.elim (by exact c_36 rfl)) (fun c_36 => ?_)
      exact jn_34 J9 H locs ls (⟨T3, e3, I3, H3, ⟨by rw [C3]; rfl, by rw [C3]; rfl⟩⟩) hP hD hS (lv_sub hl [0, 1, 2, 3, 4, 5, 6] rfl)
    refine lv_aload_n hx hb dL_law_102 rfl (lv_at hl 5 rfl) ?_
    refine lv_iconst (v := nI 0) hx hb dL_law_103 (by decide) ?_
    refine lv_iload hx hb dL_law_104 (lv_at hl 2 rfl) ?_
    obtain ⟨Mx, kx, ex, Hx⟩ := ua_set l dC dI z e3 H3 (Nat.le_of_ble_eq_true rfl) (show 0 < 3 by omega) (zis0 (by omega)) (fun q => esame (nI_inj (by omega) (by omega) (q.symm.trans (by rw [C3]; rfl))))
    obtain ⟨Tx, hTx⟩ : ∃ x, x = xT T3 38 (upd (T3 38) 0 (nI j_25)) := ⟨_, rfl⟩
    rw [← hTx] at ex
    have Ix : Iv nn 0 0 0 0 0 0 Tx := by rw [hTx]; exact I3.set (Or.inl ⟨rfl, by omega⟩)
    refine zrV (M := J9) (M' := Mx) (x := nI 0) (As := [.int (nI 0), .int (nI j_25)]) (rest := []) hx hb hml hown hts hN hK (zX.r kx (by rw [C3]; rfl)) 2 gL_law_X9_set rfl hdV_X9_set ⟨Nat.le_of_ble_eq_true rfl, Nat.le_of_ble_eq_true rfl⟩ hP hD hS rfl hl.1 rfl (Nat.le_of_ble_eq_true rfl) dL_law_106 ⟨Nat.le_refl _, Nat.le_refl _⟩ (fun H locs hP hD hS => ?_)
    refine lv_iload hx hb dL_law_109 (lv_at hl 2 rfl) ?_
    refine xr_zne_n (tgt := 119) hx hb (by omega) dL_law_111 (by decide) (fun c_37 => ?_) (fun c_37 => False.elim (by omega))
    refine lv_iconst (v := nI 0) hx hb dL_law_119 (by decide) ?_
    refine xr_ne_n (a := 0) (b := 0) (tgt := 169) hx hb (by decide) (by decide) dL_law_120 (by decide) (fun c9 => absurd c9 (by decide)) (fun _ => ?_)
    exact jn_34 Mx H locs ls (⟨Tx, ex, Ix, Hx.less, ⟨by rw [hTx, C3]; rfl, by rw [hTx, C3]; rfl⟩⟩) hP hD hS (lv_sub hl [0, 1, 2, 3, 4, 5, 6] rfl)
  intro J9 H locs ls hJ9 hP hD hS hl
  obtain ⟨T4, e4, I4, H4, C4⟩ := hJ9
  have n4 := I4.n1
  refine zrJ2 (D := (dC, dI)) (z := z) (A := A) (H0 := H0) (J := XM) (lv := fun J9 => [(6, .int (nI j_31)), (5, .int (nI (1 + j_28))), (4, .int (nI j_25)), (3, .int x_6), (2, .int (nI nn)), (1, .ref (zo z)), (0, .ref a0)]) (K := fun J9 => ∃ T' : Nat → Nat → Int32, mT J9 = T' ∧ Iv nn 0 0 0 0 0 0 T' ∧ mH J9 [] ∧ T' 38 2 = nI 50) (Mf := fun J9 => J9) (nL := 14) (pcj := 145) (fun jn_38 => ?_) ?_
  · skip
    by_cases esame : 1 + j_28 = 4
    · skip
      refine lv_aload_n hx hb dL_law_123 rfl (lv_at hl 5 rfl) ?_
      refine lv_iconst (v := nI 1) hx hb dL_law_124 (by decide) ?_
      refine lv_iload hx hb dL_law_125 (lv_at hl 1 rfl) ?_
      refine zrV (M := J9) (M' := J9) (x := (-5)) (As := [.int (nI 1), .int (nI (1 + j_28))]) (rest := []) hx hb hml hown hts hN hK (ua_setN l dC dI z e4 (show 1 < 3 by omega) (zis1 (by omega) (by omega)) (by rw [esame]; exact C4.1)) 2 gL_law_X9_set rfl hdV_X9_set ⟨Nat.le_of_ble_eq_true rfl, Nat.le_of_ble_eq_true rfl⟩ hP hD hS rfl hl.1 rfl (Nat.le_of_ble_eq_true rfl) dL_law_127 ⟨Nat.le_refl _, Nat.le_refl _⟩ (fun H locs hP hD hS => ?_)
      refine lv_iload hx hb dL_law_130 (lv_at hl 1 rfl) ?_
      refine lv_iconst (v := nI 4) hx hb dL_law_132 (by decide) ?_
      refine xr_ne_n (tgt := 141) hx hb (by omega) (by omega) dL_law_133 (by decide) (fun c_39 => False.elim (by exact c_39 esame)) (fun c_39 => ?_)
      refine lv_bipush (v := (-5)) hx hb dL_law_136 (by decide) ?_
      refine lv_goto (tgt := 142) hx hb dL_law_138 (by decide) ?_
      refine lv_icmp_ne (tgt := 169) hx hb dL_law_142 (by decide) (fun c_40 => False.elim (by exact c_40 rfl)) (fun c_40 => ?_)
      exact jn_38 J9 H locs ls (⟨T4, e4, I4, H4, C4.2⟩) hP hD hS (lv_sub hl [0, 1, 2, 3, 4, 5, 6] rfl)
    refine lv_aload_n hx hb dL_law_123 rfl (lv_at hl 5 rfl) ?_
    refine lv_iconst (v := nI 1) hx hb dL_law_124 (by decide) ?_
    refine lv_iload hx hb dL_law_125 (lv_at hl 1 rfl) ?_
    obtain ⟨Mx, kx, ex, Hx⟩ := ua_set l dC dI z e4 H4 (Nat.le_of_ble_eq_true rfl) (show 1 < 3 by omega) (zis1 (by omega) (by omega)) (fun q => esame (nI_inj (by omega) (by omega) (q.symm.trans C4.1)))
    obtain ⟨Tx, hTx⟩ : ∃ x, x = xT T4 38 (upd (T4 38) 1 (nI (1 + j_28))) := ⟨_, rfl⟩
    rw [← hTx] at ex
    have Ix : Iv nn 0 0 0 0 0 0 Tx := by rw [hTx]; exact I4.set (Or.inr (Or.inl ⟨rfl, by omega, by omega⟩))
    refine zrV (M := J9) (M' := Mx) (x := nI 4) (As := [.int (nI 1), .int (nI (1 + j_28))]) (rest := []) hx hb hml hown hts hN hK (zX.r kx C4.1) 2 gL_law_X9_set rfl hdV_X9_set ⟨Nat.le_of_ble_eq_true rfl, Nat.le_of_ble_eq_true rfl⟩ hP hD hS rfl hl.1 rfl (Nat.le_of_ble_eq_true rfl) dL_law_127 ⟨Nat.le_refl _, Nat.le_refl _⟩ (fun H locs hP hD hS => ?_)
    refine lv_iload hx hb dL_law_130 (lv_at hl 1 rfl) ?_
    refine lv_iconst (v := nI 4) hx hb dL_law_132 (by decide) ?_
    refine xr_ne_n (tgt := 141) hx hb (by omega) (by omega) dL_law_133 (by decide) (fun c_41 => ?_) (fun c_41 => False.elim (by exact esame c_41))
    refine lv_iconst (v := nI 4) hx hb dL_law_141 (by decide) ?_
    refine xr_ne_n (a := 4) (b := 4) (tgt := 169) hx hb (by decide) (by decide) dL_law_142 (by decide) (fun c9 => absurd c9 (by decide)) (fun _ => ?_)
    exact jn_38 Mx H locs ls (⟨Tx, ex, Ix, Hx.less, (by rw [hTx]; exact C4.2)⟩) hP hD hS (lv_sub hl [0, 1, 2, 3, 4, 5, 6] rfl)
  intro J9 H locs ls hJ9 hP hD hS hl
  obtain ⟨T5, e5, I5, H5, C5⟩ := hJ9
  have n5 := I5.n1
  refine zrJ2 (D := (dC, dI)) (z := z) (A := A) (H0 := H0) (J := XM) (lv := fun J9 => [(6, .int (nI j_31)), (5, .int (nI (1 + j_28))), (4, .int (nI j_25)), (3, .int x_6), (2, .int (nI nn)), (1, .ref (zo z)), (0, .ref a0)]) (K := fun J9 => ∃ T' : Nat → Nat → Int32, mT J9 = T' ∧ Iv nn 0 0 0 0 0 0 T' ∧ mH J9 []) (Mf := fun J9 => J9) (nL := 14) (pcj := 171) (fun jn_42 => ?_) ?_
  · skip
    by_cases esame : j_31 = 50
    · skip
      refine lv_aload_n hx hb dL_law_145 rfl (lv_at hl 5 rfl) ?_
      refine lv_iconst (v := nI 2) hx hb dL_law_146 (by decide) ?_
      refine lv_iload hx hb dL_law_147 (lv_at hl 0 rfl) ?_
      refine zrV (M := J9) (M' := J9) (x := (-5)) (As := [.int (nI 2), .int (nI j_31)]) (rest := []) hx hb hml hown hts hN hK (ua_setN l dC dI z e5 (show 2 < 3 by omega) (zis2 (by omega)) (by rw [esame]; exact C5)) 2 gL_law_X9_set rfl hdV_X9_set ⟨Nat.le_of_ble_eq_true rfl, Nat.le_of_ble_eq_true rfl⟩ hP hD hS rfl hl.1 rfl (Nat.le_of_ble_eq_true rfl) dL_law_149 ⟨Nat.le_refl _, Nat.le_refl _⟩ (fun H locs hP hD hS => ?_)
      refine lv_iload hx hb dL_law_152 (lv_at hl 0 rfl) ?_
      refine lv_bipush (v := nI 50) hx hb dL_law_154 (by decide) ?_
      refine xr_ne_n (tgt := 164) hx hb (by omega) (by omega) dL_law_156 (by decide) (fun c_43 => False.elim (by exact c_43 esame)) (fun c_43 => ?_)
      refine lv_bipush (v := (-5)) hx hb dL_law_159 (by decide) ?_
      refine lv_goto (tgt := 166) hx hb dL_law_161 (by decide) ?_
      refine lv_icmp_eq (tgt := 171) hx hb dL_law_166 (by decide) (fun c_44 => ?_) (fun c_44 => False.elim (by exact c_44 rfl))
      exact jn_42 J9 H locs ls (⟨T5, e5, I5, H5⟩) hP hD hS (lv_sub hl [0, 1, 2, 3, 4, 5, 6] rfl)
    refine lv_aload_n hx hb dL_law_145 rfl (lv_at hl 5 rfl) ?_
    refine lv_iconst (v := nI 2) hx hb dL_law_146 (by decide) ?_
    refine lv_iload hx hb dL_law_147 (lv_at hl 0 rfl) ?_
    obtain ⟨Mx, kx, ex, Hx⟩ := ua_set l dC dI z e5 H5 (Nat.le_of_ble_eq_true rfl) (show 2 < 3 by omega) (zis2 (by omega)) (fun q => esame (nI_inj (by omega) (by omega) (q.symm.trans C5)))
    obtain ⟨Tx, hTx⟩ : ∃ x, x = xT T5 38 (upd (T5 38) 2 (nI j_31)) := ⟨_, rfl⟩
    rw [← hTx] at ex
    have Ix : Iv nn 0 0 0 0 0 0 Tx := by rw [hTx]; exact I5.set (Or.inr (Or.inr ⟨rfl, by omega⟩))
    refine zrV (M := J9) (M' := Mx) (x := nI 50) (As := [.int (nI 2), .int (nI j_31)]) (rest := []) hx hb hml hown hts hN hK (zX.r kx C5) 2 gL_law_X9_set rfl hdV_X9_set ⟨Nat.le_of_ble_eq_true rfl, Nat.le_of_ble_eq_true rfl⟩ hP hD hS rfl hl.1 rfl (Nat.le_of_ble_eq_true rfl) dL_law_149 ⟨Nat.le_refl _, Nat.le_refl _⟩ (fun H locs hP hD hS => ?_)
    refine lv_iload hx hb dL_law_152 (lv_at hl 0 rfl) ?_
    refine lv_bipush (v := nI 50) hx hb dL_law_154 (by decide) ?_
    refine xr_ne_n (tgt := 164) hx hb (by omega) (by omega) dL_law_156 (by decide) (fun c_45 => ?_) (fun c_45 => False.elim (by exact esame c_45))
    refine lv_bipush (v := nI 50) hx hb dL_law_164 (by decide) ?_
    refine xr_eq_n (a := 50) (b := 50) (tgt := 171) hx hb (by decide) (by decide) dL_law_166 (by decide) (fun _ => ?_) (fun c9 => absurd c9 (by decide))
    exact jn_42 Mx H locs ls (⟨Tx, ex, Ix, Hx.less⟩) hP hD hS (lv_sub hl [0, 1, 2, 3, 4, 5, 6] rfl)
  intro J9 H locs ls hJ9 hP hD hS hl
  obtain ⟨T6, e6, I6, H6⟩ := hJ9
  have n6 := I6.n1
  refine lv_iconst (v := nI 0) hx hb dL_law_171 (by decide) ?_
  refine lv_istore (lv' := [(7, .int (nI 0)), (6, .int (nI j_31)), (5, .int (nI (1 + j_28))), (4, .int (nI j_25)), (3, .int x_6), (2, .int (nI nn)), (1, .ref (zo z)), (0, .ref a0)]) hx hb dL_law_172 hl (by decide) rfl (fun ls hl => ?_)
  refine xr_loop (J := Nat) (fun n0 H locs g => ∃ (e9 : Nat) (M5 : XM) (bz : Nat) (oz : Nat) (tk : Nat) (lz : Nat) (nx : Nat) (dy : Nat) (T5 : Nat → Nat → Int32) (ls : Array Slot), n0 = 16 - e9 + 1 ∧ g = F0 m 174 ls [] ∧ lv_has ls 14 [(7, .int (nI e9)), (6, .int (nI j_31)), (5, .int (nI (1 + j_28))), (4, .int (nI j_25)), (3, .int x_6), (2, .int (nI nn)), (1, .ref (zo z)), (0, .ref a0)] ∧ va_P (dC, dI) vwCl (cw z M5) H ∧ va_D A (cw z M5) ∧ va_S A H0 H locs ∧ (e9 ≤ 16 ∧ bz ≤ e9 ∧ oz ≤ e9 ∧ dy ≤ 6 * e9) ∧ (mT M5 = T5) ∧ (Iv nn bz oz tk lz nx dy T5) ∧ (mH M5 [])) (fun n => n) ?_ (16 - 0 + 1) (g := F0 m 174 ls []) ⟨0, J9, 0, 0, 0, 0, 0, 0, T6, ls, rfl, rfl, lv_sub hl [0, 1, 2, 3, 4, 5, 6, 7] rfl, hP, hD, hS, (⟨by omega, by omega, by omega, by omega⟩), e6, I6, H6⟩
  intro n0 ih_174 H locs g hp
  obtain ⟨e9, M5, bz, oz, tk, lz, nx, dy, T5, ls, rfl, rfl, hl, hP, hD, hS, he9, e5, I5, H5⟩ := hp
  refine lv_iload hx hb dL_law_174 (lv_at hl 0 rfl) ?_
  refine lv_bipush (v := nI 16) hx hb dL_law_176 (by decide) ?_
  refine xr_ge_n (tgt := 496) hx hb (by omega) (by omega) dL_law_178 (by decide) (fun c_46 => ?_) (fun c_46 => ?_)
  · skip
    refine lv_iconst (v := nI 1) hx hb dL_law_496 (by decide) ?_
    exact hend H locs ls hS
  refine lv_aload_n hx hb dL_law_181 rfl (lv_at hl 7 rfl) ?_
  refine lv_bipush (v := nI 16) hx hb dL_law_182 (by decide) ?_
  refine lv_iload hx hb dL_law_184 (lv_at hl 0 rfl) ?_
  refine xr_iadd_n hx hb dL_law_186 ?_
  refine zrC (As := [.ref a0, .int (nI (16 + e9))]) (rest := []) hx hb hml hown hts hX hbl hbA hS (c_L_cell l a0 L0 xs (16 + e9) (by omega) hL) 2 gL_law_L_cell rfl hdL_cell ⟨Nat.le_of_ble_eq_true rfl, Nat.le_of_ble_eq_true rfl⟩ rfl hl.1 rfl (Nat.le_of_ble_eq_true rfl) dL_law_187 ⟨Nat.le_refl _, Nat.le_refl _⟩ (fun x_47 q_48 => ?_)
  refine lv_istore (lv' := [(8, .int x_47), (7, .int (nI e9)), (6, .int (nI j_31)), (5, .int (nI (1 + j_28))), (4, .int (nI j_25)), (3, .int x_6), (2, .int (nI nn)), (1, .ref (zo z)), (0, .ref a0)]) hx hb dL_law_190 hl (by decide) rfl (fun ls hl => ?_)
  refine lv_iload hx hb dL_law_192 (lv_at hl 0 rfl) ?_
  refine lv_iconst (v := nI 3) hx hb dL_law_194 (by decide) ?_
  refine lv_ishr hx hb dL_law_195 ?_
  refine lv_iload_n hx hb dL_law_196 rfl (lv_at hl 6 rfl) ?_
  refine zrP (As := [.int (x_47 >>> ((nI 3) &&& 31)), .int (nI nn)]) (rest := []) hx hb hml hown hts (c_L_low l (x_47 >>> ((nI 3) &&& 31)) nn (by omega)) 2 gL_law_L_low rfl hdL_low ⟨Nat.le_of_ble_eq_true rfl, Nat.le_of_ble_eq_true rfl⟩ rfl hl.1 rfl (Nat.le_of_ble_eq_true rfl) dL_law_197 ⟨Nat.le_refl _, Nat.le_refl _⟩ (fun x_50 q_51 => ?_)
  obtain ⟨j_49, ej_49, hj_49⟩ : ∃ j : Nat, j = zlw (x_47 >>> ((nI 3) &&& 31)) nn ∧ j < nn := ⟨_, rfl, zlw_lt _ (by omega)⟩
  rw [q_51, ← ej_49]
  refine lv_istore (lv' := [(9, .int (nI j_49)), (8, .int x_47), (7, .int (nI e9)), (6, .int (nI j_31)), (5, .int (nI (1 + j_28))), (4, .int (nI j_25)), (3, .int x_6), (2, .int (nI nn)), (1, .ref (zo z)), (0, .ref a0)]) hx hb dL_law_200 hl (by decide) rfl (fun ls hl => ?_)
  refine lv_iconst (v := nI 1) hx hb dL_law_202 (by decide) ?_
  refine lv_istore (lv' := [(10, .int (nI 1)), (9, .int (nI j_49)), (8, .int x_47), (7, .int (nI e9)), (6, .int (nI j_31)), (5, .int (nI (1 + j_28))), (4, .int (nI j_25)), (3, .int x_6), (2, .int (nI nn)), (1, .ref (zo z)), (0, .ref a0)]) hx hb dL_law_203 hl (by decide) rfl (fun ls hl => ?_)
  refine lv_iload hx hb dL_law_205 (lv_at hl 2 rfl) ?_
  refine lv_bipush (v := nI 8) hx hb dL_law_207 (by decide) ?_
  refine zrP (As := [.int x_47, .int (nI 8)]) (rest := []) hx hb hml hown hts (c_L_low l x_47 8 (by omega)) 2 gL_law_L_low rfl hdL_low ⟨Nat.le_of_ble_eq_true rfl, Nat.le_of_ble_eq_true rfl⟩ rfl hl.1 rfl (Nat.le_of_ble_eq_true rfl) dL_law_209 ⟨Nat.le_refl _, Nat.le_refl _⟩ (fun x_53 q_54 => ?_)
  obtain ⟨j_52, ej_52, hj_52⟩ : ∃ j : Nat, j = zlw x_47 8 ∧ j < 8 := ⟨_, rfl, zlw_lt _ (by omega)⟩
  rw [q_54, ← ej_52]
  by_cases cs_55 : nI j_52 = nI 0
  · skip
    refine lv_tableIn (tgt := 256) hx hb dL_law_212 (by rw [cs_55]; decide) (by rw [cs_55]; decide) (by rw [cs_55]; rfl) (by decide) ?_
    obtain ⟨-, ⟨lf, lf1, lfE⟩, -⟩ := I5.G (show j_49 < nn by omega)
    refine lv_aload_n hx hb dL_law_256 rfl (lv_at hl 9 rfl) ?_
    refine lv_iconst (v := nI 2) hx hb dL_law_257 (by decide) ?_
    refine zrV (M := M5) (M' := M5) (x := nI bz) (As := [.int (nI 2)]) (rest := []) hx hb hml hown hts hN hK (t_count2 l dC dI z e5 I5 H5) 1 gL_law_X9_count rfl hdV_X9_count ⟨Nat.le_of_ble_eq_true rfl, Nat.le_of_ble_eq_true rfl⟩ hP hD hS rfl hl.1 rfl (Nat.le_of_ble_eq_true rfl) dL_law_258 ⟨Nat.le_refl _, Nat.le_refl _⟩ (fun H locs hP hD hS => ?_)
    refine lv_istore (lv' := [(11, .int (nI bz)), (10, .int (nI 1)), (9, .int (nI j_49)), (8, .int x_47), (7, .int (nI e9)), (6, .int (nI j_31)), (5, .int (nI (1 + j_28))), (4, .int (nI j_25)), (3, .int x_6), (2, .int (nI nn)), (1, .ref (zo z)), (0, .ref a0)]) hx hb dL_law_261 hl (by decide) rfl (fun ls hl => ?_)
    refine lv_iconst (v := nI 1) hx hb dL_law_263 (by decide) ?_
    refine lv_iload hx hb dL_law_264 (lv_at hl 3 rfl) ?_
    refine lv_bipush (v := nI 6) hx hb dL_law_266 (by decide) ?_
    refine lv_ishr hx hb dL_law_268 ?_
    refine lv_bipush (v := nI 90) hx hb dL_law_269 (by decide) ?_
    refine zrP (As := [.int (x_47 >>> ((nI 6) &&& 31)), .int (nI 90)]) (rest := [.int (nI 1)]) hx hb hml hown hts (c_L_low l (x_47 >>> ((nI 6) &&& 31)) 90 (by omega)) 2 gL_law_L_low rfl hdL_low ⟨Nat.le_of_ble_eq_true rfl, Nat.le_of_ble_eq_true rfl⟩ rfl hl.1 rfl (Nat.le_of_ble_eq_true rfl) dL_law_271 ⟨Nat.le_refl _, Nat.le_refl _⟩ (fun x_57 q_58 => ?_)
    obtain ⟨j_56, ej_56, hj_56⟩ : ∃ j : Nat, j = zlw (x_47 >>> ((nI 6) &&& 31)) 90 ∧ j < 90 := ⟨_, rfl, zlw_lt _ (by omega)⟩
    rw [q_58, ← ej_56]
    refine xr_iadd_n hx hb dL_law_274 ?_
    refine lv_istore (lv' := [(12, .int (nI (1 + j_56))), (11, .int (nI bz)), (10, .int (nI 1)), (9, .int (nI j_49)), (8, .int x_47), (7, .int (nI e9)), (6, .int (nI j_31)), (5, .int (nI (1 + j_28))), (4, .int (nI j_25)), (3, .int x_6), (2, .int (nI nn)), (1, .ref (zo z)), (0, .ref a0)]) hx hb dL_law_275 hl (by decide) rfl (fun ls hl => ?_)
    refine lv_iconst (v := nI 1) hx hb dL_law_277 (by decide) ?_
    refine lv_iload hx hb dL_law_278 (lv_at hl 4 rfl) ?_
    refine lv_bipush (v := nI 13) hx hb dL_law_280 (by decide) ?_
    refine lv_ishr hx hb dL_law_282 ?_
    refine lv_aload_n hx hb dL_law_283 rfl (lv_at hl 11 rfl) ?_
    refine lv_iload hx hb dL_law_284 (lv_at hl 3 rfl) ?_
    refine lv_iconst (v := nI 1) hx hb dL_law_286 (by decide) ?_
    refine zrV (M := M5) (M' := M5) (x := nI lf) (As := [.int (nI j_49), .int (nI 1)]) (rest := [.int (x_47 >>> ((nI 13) &&& 31)), .int (nI 1)]) hx hb hml hown hts hN hK (zX.r (t_good1 l dC dI z e5 I5 (by omega)) lfE) 2 gL_law_X9_good rfl hdV_X9_good ⟨Nat.le_of_ble_eq_true rfl, Nat.le_of_ble_eq_true rfl⟩ hP hD hS rfl hl.1 rfl (Nat.le_of_ble_eq_true rfl) dL_law_287 ⟨Nat.le_refl _, Nat.le_refl _⟩ (fun H locs hP hD hS => ?_)
    refine zrP (As := [.int (x_47 >>> ((nI 13) &&& 31)), .int (nI lf)]) (rest := [.int (nI 1)]) hx hb hml hown hts (c_L_low l (x_47 >>> ((nI 13) &&& 31)) lf (by omega)) 2 gL_law_L_low rfl hdL_low ⟨Nat.le_of_ble_eq_true rfl, Nat.le_of_ble_eq_true rfl⟩ rfl hl.1 rfl (Nat.le_of_ble_eq_true rfl) dL_law_290 ⟨Nat.le_refl _, Nat.le_refl _⟩ (fun x_60 q_61 => ?_)
    obtain ⟨j_59, ej_59, hj_59⟩ : ∃ j : Nat, j = zlw (x_47 >>> ((nI 13) &&& 31)) lf ∧ j < lf := ⟨_, rfl, zlw_lt _ (by omega)⟩
    rw [q_61, ← ej_59]
    refine xr_iadd_n hx hb dL_law_293 ?_
    refine lv_istore (lv' := [(13, .int (nI (1 + j_59))), (12, .int (nI (1 + j_56))), (11, .int (nI bz)), (10, .int (nI 1)), (9, .int (nI j_49)), (8, .int x_47), (7, .int (nI e9)), (6, .int (nI j_31)), (5, .int (nI (1 + j_28))), (4, .int (nI j_25)), (3, .int x_6), (2, .int (nI nn)), (1, .ref (zo z)), (0, .ref a0)]) hx hb dL_law_294 hl (by decide) rfl (fun ls hl => ?_)
    refine lv_aload_n hx hb dL_law_296 rfl (lv_at hl 12 rfl) ?_
    refine lv_iload hx hb dL_law_297 (lv_at hl 4 rfl) ?_
    refine lv_iload hx hb dL_law_299 (lv_at hl 1 rfl) ?_
    refine lv_iload hx hb dL_law_301 (lv_at hl 0 rfl) ?_
    obtain ⟨M6, k6, e6, H6⟩ := ua_bring l dC dI z e5 I5 H5 (Nat.le_of_ble_eq_true rfl) (show j_49 < nn by omega) (⟨by omega, by omega⟩ : 1 ≤ 1 + j_56 ∧ 1 + j_56 ≤ 90) lfE (by omega) (⟨by omega, by omega⟩ : 1 ≤ 1 + j_59 ∧ 1 + j_59 ≤ lf)
    have I6 := I5.bring (kg := j_49) (u := 1 + j_56) (d := 1 + j_59) (by omega) (by omega) (by omega) ⟨by omega, by omega⟩
    obtain ⟨T6, hT6⟩ : ∃ x, x = brT T5 nn bz lz nx j_49 (nI (1 + j_56)) (nI (1 + j_59)) := ⟨_, rfl⟩
    rw [← hT6] at e6 I6
    have w8 : T6 8 bz = nI (1 + j_59) := by rw [hT6]; exact upd_at _ _ _
    have w9 : T6 9 bz = nI (1 + j_56) := by rw [hT6]; exact upd_at _ _ _
    refine zrV (M := M5) (M' := M6) (x := nI bz) (As := [.int (nI j_49), .int (nI (1 + j_56)), .int (nI (1 + j_59))]) (rest := []) hx hb hml hown hts hN hK (k6) 3 gL_law_X9_bring rfl hdV_X9_bring ⟨Nat.le_of_ble_eq_true rfl, Nat.le_of_ble_eq_true rfl⟩ hP hD hS rfl hl.1 rfl (Nat.le_of_ble_eq_true rfl) dL_law_303 ⟨Nat.le_refl _, Nat.le_refl _⟩ (fun H locs hP hD hS => ?_)
    refine lv_iload hx hb dL_law_306 (lv_at hl 2 rfl) ?_
    refine xr_ne_n (tgt := 339) hx hb (by omega) (by omega) dL_law_308 (by decide) (fun c_62 => False.elim (by exact c_62 rfl)) (fun c_62 => ?_)
    refine lv_aload_n hx hb dL_law_311 rfl (lv_at hl 12 rfl) ?_
    refine lv_iload hx hb dL_law_312 (lv_at hl 2 rfl) ?_
    refine lv_iconst (v := nI 2) hx hb dL_law_314 (by decide) ?_
    refine zrV (M := M6) (M' := M6) (x := T6 8 bz) (As := [.int (nI bz), .int (nI 2)]) (rest := []) hx hb hml hown hts hN hK (t_batch2 l dC dI z e6 I6 (by omega)) 2 gL_law_X9_batch rfl hdV_X9_batch ⟨Nat.le_of_ble_eq_true rfl, Nat.le_of_ble_eq_true rfl⟩ hP hD hS rfl hl.1 rfl (Nat.le_of_ble_eq_true rfl) dL_law_315 ⟨Nat.le_refl _, Nat.le_refl _⟩ (fun H locs hP hD hS => ?_)
    refine lv_iload hx hb dL_law_318 (lv_at hl 0 rfl) ?_
    refine lv_icmp_ne (tgt := 339) hx hb dL_law_320 (by decide) (fun c_63 => False.elim (by exact c_63 w8)) (fun c_63 => ?_)
    refine lv_aload_n hx hb dL_law_323 rfl (lv_at hl 12 rfl) ?_
    refine lv_iload hx hb dL_law_324 (lv_at hl 2 rfl) ?_
    refine lv_iconst (v := nI 3) hx hb dL_law_326 (by decide) ?_
    refine zrV (M := M6) (M' := M6) (x := T6 9 bz) (As := [.int (nI bz), .int (nI 3)]) (rest := []) hx hb hml hown hts hN hK (t_batch3 l dC dI z e6 I6 (by omega)) 2 gL_law_X9_batch rfl hdV_X9_batch ⟨Nat.le_of_ble_eq_true rfl, Nat.le_of_ble_eq_true rfl⟩ hP hD hS rfl hl.1 rfl (Nat.le_of_ble_eq_true rfl) dL_law_327 ⟨Nat.le_refl _, Nat.le_refl _⟩ (fun H locs hP hD hS => ?_)
    refine lv_iload hx hb dL_law_330 (lv_at hl 1 rfl) ?_
    refine lv_icmp_ne (tgt := 339) hx hb dL_law_332 (by decide) (fun c_64 => False.elim (by exact c_64 w9)) (fun c_64 => ?_)
    refine lv_iconst (v := nI 1) hx hb dL_law_335 (by decide) ?_
    refine lv_goto (tgt := 340) hx hb dL_law_336 (by decide) ?_
    refine lv_istore (lv' := [(10, .int (nI 1)), (13, .int (nI (1 + j_59))), (12, .int (nI (1 + j_56))), (11, .int (nI bz)), (9, .int (nI j_49)), (8, .int x_47), (7, .int (nI e9)), (6, .int (nI j_31)), (5, .int (nI (1 + j_28))), (4, .int (nI j_25)), (3, .int x_6), (2, .int (nI nn)), (1, .ref (zo z)), (0, .ref a0)]) hx hb dL_law_340 hl (by decide) rfl (fun ls hl => ?_)
    refine lv_goto (tgt := 475) hx hb dL_law_342 (by decide) ?_
    refine lv_iload hx hb dL_law_475 (lv_at hl 0 rfl) ?_
    refine xr_if1 (tgt := 488) hx hb (by decide) dL_law_477 (by decide) ?_
    refine lv_aload_n hx hb dL_law_480 rfl (lv_at hl 12 rfl) ?_
    refine lv_iload_n hx hb dL_law_481 rfl (lv_at hl 11 rfl) ?_
    refine zrS (M := M6) (As := [.ref (zo z), .int (nI nn)]) (rest := []) hx hb hml hown hts hN hK (c_L_addUp l dC dI z e6 I6 H6) 2 gL_law_L_addUp rfl hdL_addUp ⟨Nat.le_of_ble_eq_true rfl, Nat.le_of_ble_eq_true rfl⟩ hP hD hS rfl hl.1 rfl (Nat.le_of_ble_eq_true rfl) dL_law_482 ⟨Nat.le_refl _, Nat.le_refl _⟩ (fun x_65 M_67 H locs q_66 hP hD hS => ?_)
    obtain ⟨q_66, q8⟩ := q_66
    rw [q8] at hP hD
    rw [q_66]
    refine xr_ifn1 (tgt := 490) hx hb (by decide) dL_law_485 (by decide) ?_
    refine lv_iinc (v := nI (e9 + 1)) (lv' := [(7, .int (nI (e9 + 1))), (10, .int (nI 1)), (13, .int (nI (1 + j_59))), (12, .int (nI (1 + j_56))), (11, .int (nI bz)), (9, .int (nI j_49)), (8, .int x_47), (6, .int (nI j_31)), (5, .int (nI (1 + j_28))), (4, .int (nI j_25)), (3, .int x_6), (2, .int (nI nn)), (1, .ref (zo z)), (0, .ref a0)]) hx hb dL_law_490 hl (k := 6) rfl (nI_inc1 e9) (by decide) rfl (fun ls hl => ?_)
    refine lv_goto (tgt := 174) hx hb dL_law_493 (by decide) ?_
    exact ih_174 (16 - (e9 + 1) + 1) _ _ _ (show 16 - (e9 + 1) + 1 < 16 - e9 + 1 from by omega) ⟨(e9 + 1), M6, (bz + 1), oz, tk, (min (lz + 1) 10), ((nx + 1) % 10), dy, T6, ls, rfl, rfl, lv_sub hl [0, 7, 8, 9, 10, 11, 12, 13] rfl, hP, hD, hS, (⟨by omega, by omega, by omega, by omega⟩), e6, I6, H6.less⟩
  by_cases cs_68 : nI j_52 = nI 1
  · skip
    refine lv_tableIn (tgt := 256) hx hb dL_law_212 (by rw [cs_68]; decide) (by rw [cs_68]; decide) (by rw [cs_68]; rfl) (by decide) ?_
    obtain ⟨-, ⟨lf, lf1, lfE⟩, -⟩ := I5.G (show j_49 < nn by omega)
    refine lv_aload_n hx hb dL_law_256 rfl (lv_at hl 9 rfl) ?_
    refine lv_iconst (v := nI 2) hx hb dL_law_257 (by decide) ?_
    refine zrV (M := M5) (M' := M5) (x := nI bz) (As := [.int (nI 2)]) (rest := []) hx hb hml hown hts hN hK (t_count2 l dC dI z e5 I5 H5) 1 gL_law_X9_count rfl hdV_X9_count ⟨Nat.le_of_ble_eq_true rfl, Nat.le_of_ble_eq_true rfl⟩ hP hD hS rfl hl.1 rfl (Nat.le_of_ble_eq_true rfl) dL_law_258 ⟨Nat.le_refl _, Nat.le_refl _⟩ (fun H locs hP hD hS => ?_)
    refine lv_istore (lv' := [(11, .int (nI bz)), (10, .int (nI 1)), (9, .int (nI j_49)), (8, .int x_47), (7, .int (nI e9)), (6, .int (nI j_31)), (5, .int (nI (1 + j_28))), (4, .int (nI j_25)), (3, .int x_6), (2, .int (nI nn)), (1, .ref (zo z)), (0, .ref a0)]) hx hb dL_law_261 hl (by decide) rfl (fun ls hl => ?_)
    refine lv_iconst (v := nI 1) hx hb dL_law_263 (by decide) ?_
    refine lv_iload hx hb dL_law_264 (lv_at hl 3 rfl) ?_
    refine lv_bipush (v := nI 6) hx hb dL_law_266 (by decide) ?_
    refine lv_ishr hx hb dL_law_268 ?_
    refine lv_bipush (v := nI 90) hx hb dL_law_269 (by decide) ?_
    refine zrP (As := [.int (x_47 >>> ((nI 6) &&& 31)), .int (nI 90)]) (rest := [.int (nI 1)]) hx hb hml hown hts (c_L_low l (x_47 >>> ((nI 6) &&& 31)) 90 (by omega)) 2 gL_law_L_low rfl hdL_low ⟨Nat.le_of_ble_eq_true rfl, Nat.le_of_ble_eq_true rfl⟩ rfl hl.1 rfl (Nat.le_of_ble_eq_true rfl) dL_law_271 ⟨Nat.le_refl _, Nat.le_refl _⟩ (fun x_70 q_71 => ?_)
    obtain ⟨j_69, ej_69, hj_69⟩ : ∃ j : Nat, j = zlw (x_47 >>> ((nI 6) &&& 31)) 90 ∧ j < 90 := ⟨_, rfl, zlw_lt _ (by omega)⟩
    rw [q_71, ← ej_69]
    refine xr_iadd_n hx hb dL_law_274 ?_
    refine lv_istore (lv' := [(12, .int (nI (1 + j_69))), (11, .int (nI bz)), (10, .int (nI 1)), (9, .int (nI j_49)), (8, .int x_47), (7, .int (nI e9)), (6, .int (nI j_31)), (5, .int (nI (1 + j_28))), (4, .int (nI j_25)), (3, .int x_6), (2, .int (nI nn)), (1, .ref (zo z)), (0, .ref a0)]) hx hb dL_law_275 hl (by decide) rfl (fun ls hl => ?_)
    refine lv_iconst (v := nI 1) hx hb dL_law_277 (by decide) ?_
    refine lv_iload hx hb dL_law_278 (lv_at hl 4 rfl) ?_
    refine lv_bipush (v := nI 13) hx hb dL_law_280 (by decide) ?_
    refine lv_ishr hx hb dL_law_282 ?_
    refine lv_aload_n hx hb dL_law_283 rfl (lv_at hl 11 rfl) ?_
    refine lv_iload hx hb dL_law_284 (lv_at hl 3 rfl) ?_
    refine lv_iconst (v := nI 1) hx hb dL_law_286 (by decide) ?_
    refine zrV (M := M5) (M' := M5) (x := nI lf) (As := [.int (nI j_49), .int (nI 1)]) (rest := [.int (x_47 >>> ((nI 13) &&& 31)), .int (nI 1)]) hx hb hml hown hts hN hK (zX.r (t_good1 l dC dI z e5 I5 (by omega)) lfE) 2 gL_law_X9_good rfl hdV_X9_good ⟨Nat.le_of_ble_eq_true rfl, Nat.le_of_ble_eq_true rfl⟩ hP hD hS rfl hl.1 rfl (Nat.le_of_ble_eq_true rfl) dL_law_287 ⟨Nat.le_refl _, Nat.le_refl _⟩ (fun H locs hP hD hS => ?_)
    refine zrP (As := [.int (x_47 >>> ((nI 13) &&& 31)), .int (nI lf)]) (rest := [.int (nI 1)]) hx hb hml hown hts (c_L_low l (x_47 >>> ((nI 13) &&& 31)) lf (by omega)) 2 gL_law_L_low rfl hdL_low ⟨Nat.le_of_ble_eq_true rfl, Nat.le_of_ble_eq_true rfl⟩ rfl hl.1 rfl (Nat.le_of_ble_eq_true rfl) dL_law_290 ⟨Nat.le_refl _, Nat.le_refl _⟩ (fun x_73 q_74 => ?_)
    obtain ⟨j_72, ej_72, hj_72⟩ : ∃ j : Nat, j = zlw (x_47 >>> ((nI 13) &&& 31)) lf ∧ j < lf := ⟨_, rfl, zlw_lt _ (by omega)⟩
    rw [q_74, ← ej_72]
    refine xr_iadd_n hx hb dL_law_293 ?_
    refine lv_istore (lv' := [(13, .int (nI (1 + j_72))), (12, .int (nI (1 + j_69))), (11, .int (nI bz)), (10, .int (nI 1)), (9, .int (nI j_49)), (8, .int x_47), (7, .int (nI e9)), (6, .int (nI j_31)), (5, .int (nI (1 + j_28))), (4, .int (nI j_25)), (3, .int x_6), (2, .int (nI nn)), (1, .ref (zo z)), (0, .ref a0)]) hx hb dL_law_294 hl (by decide) rfl (fun ls hl => ?_)
    refine lv_aload_n hx hb dL_law_296 rfl (lv_at hl 12 rfl) ?_
    refine lv_iload hx hb dL_law_297 (lv_at hl 4 rfl) ?_
    refine lv_iload hx hb dL_law_299 (lv_at hl 1 rfl) ?_
    refine lv_iload hx hb dL_law_301 (lv_at hl 0 rfl) ?_
    obtain ⟨M6, k6, e6, H6⟩ := ua_bring l dC dI z e5 I5 H5 (Nat.le_of_ble_eq_true rfl) (show j_49 < nn by omega) (⟨by omega, by omega⟩ : 1 ≤ 1 + j_69 ∧ 1 + j_69 ≤ 90) lfE (by omega) (⟨by omega, by omega⟩ : 1 ≤ 1 + j_72 ∧ 1 + j_72 ≤ lf)
    have I6 := I5.bring (kg := j_49) (u := 1 + j_69) (d := 1 + j_72) (by omega) (by omega) (by omega) ⟨by omega, by omega⟩
    obtain ⟨T6, hT6⟩ : ∃ x, x = brT T5 nn bz lz nx j_49 (nI (1 + j_69)) (nI (1 + j_72)) := ⟨_, rfl⟩
    rw [← hT6] at e6 I6
    have w8 : T6 8 bz = nI (1 + j_72) := by rw [hT6]; exact upd_at _ _ _
    have w9 : T6 9 bz = nI (1 + j_69) := by rw [hT6]; exact upd_at _ _ _
    refine zrV (M := M5) (M' := M6) (x := nI bz) (As := [.int (nI j_49), .int (nI (1 + j_69)), .int (nI (1 + j_72))]) (rest := []) hx hb hml hown hts hN hK (k6) 3 gL_law_X9_bring rfl hdV_X9_bring ⟨Nat.le_of_ble_eq_true rfl, Nat.le_of_ble_eq_true rfl⟩ hP hD hS rfl hl.1 rfl (Nat.le_of_ble_eq_true rfl) dL_law_303 ⟨Nat.le_refl _, Nat.le_refl _⟩ (fun H locs hP hD hS => ?_)
    refine lv_iload hx hb dL_law_306 (lv_at hl 2 rfl) ?_
    refine xr_ne_n (tgt := 339) hx hb (by omega) (by omega) dL_law_308 (by decide) (fun c_75 => False.elim (by exact c_75 rfl)) (fun c_75 => ?_)
    refine lv_aload_n hx hb dL_law_311 rfl (lv_at hl 12 rfl) ?_
    refine lv_iload hx hb dL_law_312 (lv_at hl 2 rfl) ?_
    refine lv_iconst (v := nI 2) hx hb dL_law_314 (by decide) ?_
    refine zrV (M := M6) (M' := M6) (x := T6 8 bz) (As := [.int (nI bz), .int (nI 2)]) (rest := []) hx hb hml hown hts hN hK (t_batch2 l dC dI z e6 I6 (by omega)) 2 gL_law_X9_batch rfl hdV_X9_batch ⟨Nat.le_of_ble_eq_true rfl, Nat.le_of_ble_eq_true rfl⟩ hP hD hS rfl hl.1 rfl (Nat.le_of_ble_eq_true rfl) dL_law_315 ⟨Nat.le_refl _, Nat.le_refl _⟩ (fun H locs hP hD hS => ?_)
    refine lv_iload hx hb dL_law_318 (lv_at hl 0 rfl) ?_
    refine lv_icmp_ne (tgt := 339) hx hb dL_law_320 (by decide) (fun c_76 => False.elim (by exact c_76 w8)) (fun c_76 => ?_)
    refine lv_aload_n hx hb dL_law_323 rfl (lv_at hl 12 rfl) ?_
    refine lv_iload hx hb dL_law_324 (lv_at hl 2 rfl) ?_
    refine lv_iconst (v := nI 3) hx hb dL_law_326 (by decide) ?_
    refine zrV (M := M6) (M' := M6) (x := T6 9 bz) (As := [.int (nI bz), .int (nI 3)]) (rest := []) hx hb hml hown hts hN hK (t_batch3 l dC dI z e6 I6 (by omega)) 2 gL_law_X9_batch rfl hdV_X9_batch ⟨Nat.le_of_ble_eq_true rfl, Nat.le_of_ble_eq_true rfl⟩ hP hD hS rfl hl.1 rfl (Nat.le_of_ble_eq_true rfl) dL_law_327 ⟨Nat.le_refl _, Nat.le_refl _⟩ (fun H locs hP hD hS => ?_)
    refine lv_iload hx hb dL_law_330 (lv_at hl 1 rfl) ?_
    refine lv_icmp_ne (tgt := 339) hx hb dL_law_332 (by decide) (fun c_77 => False.elim (by exact c_77 w9)) (fun c_77 => ?_)
    refine lv_iconst (v := nI 1) hx hb dL_law_335 (by decide) ?_
    refine lv_goto (tgt := 340) hx hb dL_law_336 (by decide) ?_
    refine lv_istore (lv' := [(10, .int (nI 1)), (13, .int (nI (1 + j_72))), (12, .int (nI (1 + j_69))), (11, .int (nI bz)), (9, .int (nI j_49)), (8, .int x_47), (7, .int (nI e9)), (6, .int (nI j_31)), (5, .int (nI (1 + j_28))), (4, .int (nI j_25)), (3, .int x_6), (2, .int (nI nn)), (1, .ref (zo z)), (0, .ref a0)]) hx hb dL_law_340 hl (by decide) rfl (fun ls hl => ?_)
    refine lv_goto (tgt := 475) hx hb dL_law_342 (by decide) ?_
    refine lv_iload hx hb dL_law_475 (lv_at hl 0 rfl) ?_
    refine xr_if1 (tgt := 488) hx hb (by decide) dL_law_477 (by decide) ?_
    refine lv_aload_n hx hb dL_law_480 rfl (lv_at hl 12 rfl) ?_
    refine lv_iload_n hx hb dL_law_481 rfl (lv_at hl 11 rfl) ?_
    refine zrS (M := M6) (As := [.ref (zo z), .int (nI nn)]) (rest := []) hx hb hml hown hts hN hK (c_L_addUp l dC dI z e6 I6 H6) 2 gL_law_L_addUp rfl hdL_addUp ⟨Nat.le_of_ble_eq_true rfl, Nat.le_of_ble_eq_true rfl⟩ hP hD hS rfl hl.1 rfl (Nat.le_of_ble_eq_true rfl) dL_law_482 ⟨Nat.le_refl _, Nat.le_refl _⟩ (fun x_78 M_80 H locs q_79 hP hD hS => ?_)
    obtain ⟨q_79, q8⟩ := q_79
    rw [q8] at hP hD
    rw [q_79]
    refine xr_ifn1 (tgt := 490) hx hb (by decide) dL_law_485 (by decide) ?_
    refine lv_iinc (v := nI (e9 + 1)) (lv' := [(7, .int (nI (e9 + 1))), (10, .int (nI 1)), (13, .int (nI (1 + j_72))), (12, .int (nI (1 + j_69))), (11, .int (nI bz)), (9, .int (nI j_49)), (8, .int x_47), (6, .int (nI j_31)), (5, .int (nI (1 + j_28))), (4, .int (nI j_25)), (3, .int x_6), (2, .int (nI nn)), (1, .ref (zo z)), (0, .ref a0)]) hx hb dL_law_490 hl (k := 6) rfl (nI_inc1 e9) (by decide) rfl (fun ls hl => ?_)
    refine lv_goto (tgt := 174) hx hb dL_law_493 (by decide) ?_
    exact ih_174 (16 - (e9 + 1) + 1) _ _ _ (show 16 - (e9 + 1) + 1 < 16 - e9 + 1 from by omega) ⟨(e9 + 1), M6, (bz + 1), oz, tk, (min (lz + 1) 10), ((nx + 1) % 10), dy, T6, ls, rfl, rfl, lv_sub hl [0, 7, 8, 9, 10, 11, 12, 13] rfl, hP, hD, hS, (⟨by omega, by omega, by omega, by omega⟩), e6, I6, H6.less⟩
  by_cases cs_81 : nI j_52 = nI 2
  · skip
    refine lv_tableIn (tgt := 256) hx hb dL_law_212 (by rw [cs_81]; decide) (by rw [cs_81]; decide) (by rw [cs_81]; rfl) (by decide) ?_
    obtain ⟨-, ⟨lf, lf1, lfE⟩, -⟩ := I5.G (show j_49 < nn by omega)
    refine lv_aload_n hx hb dL_law_256 rfl (lv_at hl 9 rfl) ?_
    refine lv_iconst (v := nI 2) hx hb dL_law_257 (by decide) ?_
    refine zrV (M := M5) (M' := M5) (x := nI bz) (As := [.int (nI 2)]) (rest := []) hx hb hml hown hts hN hK (t_count2 l dC dI z e5 I5 H5) 1 gL_law_X9_count rfl hdV_X9_count ⟨Nat.le_of_ble_eq_true rfl, Nat.le_of_ble_eq_true rfl⟩ hP hD hS rfl hl.1 rfl (Nat.le_of_ble_eq_true rfl) dL_law_258 ⟨Nat.le_refl _, Nat.le_refl _⟩ (fun H locs hP hD hS => ?_)
    refine lv_istore (lv' := [(11, .int (nI bz)), (10, .int (nI 1)), (9, .int (nI j_49)), (8, .int x_47), (7, .int (nI e9)), (6, .int (nI j_31)), (5, .int (nI (1 + j_28))), (4, .int (nI j_25)), (3, .int x_6), (2, .int (nI nn)), (1, .ref (zo z)), (0, .ref a0)]) hx hb dL_law_261 hl (by decide) rfl (fun ls hl => ?_)
    refine lv_iconst (v := nI 1) hx hb dL_law_263 (by decide) ?_
    refine lv_iload hx hb dL_law_264 (lv_at hl 3 rfl) ?_
    refine lv_bipush (v := nI 6) hx hb dL_law_266 (by decide) ?_
    refine lv_ishr hx hb dL_law_268 ?_
    refine lv_bipush (v := nI 90) hx hb dL_law_269 (by decide) ?_
    refine zrP (As := [.int (x_47 >>> ((nI 6) &&& 31)), .int (nI 90)]) (rest := [.int (nI 1)]) hx hb hml hown hts (c_L_low l (x_47 >>> ((nI 6) &&& 31)) 90 (by omega)) 2 gL_law_L_low rfl hdL_low ⟨Nat.le_of_ble_eq_true rfl, Nat.le_of_ble_eq_true rfl⟩ rfl hl.1 rfl (Nat.le_of_ble_eq_true rfl) dL_law_271 ⟨Nat.le_refl _, Nat.le_refl _⟩ (fun x_83 q_84 => ?_)
    obtain ⟨j_82, ej_82, hj_82⟩ : ∃ j : Nat, j = zlw (x_47 >>> ((nI 6) &&& 31)) 90 ∧ j < 90 := ⟨_, rfl, zlw_lt _ (by omega)⟩
    rw [q_84, ← ej_82]
    refine xr_iadd_n hx hb dL_law_274 ?_
    refine lv_istore (lv' := [(12, .int (nI (1 + j_82))), (11, .int (nI bz)), (10, .int (nI 1)), (9, .int (nI j_49)), (8, .int x_47), (7, .int (nI e9)), (6, .int (nI j_31)), (5, .int (nI (1 + j_28))), (4, .int (nI j_25)), (3, .int x_6), (2, .int (nI nn)), (1, .ref (zo z)), (0, .ref a0)]) hx hb dL_law_275 hl (by decide) rfl (fun ls hl => ?_)
    refine lv_iconst (v := nI 1) hx hb dL_law_277 (by decide) ?_
    refine lv_iload hx hb dL_law_278 (lv_at hl 4 rfl) ?_
    refine lv_bipush (v := nI 13) hx hb dL_law_280 (by decide) ?_
    refine lv_ishr hx hb dL_law_282 ?_
    refine lv_aload_n hx hb dL_law_283 rfl (lv_at hl 11 rfl) ?_
    refine lv_iload hx hb dL_law_284 (lv_at hl 3 rfl) ?_
    refine lv_iconst (v := nI 1) hx hb dL_law_286 (by decide) ?_
    refine zrV (M := M5) (M' := M5) (x := nI lf) (As := [.int (nI j_49), .int (nI 1)]) (rest := [.int (x_47 >>> ((nI 13) &&& 31)), .int (nI 1)]) hx hb hml hown hts hN hK (zX.r (t_good1 l dC dI z e5 I5 (by omega)) lfE) 2 gL_law_X9_good rfl hdV_X9_good ⟨Nat.le_of_ble_eq_true rfl, Nat.le_of_ble_eq_true rfl⟩ hP hD hS rfl hl.1 rfl (Nat.le_of_ble_eq_true rfl) dL_law_287 ⟨Nat.le_refl _, Nat.le_refl _⟩ (fun H locs hP hD hS => ?_)
    refine zrP (As := [.int (x_47 >>> ((nI 13) &&& 31)), .int (nI lf)]) (rest := [.int (nI 1)]) hx hb hml hown hts (c_L_low l (x_47 >>> ((nI 13) &&& 31)) lf (by omega)) 2 gL_law_L_low rfl hdL_low ⟨Nat.le_of_ble_eq_true rfl, Nat.le_of_ble_eq_true rfl⟩ rfl hl.1 rfl (Nat.le_of_ble_eq_true rfl) dL_law_290 ⟨Nat.le_refl _, Nat.le_refl _⟩ (fun x_86 q_87 => ?_)
    obtain ⟨j_85, ej_85, hj_85⟩ : ∃ j : Nat, j = zlw (x_47 >>> ((nI 13) &&& 31)) lf ∧ j < lf := ⟨_, rfl, zlw_lt _ (by omega)⟩
    rw [q_87, ← ej_85]
    refine xr_iadd_n hx hb dL_law_293 ?_
    refine lv_istore (lv' := [(13, .int (nI (1 + j_85))), (12, .int (nI (1 + j_82))), (11, .int (nI bz)), (10, .int (nI 1)), (9, .int (nI j_49)), (8, .int x_47), (7, .int (nI e9)), (6, .int (nI j_31)), (5, .int (nI (1 + j_28))), (4, .int (nI j_25)), (3, .int x_6), (2, .int (nI nn)), (1, .ref (zo z)), (0, .ref a0)]) hx hb dL_law_294 hl (by decide) rfl (fun ls hl => ?_)
    refine lv_aload_n hx hb dL_law_296 rfl (lv_at hl 12 rfl) ?_
    refine lv_iload hx hb dL_law_297 (lv_at hl 4 rfl) ?_
    refine lv_iload hx hb dL_law_299 (lv_at hl 1 rfl) ?_
    refine lv_iload hx hb dL_law_301 (lv_at hl 0 rfl) ?_
    obtain ⟨M6, k6, e6, H6⟩ := ua_bring l dC dI z e5 I5 H5 (Nat.le_of_ble_eq_true rfl) (show j_49 < nn by omega) (⟨by omega, by omega⟩ : 1 ≤ 1 + j_82 ∧ 1 + j_82 ≤ 90) lfE (by omega) (⟨by omega, by omega⟩ : 1 ≤ 1 + j_85 ∧ 1 + j_85 ≤ lf)
    have I6 := I5.bring (kg := j_49) (u := 1 + j_82) (d := 1 + j_85) (by omega) (by omega) (by omega) ⟨by omega, by omega⟩
    obtain ⟨T6, hT6⟩ : ∃ x, x = brT T5 nn bz lz nx j_49 (nI (1 + j_82)) (nI (1 + j_85)) := ⟨_, rfl⟩
    rw [← hT6] at e6 I6
    have w8 : T6 8 bz = nI (1 + j_85) := by rw [hT6]; exact upd_at _ _ _
    have w9 : T6 9 bz = nI (1 + j_82) := by rw [hT6]; exact upd_at _ _ _
    refine zrV (M := M5) (M' := M6) (x := nI bz) (As := [.int (nI j_49), .int (nI (1 + j_82)), .int (nI (1 + j_85))]) (rest := []) hx hb hml hown hts hN hK (k6) 3 gL_law_X9_bring rfl hdV_X9_bring ⟨Nat.le_of_ble_eq_true rfl, Nat.le_of_ble_eq_true rfl⟩ hP hD hS rfl hl.1 rfl (Nat.le_of_ble_eq_true rfl) dL_law_303 ⟨Nat.le_refl _, Nat.le_refl _⟩ (fun H locs hP hD hS => ?_)
    refine lv_iload hx hb dL_law_306 (lv_at hl 2 rfl) ?_
    refine xr_ne_n (tgt := 339) hx hb (by omega) (by omega) dL_law_308 (by decide) (fun c_88 => False.elim (by exact c_88 rfl)) (fun c_88 => ?_)
    refine lv_aload_n hx hb dL_law_311 rfl (lv_at hl 12 rfl) ?_
    refine lv_iload hx hb dL_law_312 (lv_at hl 2 rfl) ?_
    refine lv_iconst (v := nI 2) hx hb dL_law_314 (by decide) ?_
    refine zrV (M := M6) (M' := M6) (x := T6 8 bz) (As := [.int (nI bz), .int (nI 2)]) (rest := []) hx hb hml hown hts hN hK (t_batch2 l dC dI z e6 I6 (by omega)) 2 gL_law_X9_batch rfl hdV_X9_batch ⟨Nat.le_of_ble_eq_true rfl, Nat.le_of_ble_eq_true rfl⟩ hP hD hS rfl hl.1 rfl (Nat.le_of_ble_eq_true rfl) dL_law_315 ⟨Nat.le_refl _, Nat.le_refl _⟩ (fun H locs hP hD hS => ?_)
    refine lv_iload hx hb dL_law_318 (lv_at hl 0 rfl) ?_
    refine lv_icmp_ne (tgt := 339) hx hb dL_law_320 (by decide) (fun c_89 => False.elim (by exact c_89 w8)) (fun c_89 => ?_)
    refine lv_aload_n hx hb dL_law_323 rfl (lv_at hl 12 rfl) ?_
    refine lv_iload hx hb dL_law_324 (lv_at hl 2 rfl) ?_
    refine lv_iconst (v := nI 3) hx hb dL_law_326 (by decide) ?_
    refine zrV (M := M6) (M' := M6) (x := T6 9 bz) (As := [.int (nI bz), .int (nI 3)]) (rest := []) hx hb hml hown hts hN hK (t_batch3 l dC dI z e6 I6 (by omega)) 2 gL_law_X9_batch rfl hdV_X9_batch ⟨Nat.le_of_ble_eq_true rfl, Nat.le_of_ble_eq_true rfl⟩ hP hD hS rfl hl.1 rfl (Nat.le_of_ble_eq_true rfl) dL_law_327 ⟨Nat.le_refl _, Nat.le_refl _⟩ (fun H locs hP hD hS => ?_)
    refine lv_iload hx hb dL_law_330 (lv_at hl 1 rfl) ?_
    refine lv_icmp_ne (tgt := 339) hx hb dL_law_332 (by decide) (fun c_90 => False.elim (by exact c_90 w9)) (fun c_90 => ?_)
    refine lv_iconst (v := nI 1) hx hb dL_law_335 (by decide) ?_
    refine lv_goto (tgt := 340) hx hb dL_law_336 (by decide) ?_
    refine lv_istore (lv' := [(10, .int (nI 1)), (13, .int (nI (1 + j_85))), (12, .int (nI (1 + j_82))), (11, .int (nI bz)), (9, .int (nI j_49)), (8, .int x_47), (7, .int (nI e9)), (6, .int (nI j_31)), (5, .int (nI (1 + j_28))), (4, .int (nI j_25)), (3, .int x_6), (2, .int (nI nn)), (1, .ref (zo z)), (0, .ref a0)]) hx hb dL_law_340 hl (by decide) rfl (fun ls hl => ?_)
    refine lv_goto (tgt := 475) hx hb dL_law_342 (by decide) ?_
    refine lv_iload hx hb dL_law_475 (lv_at hl 0 rfl) ?_
    refine xr_if1 (tgt := 488) hx hb (by decide) dL_law_477 (by decide) ?_
    refine lv_aload_n hx hb dL_law_480 rfl (lv_at hl 12 rfl) ?_
    refine lv_iload_n hx hb dL_law_481 rfl (lv_at hl 11 rfl) ?_
    refine zrS (M := M6) (As := [.ref (zo z), .int (nI nn)]) (rest := []) hx hb hml hown hts hN hK (c_L_addUp l dC dI z e6 I6 H6) 2 gL_law_L_addUp rfl hdL_addUp ⟨Nat.le_of_ble_eq_true rfl, Nat.le_of_ble_eq_true rfl⟩ hP hD hS rfl hl.1 rfl (Nat.le_of_ble_eq_true rfl) dL_law_482 ⟨Nat.le_refl _, Nat.le_refl _⟩ (fun x_91 M_93 H locs q_92 hP hD hS => ?_)
    obtain ⟨q_92, q8⟩ := q_92
    rw [q8] at hP hD
    rw [q_92]
    refine xr_ifn1 (tgt := 490) hx hb (by decide) dL_law_485 (by decide) ?_
    refine lv_iinc (v := nI (e9 + 1)) (lv' := [(7, .int (nI (e9 + 1))), (10, .int (nI 1)), (13, .int (nI (1 + j_85))), (12, .int (nI (1 + j_82))), (11, .int (nI bz)), (9, .int (nI j_49)), (8, .int x_47), (6, .int (nI j_31)), (5, .int (nI (1 + j_28))), (4, .int (nI j_25)), (3, .int x_6), (2, .int (nI nn)), (1, .ref (zo z)), (0, .ref a0)]) hx hb dL_law_490 hl (k := 6) rfl (nI_inc1 e9) (by decide) rfl (fun ls hl => ?_)
    refine lv_goto (tgt := 174) hx hb dL_law_493 (by decide) ?_
    exact ih_174 (16 - (e9 + 1) + 1) _ _ _ (show 16 - (e9 + 1) + 1 < 16 - e9 + 1 from by omega) ⟨(e9 + 1), M6, (bz + 1), oz, tk, (min (lz + 1) 10), ((nx + 1) % 10), dy, T6, ls, rfl, rfl, lv_sub hl [0, 7, 8, 9, 10, 11, 12, 13] rfl, hP, hD, hS, (⟨by omega, by omega, by omega, by omega⟩), e6, I6, H6.less⟩
  by_cases cs_94 : nI j_52 = nI 3
  · skip
    refine lv_tableIn (tgt := 345) hx hb dL_law_212 (by rw [cs_94]; decide) (by rw [cs_94]; decide) (by rw [cs_94]; rfl) (by decide) ?_
    refine lv_aload_n hx hb dL_law_345 rfl (lv_at hl 9 rfl) ?_
    refine lv_iload hx hb dL_law_346 (lv_at hl 1 rfl) ?_
    refine lv_iload hx hb dL_law_348 (lv_at hl 2 rfl) ?_
    refine zrS (M := M5) (As := [.ref (zo z), .int (nI j_49), .int x_47]) (rest := []) hx hb hml hown hts hN hK (c_L_order l dC dI z e5 I5 H5 (show j_49 < nn by omega) (by omega)) 3 gL_law_L_order rfl hdL_order ⟨Nat.le_of_ble_eq_true rfl, Nat.le_of_ble_eq_true rfl⟩ hP hD hS rfl hl.1 rfl (Nat.le_of_ble_eq_true rfl) dL_law_350 ⟨Nat.le_refl _, Nat.le_refl _⟩ (fun x_95 M_97 H locs q_96 hP hD hS => ?_)
    obtain ⟨q_96, tk6, lz6, nx6, T6, e6, I6, H6⟩ := q_96
    rw [q_96]
    refine lv_istore (lv' := [(10, .int (nI 1)), (9, .int (nI j_49)), (8, .int x_47), (7, .int (nI e9)), (6, .int (nI j_31)), (5, .int (nI (1 + j_28))), (4, .int (nI j_25)), (3, .int x_6), (2, .int (nI nn)), (1, .ref (zo z)), (0, .ref a0)]) hx hb dL_law_353 hl (by decide) rfl (fun ls hl => ?_)
    refine lv_goto (tgt := 475) hx hb dL_law_355 (by decide) ?_
    refine lv_iload hx hb dL_law_475 (lv_at hl 0 rfl) ?_
    refine xr_if1 (tgt := 488) hx hb (by decide) dL_law_477 (by decide) ?_
    refine lv_aload_n hx hb dL_law_480 rfl (lv_at hl 9 rfl) ?_
    refine lv_iload_n hx hb dL_law_481 rfl (lv_at hl 8 rfl) ?_
    refine zrS (M := M_97) (As := [.ref (zo z), .int (nI nn)]) (rest := []) hx hb hml hown hts hN hK (c_L_addUp l dC dI z e6 I6 H6) 2 gL_law_L_addUp rfl hdL_addUp ⟨Nat.le_of_ble_eq_true rfl, Nat.le_of_ble_eq_true rfl⟩ hP hD hS rfl hl.1 rfl (Nat.le_of_ble_eq_true rfl) dL_law_482 ⟨Nat.le_refl _, Nat.le_refl _⟩ (fun x_98 M_100 H locs q_99 hP hD hS => ?_)
    obtain ⟨q_99, q8⟩ := q_99
    rw [q8] at hP hD
    rw [q_99]
    refine xr_ifn1 (tgt := 490) hx hb (by decide) dL_law_485 (by decide) ?_
    refine lv_iinc (v := nI (e9 + 1)) (lv' := [(7, .int (nI (e9 + 1))), (10, .int (nI 1)), (9, .int (nI j_49)), (8, .int x_47), (6, .int (nI j_31)), (5, .int (nI (1 + j_28))), (4, .int (nI j_25)), (3, .int x_6), (2, .int (nI nn)), (1, .ref (zo z)), (0, .ref a0)]) hx hb dL_law_490 hl (k := 3) rfl (nI_inc1 e9) (by decide) rfl (fun ls hl => ?_)
    refine lv_goto (tgt := 174) hx hb dL_law_493 (by decide) ?_
    exact ih_174 (16 - (e9 + 1) + 1) _ _ _ (show 16 - (e9 + 1) + 1 < 16 - e9 + 1 from by omega) ⟨(e9 + 1), M_97, bz, (oz + 1), tk6, lz6, nx6, dy, T6, ls, rfl, rfl, lv_sub hl [0, 4, 5, 6, 7, 8, 9, 10] rfl, hP, hD, hS, (⟨by omega, by omega, by omega, by omega⟩), e6, I6, H6⟩
  by_cases cs_101 : nI j_52 = nI 4
  · skip
    refine lv_tableIn (tgt := 345) hx hb dL_law_212 (by rw [cs_101]; decide) (by rw [cs_101]; decide) (by rw [cs_101]; rfl) (by decide) ?_
    refine lv_aload_n hx hb dL_law_345 rfl (lv_at hl 9 rfl) ?_
    refine lv_iload hx hb dL_law_346 (lv_at hl 1 rfl) ?_
    refine lv_iload hx hb dL_law_348 (lv_at hl 2 rfl) ?_
    refine zrS (M := M5) (As := [.ref (zo z), .int (nI j_49), .int x_47]) (rest := []) hx hb hml hown hts hN hK (c_L_order l dC dI z e5 I5 H5 (show j_49 < nn by omega) (by omega)) 3 gL_law_L_order rfl hdL_order ⟨Nat.le_of_ble_eq_true rfl, Nat.le_of_ble_eq_true rfl⟩ hP hD hS rfl hl.1 rfl (Nat.le_of_ble_eq_true rfl) dL_law_350 ⟨Nat.le_refl _, Nat.le_refl _⟩ (fun x_102 M_104 H locs q_103 hP hD hS => ?_)
    obtain ⟨q_103, tk6, lz6, nx6, T6, e6, I6, H6⟩ := q_103
    rw [q_103]
    refine lv_istore (lv' := [(10, .int (nI 1)), (9, .int (nI j_49)), (8, .int x_47), (7, .int (nI e9)), (6, .int (nI j_31)), (5, .int (nI (1 + j_28))), (4, .int (nI j_25)), (3, .int x_6), (2, .int (nI nn)), (1, .ref (zo z)), (0, .ref a0)]) hx hb dL_law_353 hl (by decide) rfl (fun ls hl => ?_)
    refine lv_goto (tgt := 475) hx hb dL_law_355 (by decide) ?_
    refine lv_iload hx hb dL_law_475 (lv_at hl 0 rfl) ?_
    refine xr_if1 (tgt := 488) hx hb (by decide) dL_law_477 (by decide) ?_
    refine lv_aload_n hx hb dL_law_480 rfl (lv_at hl 9 rfl) ?_
    refine lv_iload_n hx hb dL_law_481 rfl (lv_at hl 8 rfl) ?_
    refine zrS (M := M_104) (As := [.ref (zo z), .int (nI nn)]) (rest := []) hx hb hml hown hts hN hK (c_L_addUp l dC dI z e6 I6 H6) 2 gL_law_L_addUp rfl hdL_addUp ⟨Nat.le_of_ble_eq_true rfl, Nat.le_of_ble_eq_true rfl⟩ hP hD hS rfl hl.1 rfl (Nat.le_of_ble_eq_true rfl) dL_law_482 ⟨Nat.le_refl _, Nat.le_refl _⟩ (fun x_105 M_107 H locs q_106 hP hD hS => ?_)
    obtain ⟨q_106, q8⟩ := q_106
    rw [q8] at hP hD
    rw [q_106]
    refine xr_ifn1 (tgt := 490) hx hb (by decide) dL_law_485 (by decide) ?_
    refine lv_iinc (v := nI (e9 + 1)) (lv' := [(7, .int (nI (e9 + 1))), (10, .int (nI 1)), (9, .int (nI j_49)), (8, .int x_47), (6, .int (nI j_31)), (5, .int (nI (1 + j_28))), (4, .int (nI j_25)), (3, .int x_6), (2, .int (nI nn)), (1, .ref (zo z)), (0, .ref a0)]) hx hb dL_law_490 hl (k := 3) rfl (nI_inc1 e9) (by decide) rfl (fun ls hl => ?_)
    refine lv_goto (tgt := 174) hx hb dL_law_493 (by decide) ?_
    exact ih_174 (16 - (e9 + 1) + 1) _ _ _ (show 16 - (e9 + 1) + 1 < 16 - e9 + 1 from by omega) ⟨(e9 + 1), M_104, bz, (oz + 1), tk6, lz6, nx6, dy, T6, ls, rfl, rfl, lv_sub hl [0, 4, 5, 6, 7, 8, 9, 10] rfl, hP, hD, hS, (⟨by omega, by omega, by omega, by omega⟩), e6, I6, H6⟩
  by_cases cs_108 : nI j_52 = nI 5
  · skip
    refine lv_tableIn (tgt := 358) hx hb dL_law_212 (by rw [cs_108]; decide) (by rw [cs_108]; decide) (by rw [cs_108]; rfl) (by decide) ?_
    refine lv_aload_n hx hb dL_law_358 rfl (lv_at hl 9 rfl) ?_
    refine lv_iconst (v := nI 1) hx hb dL_law_359 (by decide) ?_
    refine lv_iload hx hb dL_law_360 (lv_at hl 2 rfl) ?_
    refine lv_bipush (v := nI 6) hx hb dL_law_362 (by decide) ?_
    refine lv_ishr hx hb dL_law_364 ?_
    refine lv_bipush (v := nI 6) hx hb dL_law_365 (by decide) ?_
    refine zrP (As := [.int (x_47 >>> ((nI 6) &&& 31)), .int (nI 6)]) (rest := [.int (nI 1), .ref (zo z)]) hx hb hml hown hts (c_L_low l (x_47 >>> ((nI 6) &&& 31)) 6 (by omega)) 2 gL_law_L_low rfl hdL_low ⟨Nat.le_of_ble_eq_true rfl, Nat.le_of_ble_eq_true rfl⟩ rfl hl.1 rfl (Nat.le_of_ble_eq_true rfl) dL_law_367 ⟨Nat.le_refl _, Nat.le_refl _⟩ (fun x_110 q_111 => ?_)
    obtain ⟨j_109, ej_109, hj_109⟩ : ∃ j : Nat, j = zlw (x_47 >>> ((nI 6) &&& 31)) 6 ∧ j < 6 := ⟨_, rfl, zlw_lt _ (by omega)⟩
    rw [q_111, ← ej_109]
    refine xr_iadd_n hx hb dL_law_370 ?_
    refine zrS (M := M5) (As := [.ref (zo z), .int (nI (1 + j_109))]) (rest := []) hx hb hml hown hts hN hK (c_L_pass l dC dI z e5 I5 H5 (⟨by omega, by omega⟩ : 1 ≤ 1 + j_109 ∧ 1 + j_109 ≤ 6) (by omega)) 2 gL_law_L_pass rfl hdL_pass ⟨Nat.le_of_ble_eq_true rfl, Nat.le_of_ble_eq_true rfl⟩ hP hD hS rfl hl.1 rfl (Nat.le_of_ble_eq_true rfl) dL_law_371 ⟨Nat.le_refl _, Nat.le_refl _⟩ (fun x_112 M_114 H locs q_113 hP hD hS => ?_)
    obtain ⟨q_113, lz6, nx6, T6, e6, I6, H6⟩ := q_113
    rw [q_113]
    refine lv_istore (lv' := [(10, .int (nI 1)), (9, .int (nI j_49)), (8, .int x_47), (7, .int (nI e9)), (6, .int (nI j_31)), (5, .int (nI (1 + j_28))), (4, .int (nI j_25)), (3, .int x_6), (2, .int (nI nn)), (1, .ref (zo z)), (0, .ref a0)]) hx hb dL_law_374 hl (by decide) rfl (fun ls hl => ?_)
    refine lv_goto (tgt := 475) hx hb dL_law_376 (by decide) ?_
    refine lv_iload hx hb dL_law_475 (lv_at hl 0 rfl) ?_
    refine xr_if1 (tgt := 488) hx hb (by decide) dL_law_477 (by decide) ?_
    refine lv_aload_n hx hb dL_law_480 rfl (lv_at hl 9 rfl) ?_
    refine lv_iload_n hx hb dL_law_481 rfl (lv_at hl 8 rfl) ?_
    refine zrS (M := M_114) (As := [.ref (zo z), .int (nI nn)]) (rest := []) hx hb hml hown hts hN hK (c_L_addUp l dC dI z e6 I6 H6) 2 gL_law_L_addUp rfl hdL_addUp ⟨Nat.le_of_ble_eq_true rfl, Nat.le_of_ble_eq_true rfl⟩ hP hD hS rfl hl.1 rfl (Nat.le_of_ble_eq_true rfl) dL_law_482 ⟨Nat.le_refl _, Nat.le_refl _⟩ (fun x_115 M_117 H locs q_116 hP hD hS => ?_)
    obtain ⟨q_116, q8⟩ := q_116
    rw [q8] at hP hD
    rw [q_116]
    refine xr_ifn1 (tgt := 490) hx hb (by decide) dL_law_485 (by decide) ?_
    refine lv_iinc (v := nI (e9 + 1)) (lv' := [(7, .int (nI (e9 + 1))), (10, .int (nI 1)), (9, .int (nI j_49)), (8, .int x_47), (6, .int (nI j_31)), (5, .int (nI (1 + j_28))), (4, .int (nI j_25)), (3, .int x_6), (2, .int (nI nn)), (1, .ref (zo z)), (0, .ref a0)]) hx hb dL_law_490 hl (k := 3) rfl (nI_inc1 e9) (by decide) rfl (fun ls hl => ?_)
    refine lv_goto (tgt := 174) hx hb dL_law_493 (by decide) ?_
    exact ih_174 (16 - (e9 + 1) + 1) _ _ _ (show 16 - (e9 + 1) + 1 < 16 - e9 + 1 from by omega) ⟨(e9 + 1), M_114, bz, oz, tk, lz6, nx6, (dy + (1 + j_109)), T6, ls, rfl, rfl, lv_sub hl [0, 4, 5, 6, 7, 8, 9, 10] rfl, hP, hD, hS, (⟨by omega, by omega, by omega, by omega⟩), e6, I6, H6⟩
  by_cases cs_118 : nI j_52 = nI 6
  · skip
    refine lv_tableIn (tgt := 379) hx hb dL_law_212 (by rw [cs_118]; decide) (by rw [cs_118]; decide) (by rw [cs_118]; rfl) (by decide) ?_
    refine lv_aload_n hx hb dL_law_379 rfl (lv_at hl 9 rfl) ?_
    refine lv_iload hx hb dL_law_380 (lv_at hl 1 rfl) ?_
    refine lv_iconst (v := nI 3) hx hb dL_law_382 (by decide) ?_
    refine zrV (M := M5) (M' := M5) (x := xsumIf (T5 6) (nI j_49) (T5 9) bz) (As := [.int (nI j_49), .int (nI 3)]) (rest := []) hx hb hml hown hts hN hK (t_good3 l dC dI z e5 I5 (by omega)) 2 gL_law_X9_good rfl hdV_X9_good ⟨Nat.le_of_ble_eq_true rfl, Nat.le_of_ble_eq_true rfl⟩ hP hD hS rfl hl.1 rfl (Nat.le_of_ble_eq_true rfl) dL_law_383 ⟨Nat.le_refl _, Nat.le_refl _⟩ (fun H locs hP hD hS => ?_)
    refine lv_istore (lv' := [(11, .int (xsumIf (T5 6) (nI j_49) (T5 9) bz)), (10, .int (nI 1)), (9, .int (nI j_49)), (8, .int x_47), (7, .int (nI e9)), (6, .int (nI j_31)), (5, .int (nI (1 + j_28))), (4, .int (nI j_25)), (3, .int x_6), (2, .int (nI nn)), (1, .ref (zo z)), (0, .ref a0)]) hx hb dL_law_386 hl (by decide) rfl (fun ls hl => ?_)
    by_cases h0 : xsumIf (T5 6) (nI j_49) (T5 9) bz = 0
    · skip
      refine lv_aload_n hx hb dL_law_388 rfl (lv_at hl 10 rfl) ?_
      refine lv_iload hx hb dL_law_389 (lv_at hl 2 rfl) ?_
      refine zrV (M := M5) (M' := M5) (x := (-5)) (As := [.int (nI j_49)]) (rest := []) hx hb hml hown hts hN hK (ua_recall0 l dC dI z e5 I5 (show j_49 < nn by omega) h0) 1 gL_law_X9_recall rfl hdV_X9_recall ⟨Nat.le_of_ble_eq_true rfl, Nat.le_of_ble_eq_true rfl⟩ hP hD hS rfl hl.1 rfl (Nat.le_of_ble_eq_true rfl) dL_law_391 ⟨Nat.le_refl _, Nat.le_refl _⟩ (fun H locs hP hD hS => ?_)
      refine lv_iload hx hb dL_law_394 (lv_at hl 0 rfl) ?_
      refine lv_if_ne (tgt := 404) hx hb dL_law_396 (by decide) (fun c_119 => False.elim (by exact c_119 h0)) (fun c_119 => ?_)
      refine lv_bipush (v := (-5)) hx hb dL_law_399 (by decide) ?_
      refine lv_goto (tgt := 406) hx hb dL_law_401 (by decide) ?_
      refine lv_icmp_ne (tgt := 423) hx hb dL_law_406 (by decide) (fun c_120 => False.elim (by exact c_120 rfl)) (fun c_120 => ?_)
      refine lv_aload_n hx hb dL_law_409 rfl (lv_at hl 10 rfl) ?_
      refine lv_iload hx hb dL_law_410 (lv_at hl 2 rfl) ?_
      refine lv_iconst (v := nI 3) hx hb dL_law_412 (by decide) ?_
      refine zrV (M := M5) (M' := M5) (x := xsumIf (T5 6) (nI j_49) (T5 9) bz) (As := [.int (nI j_49), .int (nI 3)]) (rest := []) hx hb hml hown hts hN hK (t_good3 l dC dI z e5 I5 (by omega)) 2 gL_law_X9_good rfl hdV_X9_good ⟨Nat.le_of_ble_eq_true rfl, Nat.le_of_ble_eq_true rfl⟩ hP hD hS rfl hl.1 rfl (Nat.le_of_ble_eq_true rfl) dL_law_413 ⟨Nat.le_refl _, Nat.le_refl _⟩ (fun H locs hP hD hS => ?_)
      refine lv_if_ne (tgt := 423) hx hb dL_law_416 (by decide) (fun c_121 => False.elim (by exact c_121 h0)) (fun c_121 => ?_)
      refine lv_iconst (v := nI 1) hx hb dL_law_419 (by decide) ?_
      refine lv_goto (tgt := 424) hx hb dL_law_420 (by decide) ?_
      refine lv_istore (lv' := [(10, .int (nI 1)), (11, .int (xsumIf (T5 6) (nI j_49) (T5 9) bz)), (9, .int (nI j_49)), (8, .int x_47), (7, .int (nI e9)), (6, .int (nI j_31)), (5, .int (nI (1 + j_28))), (4, .int (nI j_25)), (3, .int x_6), (2, .int (nI nn)), (1, .ref (zo z)), (0, .ref a0)]) hx hb dL_law_424 hl (by decide) rfl (fun ls hl => ?_)
      refine lv_goto (tgt := 475) hx hb dL_law_426 (by decide) ?_
      refine lv_iload hx hb dL_law_475 (lv_at hl 0 rfl) ?_
      refine xr_if1 (tgt := 488) hx hb (by decide) dL_law_477 (by decide) ?_
      refine lv_aload_n hx hb dL_law_480 rfl (lv_at hl 10 rfl) ?_
      refine lv_iload_n hx hb dL_law_481 rfl (lv_at hl 9 rfl) ?_
      refine zrS (M := M5) (As := [.ref (zo z), .int (nI nn)]) (rest := []) hx hb hml hown hts hN hK (c_L_addUp l dC dI z e5 I5 H5) 2 gL_law_L_addUp rfl hdL_addUp ⟨Nat.le_of_ble_eq_true rfl, Nat.le_of_ble_eq_true rfl⟩ hP hD hS rfl hl.1 rfl (Nat.le_of_ble_eq_true rfl) dL_law_482 ⟨Nat.le_refl _, Nat.le_refl _⟩ (fun x_122 M_124 H locs q_123 hP hD hS => ?_)
      obtain ⟨q_123, q8⟩ := q_123
      rw [q8] at hP hD
      rw [q_123]
      refine xr_ifn1 (tgt := 490) hx hb (by decide) dL_law_485 (by decide) ?_
      refine lv_iinc (v := nI (e9 + 1)) (lv' := [(7, .int (nI (e9 + 1))), (10, .int (nI 1)), (11, .int (xsumIf (T5 6) (nI j_49) (T5 9) bz)), (9, .int (nI j_49)), (8, .int x_47), (6, .int (nI j_31)), (5, .int (nI (1 + j_28))), (4, .int (nI j_25)), (3, .int x_6), (2, .int (nI nn)), (1, .ref (zo z)), (0, .ref a0)]) hx hb dL_law_490 hl (k := 4) rfl (nI_inc1 e9) (by decide) rfl (fun ls hl => ?_)
      refine lv_goto (tgt := 174) hx hb dL_law_493 (by decide) ?_
      exact ih_174 (16 - (e9 + 1) + 1) _ _ _ (show 16 - (e9 + 1) + 1 < 16 - e9 + 1 from by omega) ⟨(e9 + 1), M5, bz, oz, tk, lz, nx, dy, T5, ls, rfl, rfl, lv_sub hl [0, 5, 6, 7, 8, 9, 10, 11] rfl, hP, hD, hS, (⟨by omega, by omega, by omega, by omega⟩), e5, I5, H5⟩
    refine lv_aload_n hx hb dL_law_388 rfl (lv_at hl 10 rfl) ?_
    refine lv_iload hx hb dL_law_389 (lv_at hl 2 rfl) ?_
    obtain ⟨M6, k6, e6, H6⟩ := ua_recall l dC dI z e5 I5 H5 (Nat.le_of_ble_eq_true rfl) (show j_49 < nn by omega) h0
    obtain ⟨I6, w0⟩ := I5.recall j_49
    obtain ⟨q6, hq6⟩ : ∃ q, q = rcQ T5 bz lz nx j_49 := ⟨_, rfl⟩
    rw [← hq6] at e6 I6 w0
    obtain ⟨T6, hT6⟩ : ∃ x, x = rcT T5 nn bz q6 := ⟨_, rfl⟩
    rw [← hT6] at e6 I6
    have w0 : xsumIf (T6 6) (nI j_49) (T6 9) bz = nI 0 := by rw [hT6]; exact w0
    refine zrV (M := M5) (M' := M6) (x := xsumIf (T5 6) (nI j_49) (T5 9) bz) (As := [.int (nI j_49)]) (rest := []) hx hb hml hown hts hN hK (k6) 1 gL_law_X9_recall rfl hdV_X9_recall ⟨Nat.le_of_ble_eq_true rfl, Nat.le_of_ble_eq_true rfl⟩ hP hD hS rfl hl.1 rfl (Nat.le_of_ble_eq_true rfl) dL_law_391 ⟨Nat.le_refl _, Nat.le_refl _⟩ (fun H locs hP hD hS => ?_)
    refine lv_iload hx hb dL_law_394 (lv_at hl 0 rfl) ?_
    refine lv_if_ne (tgt := 404) hx hb dL_law_396 (by decide) (fun c_125 => ?_) (fun c_125 => False.elim (by exact h0 c_125))
    refine lv_iload hx hb dL_law_404 (lv_at hl 0 rfl) ?_
    refine lv_icmp_ne (tgt := 423) hx hb dL_law_406 (by decide) (fun c_126 => False.elim (by exact c_126 rfl)) (fun c_126 => ?_)
    refine lv_aload_n hx hb dL_law_409 rfl (lv_at hl 10 rfl) ?_
    refine lv_iload hx hb dL_law_410 (lv_at hl 2 rfl) ?_
    refine lv_iconst (v := nI 3) hx hb dL_law_412 (by decide) ?_
    refine zrV (M := M6) (M' := M6) (x := xsumIf (T6 6) (nI j_49) (T6 9) bz) (As := [.int (nI j_49), .int (nI 3)]) (rest := []) hx hb hml hown hts hN hK (t_good3 l dC dI z e6 I6 (by omega)) 2 gL_law_X9_good rfl hdV_X9_good ⟨Nat.le_of_ble_eq_true rfl, Nat.le_of_ble_eq_true rfl⟩ hP hD hS rfl hl.1 rfl (Nat.le_of_ble_eq_true rfl) dL_law_413 ⟨Nat.le_refl _, Nat.le_refl _⟩ (fun H locs hP hD hS => ?_)
    refine lv_if_ne (tgt := 423) hx hb dL_law_416 (by decide) (fun c_127 => False.elim (by exact c_127 w0)) (fun c_127 => ?_)
    refine lv_iconst (v := nI 1) hx hb dL_law_419 (by decide) ?_
    refine lv_goto (tgt := 424) hx hb dL_law_420 (by decide) ?_
    refine lv_istore (lv' := [(10, .int (nI 1)), (11, .int (xsumIf (T5 6) (nI j_49) (T5 9) bz)), (9, .int (nI j_49)), (8, .int x_47), (7, .int (nI e9)), (6, .int (nI j_31)), (5, .int (nI (1 + j_28))), (4, .int (nI j_25)), (3, .int x_6), (2, .int (nI nn)), (1, .ref (zo z)), (0, .ref a0)]) hx hb dL_law_424 hl (by decide) rfl (fun ls hl => ?_)
    refine lv_goto (tgt := 475) hx hb dL_law_426 (by decide) ?_
    refine lv_iload hx hb dL_law_475 (lv_at hl 0 rfl) ?_
    refine xr_if1 (tgt := 488) hx hb (by decide) dL_law_477 (by decide) ?_
    refine lv_aload_n hx hb dL_law_480 rfl (lv_at hl 10 rfl) ?_
    refine lv_iload_n hx hb dL_law_481 rfl (lv_at hl 9 rfl) ?_
    refine zrS (M := M6) (As := [.ref (zo z), .int (nI nn)]) (rest := []) hx hb hml hown hts hN hK (c_L_addUp l dC dI z e6 I6 H6) 2 gL_law_L_addUp rfl hdL_addUp ⟨Nat.le_of_ble_eq_true rfl, Nat.le_of_ble_eq_true rfl⟩ hP hD hS rfl hl.1 rfl (Nat.le_of_ble_eq_true rfl) dL_law_482 ⟨Nat.le_refl _, Nat.le_refl _⟩ (fun x_128 M_130 H locs q_129 hP hD hS => ?_)
    obtain ⟨q_129, q8⟩ := q_129
    rw [q8] at hP hD
    rw [q_129]
    refine xr_ifn1 (tgt := 490) hx hb (by decide) dL_law_485 (by decide) ?_
    refine lv_iinc (v := nI (e9 + 1)) (lv' := [(7, .int (nI (e9 + 1))), (10, .int (nI 1)), (11, .int (xsumIf (T5 6) (nI j_49) (T5 9) bz)), (9, .int (nI j_49)), (8, .int x_47), (6, .int (nI j_31)), (5, .int (nI (1 + j_28))), (4, .int (nI j_25)), (3, .int x_6), (2, .int (nI nn)), (1, .ref (zo z)), (0, .ref a0)]) hx hb dL_law_490 hl (k := 4) rfl (nI_inc1 e9) (by decide) rfl (fun ls hl => ?_)
    refine lv_goto (tgt := 174) hx hb dL_law_493 (by decide) ?_
    exact ih_174 (16 - (e9 + 1) + 1) _ _ _ (show 16 - (e9 + 1) + 1 < 16 - e9 + 1 from by omega) ⟨(e9 + 1), M6, bz, oz, tk, q6.2.2.1, q6.2.2.2.1, dy, T6, ls, rfl, rfl, lv_sub hl [0, 5, 6, 7, 8, 9, 10, 11] rfl, hP, hD, hS, (⟨by omega, by omega, by omega, by omega⟩), e6, I6, H6.less⟩
  refine lv_tableOut (tgt := 429) hx hb dL_law_212 (xsw_out 7 (by decide) (fun j hj => by
      rcases (show j = 0 ∨ j = 1 ∨ j = 2 ∨ j = 3 ∨ j = 4 ∨ j = 5 ∨ j = 6 by omega) with rfl | rfl | rfl | rfl | rfl | rfl | rfl
      · exact cs_55
      · exact cs_68
      · exact cs_81
      · exact cs_94
      · exact cs_101
      · exact cs_108
      · exact cs_118)) (by decide) ?_
  refine lv_aload_n hx hb dL_law_429 rfl (lv_at hl 9 rfl) ?_
  refine lv_iconst (v := nI 2) hx hb dL_law_430 (by decide) ?_
  refine zrV (M := M5) (M' := M5) (x := nI bz) (As := [.int (nI 2)]) (rest := []) hx hb hml hown hts hN hK (t_count2 l dC dI z e5 I5 H5) 1 gL_law_X9_count rfl hdV_X9_count ⟨Nat.le_of_ble_eq_true rfl, Nat.le_of_ble_eq_true rfl⟩ hP hD hS rfl hl.1 rfl (Nat.le_of_ble_eq_true rfl) dL_law_431 ⟨Nat.le_refl _, Nat.le_refl _⟩ (fun H locs hP hD hS => ?_)
  refine xr_zeq_n (tgt := 468) hx hb (by omega) dL_law_434 (by decide) (fun c_131 => ?_) (fun c_131 => ?_)
  · skip
    refine lv_iconst (v := nI 1) hx hb dL_law_468 (by decide) ?_
    refine lv_goto (tgt := 473) hx hb dL_law_469 (by decide) ?_
    refine lv_istore (lv' := [(10, .int (nI 1)), (9, .int (nI j_49)), (8, .int x_47), (7, .int (nI e9)), (6, .int (nI j_31)), (5, .int (nI (1 + j_28))), (4, .int (nI j_25)), (3, .int x_6), (2, .int (nI nn)), (1, .ref (zo z)), (0, .ref a0)]) hx hb dL_law_473 hl (by decide) rfl (fun ls hl => ?_)
    refine lv_iload hx hb dL_law_475 (lv_at hl 0 rfl) ?_
    refine xr_if1 (tgt := 488) hx hb (by decide) dL_law_477 (by decide) ?_
    refine lv_aload_n hx hb dL_law_480 rfl (lv_at hl 9 rfl) ?_
    refine lv_iload_n hx hb dL_law_481 rfl (lv_at hl 8 rfl) ?_
    refine zrS (M := M5) (As := [.ref (zo z), .int (nI nn)]) (rest := []) hx hb hml hown hts hN hK (c_L_addUp l dC dI z e5 I5 H5) 2 gL_law_L_addUp rfl hdL_addUp ⟨Nat.le_of_ble_eq_true rfl, Nat.le_of_ble_eq_true rfl⟩ hP hD hS rfl hl.1 rfl (Nat.le_of_ble_eq_true rfl) dL_law_482 ⟨Nat.le_refl _, Nat.le_refl _⟩ (fun x_132 M_134 H locs q_133 hP hD hS => ?_)
    obtain ⟨q_133, q8⟩ := q_133
    rw [q8] at hP hD
    rw [q_133]
    refine xr_ifn1 (tgt := 490) hx hb (by decide) dL_law_485 (by decide) ?_
    refine lv_iinc (v := nI (e9 + 1)) (lv' := [(7, .int (nI (e9 + 1))), (10, .int (nI 1)), (9, .int (nI j_49)), (8, .int x_47), (6, .int (nI j_31)), (5, .int (nI (1 + j_28))), (4, .int (nI j_25)), (3, .int x_6), (2, .int (nI nn)), (1, .ref (zo z)), (0, .ref a0)]) hx hb dL_law_490 hl (k := 3) rfl (nI_inc1 e9) (by decide) rfl (fun ls hl => ?_)
    refine lv_goto (tgt := 174) hx hb dL_law_493 (by decide) ?_
    exact ih_174 (16 - (e9 + 1) + 1) _ _ _ (show 16 - (e9 + 1) + 1 < 16 - e9 + 1 from by omega) ⟨(e9 + 1), M5, bz, oz, tk, lz, nx, dy, T5, ls, rfl, rfl, lv_sub hl [0, 4, 5, 6, 7, 8, 9, 10] rfl, hP, hD, hS, (⟨by omega, by omega, by omega, by omega⟩), e5, I5, H5⟩
  refine lv_aload_n hx hb dL_law_437 rfl (lv_at hl 9 rfl) ?_
  refine lv_iload hx hb dL_law_438 (lv_at hl 2 rfl) ?_
  refine lv_bipush (v := nI 6) hx hb dL_law_440 (by decide) ?_
  refine lv_ishr hx hb dL_law_442 ?_
  refine lv_aload_n hx hb dL_law_443 rfl (lv_at hl 9 rfl) ?_
  refine lv_iconst (v := nI 2) hx hb dL_law_444 (by decide) ?_
  refine zrV (M := M5) (M' := M5) (x := nI bz) (As := [.int (nI 2)]) (rest := [.int (x_47 >>> ((nI 6) &&& 31)), .ref (zo z)]) hx hb hml hown hts hN hK (t_count2 l dC dI z e5 I5 H5) 1 gL_law_X9_count rfl hdV_X9_count ⟨Nat.le_of_ble_eq_true rfl, Nat.le_of_ble_eq_true rfl⟩ hP hD hS rfl hl.1 rfl (Nat.le_of_ble_eq_true rfl) dL_law_445 ⟨Nat.le_refl _, Nat.le_refl _⟩ (fun H locs hP hD hS => ?_)
  refine zrP (As := [.int (x_47 >>> ((nI 6) &&& 31)), .int (nI bz)]) (rest := [.ref (zo z)]) hx hb hml hown hts (c_L_low l (x_47 >>> ((nI 6) &&& 31)) bz (by omega)) 2 gL_law_L_low rfl hdL_low ⟨Nat.le_of_ble_eq_true rfl, Nat.le_of_ble_eq_true rfl⟩ rfl hl.1 rfl (Nat.le_of_ble_eq_true rfl) dL_law_448 ⟨Nat.le_refl _, Nat.le_refl _⟩ (fun x_136 q_137 => ?_)
  obtain ⟨j_135, ej_135, hj_135⟩ : ∃ j : Nat, j = zlw (x_47 >>> ((nI 6) &&& 31)) bz ∧ j < bz := ⟨_, rfl, zlw_lt _ (by omega)⟩
  rw [q_137, ← ej_135]
  refine lv_iconst (v := nI 1) hx hb dL_law_451 (by decide) ?_
  refine lv_iload hx hb dL_law_452 (lv_at hl 2 rfl) ?_
  refine lv_bipush (v := nI 16) hx hb dL_law_454 (by decide) ?_
  refine lv_ishr hx hb dL_law_456 ?_
  refine lv_iconst (v := nI 3) hx hb dL_law_457 (by decide) ?_
  refine zrP (As := [.int (x_47 >>> ((nI 16) &&& 31)), .int (nI 3)]) (rest := [.int (nI 1), .int (nI j_135), .ref (zo z)]) hx hb hml hown hts (c_L_low l (x_47 >>> ((nI 16) &&& 31)) 3 (by omega)) 2 gL_law_L_low rfl hdL_low ⟨Nat.le_of_ble_eq_true rfl, Nat.le_of_ble_eq_true rfl⟩ rfl hl.1 rfl (Nat.le_of_ble_eq_true rfl) dL_law_458 ⟨Nat.le_refl _, Nat.le_refl _⟩ (fun x_139 q_140 => ?_)
  obtain ⟨j_138, ej_138, hj_138⟩ : ∃ j : Nat, j = zlw (x_47 >>> ((nI 16) &&& 31)) 3 ∧ j < 3 := ⟨_, rfl, zlw_lt _ (by omega)⟩
  rw [q_140, ← ej_138]
  refine xr_iadd_n hx hb dL_law_461 ?_
  refine zrS (M := M5) (As := [.ref (zo z), .int (nI j_135), .int (nI (1 + j_138))]) (rest := []) hx hb hml hown hts hN hK (c_L_stageIn l dC dI z e5 I5 H5 (show j_135 < bz by omega) (⟨by omega, by omega⟩ : 1 ≤ 1 + j_138 ∧ 1 + j_138 ≤ 3) (by omega)) 3 gL_law_L_stageIn rfl hdL_stageIn ⟨Nat.le_of_ble_eq_true rfl, Nat.le_of_ble_eq_true rfl⟩ hP hD hS rfl hl.1 rfl (Nat.le_of_ble_eq_true rfl) dL_law_462 ⟨Nat.le_refl _, Nat.le_refl _⟩ (fun x_141 M_143 H locs q_142 hP hD hS => ?_)
  obtain ⟨q_142, e6, H6⟩ := q_142
  rw [q_142]
  refine xr_if1 (tgt := 472) hx hb (by decide) dL_law_465 (by decide) ?_
  refine lv_iconst (v := nI 1) hx hb dL_law_468 (by decide) ?_
  refine lv_goto (tgt := 473) hx hb dL_law_469 (by decide) ?_
  refine lv_istore (lv' := [(10, .int (nI 1)), (9, .int (nI j_49)), (8, .int x_47), (7, .int (nI e9)), (6, .int (nI j_31)), (5, .int (nI (1 + j_28))), (4, .int (nI j_25)), (3, .int x_6), (2, .int (nI nn)), (1, .ref (zo z)), (0, .ref a0)]) hx hb dL_law_473 hl (by decide) rfl (fun ls hl => ?_)
  refine lv_iload hx hb dL_law_475 (lv_at hl 0 rfl) ?_
  refine xr_if1 (tgt := 488) hx hb (by decide) dL_law_477 (by decide) ?_
  refine lv_aload_n hx hb dL_law_480 rfl (lv_at hl 9 rfl) ?_
  refine lv_iload_n hx hb dL_law_481 rfl (lv_at hl 8 rfl) ?_
  refine zrS (M := M_143) (As := [.ref (zo z), .int (nI nn)]) (rest := []) hx hb hml hown hts hN hK (c_L_addUp l dC dI z e6 I5 H6) 2 gL_law_L_addUp rfl hdL_addUp ⟨Nat.le_of_ble_eq_true rfl, Nat.le_of_ble_eq_true rfl⟩ hP hD hS rfl hl.1 rfl (Nat.le_of_ble_eq_true rfl) dL_law_482 ⟨Nat.le_refl _, Nat.le_refl _⟩ (fun x_144 M_146 H locs q_145 hP hD hS => ?_)
  obtain ⟨q_145, q8⟩ := q_145
  rw [q8] at hP hD
  rw [q_145]
  refine xr_ifn1 (tgt := 490) hx hb (by decide) dL_law_485 (by decide) ?_
  refine lv_iinc (v := nI (e9 + 1)) (lv' := [(7, .int (nI (e9 + 1))), (10, .int (nI 1)), (9, .int (nI j_49)), (8, .int x_47), (6, .int (nI j_31)), (5, .int (nI (1 + j_28))), (4, .int (nI j_25)), (3, .int x_6), (2, .int (nI nn)), (1, .ref (zo z)), (0, .ref a0)]) hx hb dL_law_490 hl (k := 3) rfl (nI_inc1 e9) (by decide) rfl (fun ls hl => ?_)
  refine lv_goto (tgt := 174) hx hb dL_law_493 (by decide) ?_
  exact ih_174 (16 - (e9 + 1) + 1) _ _ _ (show 16 - (e9 + 1) + 1 < 16 - e9 + 1 from by omega) ⟨(e9 + 1), M_143, bz, oz, tk, lz, nx, dy, T5, ls, rfl, rfl, lv_sub hl [0, 4, 5, 6, 7, 8, 9, 10] rfl, hP, hD, hS, (⟨by omega, by omega, by omega, by omega⟩), e6, I5, H6⟩
