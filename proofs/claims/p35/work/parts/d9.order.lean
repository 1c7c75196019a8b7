/-! The law's order. -/
theorem zrJ {p : Program} {l : Launch} {e : Env} {R : Room} {s : State} {m : MethodId} {args : Array Value} {below : List Frame} {meth : Method} {c : Code} {H : Heap} {locs : List Loc} {cells slots : Nat} {Q : State → Prop} {g : JFrame} {J : Type} {lv : J → List (Nat × Value)} {K : J → Prop} {nL pcj : Nat}
    (h : (∀ (j : J) (ls : Array Slot), K j → lv_has ls nL (lv j) → W p l e R s m args below meth c H locs cells slots Q (F0 m pcj ls [])) → W p l e R s m args below meth c H locs cells slots Q g)
    (k : ∀ (j : J) (ls : Array Slot), K j → lv_has ls nL (lv j) → W p l e R s m args below meth c H locs cells slots Q (F0 m pcj ls [])) : W p l e R s m args below meth c H locs cells slots Q g := h k
section WORD
variable {n bz oz tk lz nx dy : Nat} {T : Nat → Nat → Int32} {kg W lm : Nat} {le sb : Int32} {F : XF}
theorem zwF0 {un : Int32} {g : Nat} (h : sb = 0) : zwF T bz g lm un le sb = zwG T bz g un le := by
  unfold zwF zwG xF2
  rw [if_pos h]
  rfl
theorem Iv.wdue (h : Iv n bz oz tk lz nx dy T) (hk : kg < n) (hW : W ≤ 400) (hF : F = zwF T bz kg lm (nI W) le sb) : ∃ d : Nat, d < 2 ^ 31 ∧ xdue (xsum F.2.2.2.2.1 F.1) (xf1 (T 39 0)) = nI d := by
  obtain ⟨G1, Gx, -, g2, -, g4, zn⟩ := h.f2 hk hW (le := le) (sb := sb) (lm := lm) (fb := fun _ => nI 0) (fu := fun _ => nI 0) (fc := fun _ => nI 0) (P := fun _ => 0)
  obtain ⟨G', C, z1, z2, z3, z4, -, -, -, -, -, z10, -⟩ := zn
  obtain ⟨rb, r1, r2⟩ := h.rbt
  obtain ⟨d, d1, d2⟩ := zdue (s := C) (rb := rb) (by omega) r1
  refine ⟨d, by omega, ?_⟩
  rw [hF]
  show xdue (xsum (xF2 T le (nI W) sb kg bz lm (fun _ => nI 0) (fun _ => nI 0) (fun _ => nI 0) (fun _ => 0)).2.2.2.2.1 (xF2 T le (nI W) sb kg bz lm (fun _ => nI 0) (fun _ => nI 0) (fun _ => nI 0) (fun _ => 0)).1) _ = _
  rw [z10, r2]
  exact d2
theorem Iv.w0 (h : Iv n bz oz tk lz nx dy T) (hk : kg < n) (hW : W ≤ 400) (hF : F = zwF T bz kg lm (nI W) le sb) (h0 : F.1 = 0) : F.2.1 = 0 := by
  obtain ⟨G1, Gx, -, g2, -, g4, zn⟩ := h.f2 hk hW (le := le) (sb := sb) (lm := lm) (fb := fun _ => nI 0) (fu := fun _ => nI 0) (fc := fun _ => nI 0) (P := fun _ => 0)
  obtain ⟨G', C, z1, z2, z3, z4, -, -, -, -, -, -, z11⟩ := zn
  rw [hF] at h0 ⊢
  have z := z11 h0
  rw [z] at z1
  exact z1
end WORD
set_option maxHeartbeats 4000000 in
set_option maxRecDepth 100000 in
theorem c_L_order (l : Launch) (dC : Nat → ClassId) (dI : Nat → Nat → Nat) (z : XK) {n bz oz tk lz nx dy : Nat} {T : Nat → Nat → Int32} {M : XM} {kg : Nat} {c9 : Int32} (eT : mT M = T) (hI : Iv n bz oz tk lz nx dy T) (hH : mH M []) (hk : kg < n) (ho : oz < 16) : zL (fun r M' => r = nI 1 ∧ ∃ (tk' lz' nx' : Nat) (T' : Nat → Nat → Int32), mT M' = T' ∧ Iv n bz (oz + 1) tk' lz' nx' dy T' ∧ mH M' []) l (dC, dI) z yL_order wsL_order 7 280 [.ref (zo z), .int (nI kg), .int c9] M := by
  unfold zL
  refine Met.ofW (cc := cL_order) (maxL := 14) (ret := (some .boolean)) (by decide) rfl ?_
  intro p e s m args below meth c s₁ B hml hv
  obtain ⟨rfl, hP, hK, hD0, hN⟩ := hv
  have hx := B.exec
  have hb := B.bytes
  have hr := B.returns
  have hts := atoms_spec (ws := wsL_order) B.pre
  have hown : s.vm.findClass RL = some m.cls := findClass_of_methodNamed B.named
  have hlocks := B.notSynchronized
  obtain ⟨A, hA⟩ : ∃ A, A = va_B (cw z M) := ⟨_, rfl⟩
  have hD : va_D A (cw z M) := hA ▸ hD0.own
  have hS : va_S A s.heap s.heap [] := va_S.rf
  have hl := lv_entry ([.ref (zo z), .int (nI kg), .int c9]) (n := 14) (Nat.le_of_ble_eq_true rfl)
  rw [lg_entry_eq]
  generalize (lg_sl ([.ref (zo z), .int (nI kg), .int c9]) ++ List.replicate (14 - (lg_sl ([.ref (zo z), .int (nI kg), .int c9])).length) Slot.unset).toArray = ls at hl ⊢
  have hl : lv_has ls 14 [(0, .ref (zo z)), (1, .int (nI kg)), (2, .int c9)] := hl
  have hn := hI.n1
  have htk := hI.1.2.1
  obtain ⟨-, -, lm, lm4, lmE, -⟩ := hI.G hk
  refine zrJ (J := Nat) (lv := fun W9 => [(3, .int (nI W9)), (0, .ref (zo z)), (1, .int (nI kg)), (2, .int c9)]) (K := fun W9 => 1 ≤ W9 ∧ W9 ≤ 400) (nL := 14) (pcj := 29) (fun jn_1 => ?_) ?_
  · skip
    refine lv_iconst (v := nI 1) hx hb dL_order_0 (by decide) ?_
    refine lv_iload_n hx hb dL_order_1 rfl (lv_at hl 2 rfl) ?_
    refine lv_bipush (v := nI 6) hx hb dL_order_2 (by decide) ?_
    refine lv_ishr hx hb dL_order_4 ?_
    refine lv_iload_n hx hb dL_order_5 rfl (lv_at hl 2 rfl) ?_
    refine lv_bipush (v := nI 27) hx hb dL_order_6 (by decide) ?_
    refine lv_ishr hx hb dL_order_8 ?_
    refine lv_iconst (v := nI 3) hx hb dL_order_9 (by decide) ?_
    refine zrP (As := [.int (c9 >>> ((nI 27) &&& 31)), .int (nI 3)]) (rest := [.int (c9 >>> ((nI 6) &&& 31)), .int (nI 1)]) hx hb hml hown hts (c_L_low l (c9 >>> ((nI 27) &&& 31)) 3 (by omega)) 2 gL_order_L_low rfl hdL_low ⟨Nat.le_of_ble_eq_true rfl, Nat.le_of_ble_eq_true rfl⟩ rfl hl.1 rfl (Nat.le_of_ble_eq_true rfl) dL_order_10 ⟨Nat.zero_le _, Nat.zero_le _⟩ (fun x_3 q_4 => ?_)
    obtain ⟨j_2, ej_2, hj_2⟩ : ∃ j : Nat, j = zlw (c9 >>> ((nI 27) &&& 31)) 3 ∧ j < 3 := ⟨_, rfl, zlw_lt _ (by omega)⟩
    rw [q_4, ← ej_2]
    refine xr_zne_n (tgt := 22) hx hb (by omega) dL_order_13 (by decide) (fun c_5 => ?_) (fun c_5 => ?_)
    · skip
      refine lv_bipush (v := nI 30) hx hb dL_order_22 (by decide) ?_
      refine zrP (As := [.int (c9 >>> ((nI 6) &&& 31)), .int (nI 30)]) (rest := [.int (nI 1)]) hx hb hml hown hts (c_L_low l (c9 >>> ((nI 6) &&& 31)) 30 (by omega)) 2 gL_order_L_low rfl hdL_low ⟨Nat.le_of_ble_eq_true rfl, Nat.le_of_ble_eq_true rfl⟩ rfl hl.1 rfl (Nat.le_of_ble_eq_true rfl) dL_order_24 ⟨Nat.zero_le _, Nat.zero_le _⟩ (fun x_7 q_8 => ?_)
      obtain ⟨j_6, ej_6, hj_6⟩ : ∃ j : Nat, j = zlw (c9 >>> ((nI 6) &&& 31)) 30 ∧ j < 30 := ⟨_, rfl, zlw_lt _ (by omega)⟩
      rw [q_8, ← ej_6]
      refine xr_iadd_n hx hb dL_order_27 ?_
      refine lv_istore_n (lv' := [(3, .int (nI (1 + j_6))), (0, .ref (zo z)), (1, .int (nI kg)), (2, .int c9)]) hx hb dL_order_28 rfl hl (by decide) rfl (fun ls hl => ?_)
      exact jn_1 (1 + j_6) ls (⟨by omega, by omega⟩) (lv_sub hl [0, 1, 2, 3] rfl)
    refine lv_sipush (v := nI 400) hx hb dL_order_16 (by decide) ?_
    refine lv_goto (tgt := 24) hx hb dL_order_19 (by decide) ?_
    refine zrP (As := [.int (c9 >>> ((nI 6) &&& 31)), .int (nI 400)]) (rest := [.int (nI 1)]) hx hb hml hown hts (c_L_low l (c9 >>> ((nI 6) &&& 31)) 400 (by omega)) 2 gL_order_L_low rfl hdL_low ⟨Nat.le_of_ble_eq_true rfl, Nat.le_of_ble_eq_true rfl⟩ rfl hl.1 rfl (Nat.le_of_ble_eq_true rfl) dL_order_24 ⟨Nat.zero_le _, Nat.zero_le _⟩ (fun x_10 q_11 => ?_)
    obtain ⟨j_9, ej_9, hj_9⟩ : ∃ j : Nat, j = zlw (c9 >>> ((nI 6) &&& 31)) 400 ∧ j < 400 := ⟨_, rfl, zlw_lt _ (by omega)⟩
    rw [q_11, ← ej_9]
    refine xr_iadd_n hx hb dL_order_27 ?_
    refine lv_istore_n (lv' := [(3, .int (nI (1 + j_9))), (0, .ref (zo z)), (1, .int (nI kg)), (2, .int c9)]) hx hb dL_order_28 rfl hl (by decide) rfl (fun ls hl => ?_)
    exact jn_1 (1 + j_9) ls (⟨by omega, by omega⟩) (lv_sub hl [0, 1, 2, 3] rfl)
  intro W9 ls hW9 hl
  refine lv_iload_n hx hb dL_order_29 rfl (lv_at hl 3 rfl) ?_
  refine lv_bipush (v := nI 15) hx hb dL_order_30 (by decide) ?_
  refine lv_ishr hx hb dL_order_32 ?_
  refine lv_bipush (v := nI 9) hx hb dL_order_33 (by decide) ?_
  refine zrP (As := [.int (c9 >>> ((nI 15) &&& 31)), .int (nI 9)]) (rest := []) hx hb hml hown hts (c_L_low l (c9 >>> ((nI 15) &&& 31)) 9 (by omega)) 2 gL_order_L_low rfl hdL_low ⟨Nat.le_of_ble_eq_true rfl, Nat.le_of_ble_eq_true rfl⟩ rfl hl.1 rfl (Nat.le_of_ble_eq_true rfl) dL_order_35 ⟨Nat.zero_le _, Nat.zero_le _⟩ (fun x_13 q_14 => ?_)
  obtain ⟨j_12, ej_12, hj_12⟩ : ∃ j : Nat, j = zlw (c9 >>> ((nI 15) &&& 31)) 9 ∧ j < 9 := ⟨_, rfl, zlw_lt _ (by omega)⟩
  rw [q_14, ← ej_12]
  refine lv_istore (lv' := [(4, .int (nI j_12)), (3, .int (nI W9)), (0, .ref (zo z)), (1, .int (nI kg)), (2, .int c9)]) hx hb dL_order_38 hl (by decide) rfl (fun ls hl => ?_)
  obtain ⟨L9, hL9⟩ : ∃ L9, L9 = j_12 := ⟨_, rfl⟩
  rw [← hL9] at hl
  refine zrJ (J := Int32) (lv := fun sb => [(5, .int sb), (4, .int (nI L9)), (3, .int (nI W9)), (0, .ref (zo z)), (1, .int (nI kg)), (2, .int c9)]) (K := fun sb => True) (nL := 14) (pcj := 58) (fun jn_15 => ?_) ?_
  · skip
    refine lv_iload_n hx hb dL_order_40 rfl (lv_at hl 4 rfl) ?_
    refine lv_bipush (v := nI 20) hx hb dL_order_41 (by decide) ?_
    refine lv_ishr hx hb dL_order_43 ?_
    refine lv_iconst (v := nI 3) hx hb dL_order_44 (by decide) ?_
    refine zrP (As := [.int (c9 >>> ((nI 20) &&& 31)), .int (nI 3)]) (rest := []) hx hb hml hown hts (c_L_low l (c9 >>> ((nI 20) &&& 31)) 3 (by omega)) 2 gL_order_L_low rfl hdL_low ⟨Nat.le_of_ble_eq_true rfl, Nat.le_of_ble_eq_true rfl⟩ rfl hl.1 rfl (Nat.le_of_ble_eq_true rfl) dL_order_45 ⟨Nat.zero_le _, Nat.zero_le _⟩ (fun x_17 q_18 => ?_)
    obtain ⟨j_16, ej_16, hj_16⟩ : ∃ j : Nat, j = zlw (c9 >>> ((nI 20) &&& 31)) 3 ∧ j < 3 := ⟨_, rfl, zlw_lt _ (by omega)⟩
    rw [q_18, ← ej_16]
    refine xr_zle_n (tgt := 55) hx hb (by omega) dL_order_48 (by decide) (fun c_19 => ?_) (fun c_19 => ?_)
    · skip
      refine lv_iconst (v := nI 0) hx hb dL_order_55 (by decide) ?_
      refine lv_istore (lv' := [(5, .int (nI 0)), (4, .int (nI L9)), (3, .int (nI W9)), (0, .ref (zo z)), (1, .int (nI kg)), (2, .int c9)]) hx hb dL_order_56 hl (by decide) rfl (fun ls hl => ?_)
      exact jn_15 (nI 0) ls trivial (lv_sub hl [0, 1, 2, 3, 4, 5] rfl)
    refine lv_iconst (v := nI 1) hx hb dL_order_51 (by decide) ?_
    refine lv_goto (tgt := 56) hx hb dL_order_52 (by decide) ?_
    refine lv_istore (lv' := [(5, .int (nI 1)), (4, .int (nI L9)), (3, .int (nI W9)), (0, .ref (zo z)), (1, .int (nI kg)), (2, .int c9)]) hx hb dL_order_56 hl (by decide) rfl (fun ls hl => ?_)
    exact jn_15 (nI 1) ls trivial (lv_sub hl [0, 1, 2, 3, 4, 5] rfl)
  intro sb ls hsb hl
  obtain ⟨F, hF⟩ : ∃ F, F = zwF T bz kg lm (nI W9) (nI L9) sb := ⟨_, rfl⟩
  obtain ⟨G, hG⟩ : ∃ G, G = zwG T bz kg (nI W9) (nI L9) := ⟨_, rfl⟩
  obtain ⟨D9, hD9⟩ : ∃ D9, D9 = xdue (xsum F.2.2.2.2.1 F.1) (xf1 (T 39 0)) := ⟨_, rfl⟩
  obtain ⟨dd, dd1, dd2⟩ := hI.wdue hk hW9.2 hF
  rw [← hD9] at dd2
  have hfit : F.1 ≤ 40 ∧ tk + F.1 ≤ 70 := by rw [hF]; exact ⟨(hI.fits hk hW9.2).1, (hI.fits hk hW9.2).2.1⟩
  refine lv_aload_n hx hb dL_order_58 rfl (lv_at hl 3 rfl) ?_
  refine lv_iload_n hx hb dL_order_59 rfl (lv_at hl 4 rfl) ?_
  refine lv_iload_n hx hb dL_order_60 rfl (lv_at hl 2 rfl) ?_
  refine lv_iload hx hb dL_order_61 (lv_at hl 1 rfl) ?_
  refine lv_iload hx hb dL_order_63 (lv_at hl 0 rfl) ?_
  refine lv_iconst (v := nI 0) hx hb dL_order_65 (by decide) ?_
  obtain ⟨M1, k1, e1, s1⟩ := ua_would l dC dI z (sb := sb) eT hI hk hW9 (show L9 ≤ 60 by omega) lmE lm4 (show 0 ≤ 3 by omega)
  have H1 := s1 _ hH
  refine zrV (M := M) (M' := M1) (x := F.2.1) (As := [.int (nI kg), .int (nI W9), .int (nI L9), .int sb, .int (nI 0)]) (rest := []) hx hb hml hown hts hN hK (zX.r k1 (by rw [← hF, ← hG]; rfl)) 5 gL_order_X9_wouldGet rfl hdV_X9_wouldGet ⟨Nat.le_of_ble_eq_true rfl, Nat.le_of_ble_eq_true rfl⟩ hP hD hS rfl hl.1 rfl (Nat.le_of_ble_eq_true rfl) dL_order_66 ⟨Nat.zero_le _, Nat.zero_le _⟩ (fun H locs hP hD hS => ?_)
  refine lv_istore (lv' := [(6, .int F.2.1), (5, .int sb), (4, .int (nI L9)), (3, .int (nI W9)), (0, .ref (zo z)), (1, .int (nI kg)), (2, .int c9)]) hx hb dL_order_69 hl (by decide) rfl (fun ls hl => ?_)
  refine lv_aload_n hx hb dL_order_71 rfl (lv_at hl 4 rfl) ?_
  refine lv_iload_n hx hb dL_order_72 rfl (lv_at hl 5 rfl) ?_
  refine lv_iload_n hx hb dL_order_73 rfl (lv_at hl 3 rfl) ?_
  refine lv_iload hx hb dL_order_74 (lv_at hl 2 rfl) ?_
  refine lv_iload hx hb dL_order_76 (lv_at hl 1 rfl) ?_
  refine lv_iconst (v := nI 1) hx hb dL_order_78 (by decide) ?_
  obtain ⟨M2, k2, e2, s2⟩ := ua_would l dC dI z (sb := sb) e1 hI hk hW9 (show L9 ≤ 60 by omega) lmE lm4 (show 1 ≤ 3 by omega)
  have H2 := s2 _ H1
  refine zrV (M := M1) (M' := M2) (x := F.2.1 - G.2.1) (As := [.int (nI kg), .int (nI W9), .int (nI L9), .int sb, .int (nI 1)]) (rest := []) hx hb hml hown hts hN hK (zX.r k2 (by rw [← hF, ← hG]; rfl)) 5 gL_order_X9_wouldGet rfl hdV_X9_wouldGet ⟨Nat.le_of_ble_eq_true rfl, Nat.le_of_ble_eq_true rfl⟩ hP hD hS rfl hl.1 rfl (Nat.le_of_ble_eq_true rfl) dL_order_79 ⟨Nat.zero_le _, Nat.zero_le _⟩ (fun H locs hP hD hS => ?_)
  refine lv_istore (lv' := [(7, .int (F.2.1 - G.2.1)), (6, .int F.2.1), (5, .int sb), (4, .int (nI L9)), (3, .int (nI W9)), (0, .ref (zo z)), (1, .int (nI kg)), (2, .int c9)]) hx hb dL_order_82 hl (by decide) rfl (fun ls hl => ?_)
  refine lv_aload_n hx hb dL_order_84 rfl (lv_at hl 5 rfl) ?_
  refine lv_iload_n hx hb dL_order_85 rfl (lv_at hl 6 rfl) ?_
  refine lv_iload_n hx hb dL_order_86 rfl (lv_at hl 4 rfl) ?_
  refine lv_iload hx hb dL_order_87 (lv_at hl 3 rfl) ?_
  refine lv_iload hx hb dL_order_89 (lv_at hl 2 rfl) ?_
  refine lv_iconst (v := nI 2) hx hb dL_order_91 (by decide) ?_
  obtain ⟨M3, k3, e3, s3⟩ := ua_would l dC dI z (sb := sb) e2 hI hk hW9 (show L9 ≤ 60 by omega) lmE lm4 (show 2 ≤ 3 by omega)
  have H3 := s3 _ H2
  refine zrV (M := M2) (M' := M3) (x := nI F.1) (As := [.int (nI kg), .int (nI W9), .int (nI L9), .int sb, .int (nI 2)]) (rest := []) hx hb hml hown hts hN hK (zX.r k3 (by rw [← hF, ← hG]; rfl)) 5 gL_order_X9_wouldGet rfl hdV_X9_wouldGet ⟨Nat.le_of_ble_eq_true rfl, Nat.le_of_ble_eq_true rfl⟩ hP hD hS rfl hl.1 rfl (Nat.le_of_ble_eq_true rfl) dL_order_92 ⟨Nat.zero_le _, Nat.zero_le _⟩ (fun H locs hP hD hS => ?_)
  refine lv_istore (lv' := [(8, .int (nI F.1)), (7, .int (F.2.1 - G.2.1)), (6, .int F.2.1), (5, .int sb), (4, .int (nI L9)), (3, .int (nI W9)), (0, .ref (zo z)), (1, .int (nI kg)), (2, .int c9)]) hx hb dL_order_95 hl (by decide) rfl (fun ls hl => ?_)
  refine lv_aload_n hx hb dL_order_97 rfl (lv_at hl 6 rfl) ?_
  refine lv_iload_n hx hb dL_order_98 rfl (lv_at hl 7 rfl) ?_
  refine lv_iload_n hx hb dL_order_99 rfl (lv_at hl 5 rfl) ?_
  refine lv_iload hx hb dL_order_100 (lv_at hl 4 rfl) ?_
  refine lv_iload hx hb dL_order_102 (lv_at hl 3 rfl) ?_
  refine lv_iconst (v := nI 3) hx hb dL_order_104 (by decide) ?_
  obtain ⟨M4, k4, e4, s4⟩ := ua_would l dC dI z (sb := sb) e3 hI hk hW9 (show L9 ≤ 60 by omega) lmE lm4 (show 3 ≤ 3 by omega)
  have H4 := s4 _ H3
  refine zrV (M := M3) (M' := M4) (x := D9) (As := [.int (nI kg), .int (nI W9), .int (nI L9), .int sb, .int (nI 3)]) (rest := []) hx hb hml hown hts hN hK (zX.r k4 (by rw [← hF, ← hG, hD9]; rfl)) 5 gL_order_X9_wouldGet rfl hdV_X9_wouldGet ⟨Nat.le_of_ble_eq_true rfl, Nat.le_of_ble_eq_true rfl⟩ hP hD hS rfl hl.1 rfl (Nat.le_of_ble_eq_true rfl) dL_order_105 ⟨Nat.zero_le _, Nat.zero_le _⟩ (fun H locs hP hD hS => ?_)
  refine lv_istore (lv' := [(9, .int D9), (8, .int (nI F.1)), (7, .int (F.2.1 - G.2.1)), (6, .int F.2.1), (5, .int sb), (4, .int (nI L9)), (3, .int (nI W9)), (0, .ref (zo z)), (1, .int (nI kg)), (2, .int c9)]) hx hb dL_order_108 hl (by decide) rfl (fun ls hl => ?_)
  refine lv_aload_n hx hb dL_order_110 rfl (lv_at hl 7 rfl) ?_
  refine lv_iconst (v := nI 3) hx hb dL_order_111 (by decide) ?_
  refine zrV (M := M4) (M' := M4) (x := nI oz) (As := [.int (nI 3)]) (rest := []) hx hb hml hown hts hN hK (t_count3 l dC dI z e4 hI H4) 1 gL_order_X9_count rfl hdV_X9_count ⟨Nat.le_of_ble_eq_true rfl, Nat.le_of_ble_eq_true rfl⟩ hP hD hS rfl hl.1 rfl (Nat.le_of_ble_eq_true rfl) dL_order_112 ⟨Nat.zero_le _, Nat.zero_le _⟩ (fun H locs hP hD hS => ?_)
  refine lv_istore (lv' := [(10, .int (nI oz)), (9, .int D9), (8, .int (nI F.1)), (7, .int (F.2.1 - G.2.1)), (6, .int F.2.1), (5, .int sb), (4, .int (nI L9)), (3, .int (nI W9)), (0, .ref (zo z)), (1, .int (nI kg)), (2, .int c9)]) hx hb dL_order_115 hl (by decide) rfl (fun ls hl => ?_)
  refine lv_aload_n hx hb dL_order_117 rfl (lv_at hl 8 rfl) ?_
  refine lv_iconst (v := nI 4) hx hb dL_order_118 (by decide) ?_
  refine zrV (M := M4) (M' := M4) (x := xsum (T 9) bz) (As := [.int (nI 4)]) (rest := []) hx hb hml hown hts hN hK (t_count4 l dC dI z e4 hI H4) 1 gL_order_X9_count rfl hdV_X9_count ⟨Nat.le_of_ble_eq_true rfl, Nat.le_of_ble_eq_true rfl⟩ hP hD hS rfl hl.1 rfl (Nat.le_of_ble_eq_true rfl) dL_order_119 ⟨Nat.zero_le _, Nat.zero_le _⟩ (fun H locs hP hD hS => ?_)
  refine lv_istore (lv' := [(11, .int (xsum (T 9) bz)), (10, .int (nI oz)), (9, .int D9), (8, .int (nI F.1)), (7, .int (F.2.1 - G.2.1)), (6, .int F.2.1), (5, .int sb), (4, .int (nI L9)), (3, .int (nI W9)), (0, .ref (zo z)), (1, .int (nI kg)), (2, .int c9)]) hx hb dL_order_122 hl (by decide) rfl (fun ls hl => ?_)
  refine lv_aload_n hx hb dL_order_124 rfl (lv_at hl 9 rfl) ?_
  refine lv_iload_n hx hb dL_order_125 rfl (lv_at hl 10 rfl) ?_
  refine lv_iload_n hx hb dL_order_126 rfl (lv_at hl 8 rfl) ?_
  refine lv_iload hx hb dL_order_127 (lv_at hl 7 rfl) ?_
  refine lv_iload hx hb dL_order_129 (lv_at hl 6 rfl) ?_
  obtain ⟨M5, F5, G5, ko, hF5, hG5, e5, H5⟩ := ua_order l dC dI z (sb := sb) e4 hI H4 (by decide) hk hW9 (show L9 ≤ 60 by omega) lmE lm4 ho
  have r5 : zR F5 F := by rw [hF5, hF]; exact zF2_same
  have rG : zR G5 G := by rw [hG5, hG]; exact zF1_same
  obtain ⟨q, hq⟩ : ∃ q, q = odQ T oz tk lz nx F5 := ⟨_, rfl⟩
  obtain ⟨I5, O5⟩ := hI.order ho hk hW9.2 hF5 hG5 hq
  rw [← hq] at e5
  obtain ⟨T5, hT5⟩ : ∃ x, x = odT T n bz oz tk kg (nI W9) (nI L9) sb F5 G5 q := ⟨_, rfl⟩
  rw [← hT5] at e5 I5 O5
  obtain ⟨o20, o21, o24, o25, o18, o19, o22, o26, o27, o9s, o9, oev⟩ := O5
  have hdd : xdue (xsum F5.2.2.2.2.1 F5.1) (xf1 (T 39 0)) = D9 := by
    rw [hD9, r5.1, zs_congr (f := F5.2.2.2.2.1) (g := F.2.2.2.2.1) F.1 fun j hj => (r5.2.2.2 j (by rw [r5.1]; exact hj)).2.2]
  refine zrV (M := M4) (M' := M5) (x := F.2.1) (As := [.int (nI kg), .int (nI W9), .int (nI L9), .int sb]) (rest := []) hx hb hml hown hts hN hK (zX.r ko r5.2.1) 4 gL_order_X9_order rfl hdV_X9_order ⟨Nat.le_of_ble_eq_true rfl, Nat.le_of_ble_eq_true rfl⟩ hP hD hS rfl hl.1 rfl (Nat.le_of_ble_eq_true rfl) dL_order_131 ⟨Nat.zero_le _, Nat.zero_le _⟩ (fun H locs hP hD hS => ?_)
  refine lv_istore (lv' := [(12, .int F.2.1), (11, .int (xsum (T 9) bz)), (10, .int (nI oz)), (9, .int D9), (8, .int (nI F.1)), (7, .int (F.2.1 - G.2.1)), (6, .int F.2.1), (5, .int sb), (4, .int (nI L9)), (3, .int (nI W9)), (0, .ref (zo z)), (1, .int (nI kg)), (2, .int c9)]) hx hb dL_order_134 hl (by decide) rfl (fun ls hl => ?_)
  refine lv_iload hx hb dL_order_136 (lv_at hl 2 rfl) ?_
  refine lv_bipush (v := nI 30) hx hb dL_order_138 (by decide) ?_
  refine xr_ne_n (tgt := 156) hx hb (by omega) (by omega) dL_order_140 (by decide) (fun c_20 => ?_) (fun c_20 => False.elim (by omega))
  refine lv_iload hx hb dL_order_156 (lv_at hl 0 rfl) ?_
  refine lv_iload hx hb dL_order_158 (lv_at hl 6 rfl) ?_
  refine lv_icmp_ne (tgt := 230) hx hb dL_order_160 (by decide) (fun c_21 => False.elim (by exact c_21 rfl)) (fun c_21 => ?_)
  refine lv_aload_n hx hb dL_order_163 rfl (lv_at hl 10 rfl) ?_
  refine lv_iload hx hb dL_order_164 (lv_at hl 2 rfl) ?_
  refine lv_iconst (v := nI 2) hx hb dL_order_166 (by decide) ?_
  refine zrV (M := M5) (M' := M5) (x := T5 20 oz) (As := [.int (nI oz), .int (nI 2)]) (rest := []) hx hb hml hown hts hN hK (t_order2 l dC dI z e5 I5 (by omega)) 2 gL_order_X9_orderTold rfl hdV_X9_orderTold ⟨Nat.le_of_ble_eq_true rfl, Nat.le_of_ble_eq_true rfl⟩ hP hD hS rfl hl.1 rfl (Nat.le_of_ble_eq_true rfl) dL_order_167 ⟨Nat.zero_le _, Nat.zero_le _⟩ (fun H locs hP hD hS => ?_)
  refine lv_iload hx hb dL_order_170 (lv_at hl 6 rfl) ?_
  refine lv_icmp_ne (tgt := 230) hx hb dL_order_172 (by decide) (fun c_22 => False.elim (by exact c_22 (o20.trans r5.2.1))) (fun c_22 => ?_)
  refine lv_aload_n hx hb dL_order_175 rfl (lv_at hl 10 rfl) ?_
  refine lv_iload hx hb dL_order_176 (lv_at hl 2 rfl) ?_
  refine lv_iconst (v := nI 3) hx hb dL_order_178 (by decide) ?_
  refine zrV (M := M5) (M' := M5) (x := T5 21 oz) (As := [.int (nI oz), .int (nI 3)]) (rest := []) hx hb hml hown hts hN hK (t_order3 l dC dI z e5 I5 (by omega)) 2 gL_order_X9_orderTold rfl hdV_X9_orderTold ⟨Nat.le_of_ble_eq_true rfl, Nat.le_of_ble_eq_true rfl⟩ hP hD hS rfl hl.1 rfl (Nat.le_of_ble_eq_true rfl) dL_order_179 ⟨Nat.zero_le _, Nat.zero_le _⟩ (fun H locs hP hD hS => ?_)
  refine lv_iload hx hb dL_order_182 (lv_at hl 5 rfl) ?_
  refine lv_icmp_ne (tgt := 230) hx hb dL_order_184 (by decide) (fun c_23 => False.elim (by exact c_23 (by rw [o21, r5.2.1, rG.2.1]))) (fun c_23 => ?_)
  refine lv_aload_n hx hb dL_order_187 rfl (lv_at hl 10 rfl) ?_
  refine lv_iload hx hb dL_order_188 (lv_at hl 2 rfl) ?_
  refine lv_bipush (v := nI 6) hx hb dL_order_190 (by decide) ?_
  refine zrV (M := M5) (M' := M5) (x := T5 24 oz) (As := [.int (nI oz), .int (nI 6)]) (rest := []) hx hb hml hown hts hN hK (t_order6 l dC dI z e5 I5 (by omega)) 2 gL_order_X9_orderTold rfl hdV_X9_orderTold ⟨Nat.le_of_ble_eq_true rfl, Nat.le_of_ble_eq_true rfl⟩ hP hD hS rfl hl.1 rfl (Nat.le_of_ble_eq_true rfl) dL_order_192 ⟨Nat.zero_le _, Nat.zero_le _⟩ (fun H locs hP hD hS => ?_)
  refine lv_iload hx hb dL_order_195 (lv_at hl 4 rfl) ?_
  refine lv_icmp_ne (tgt := 230) hx hb dL_order_197 (by decide) (fun c_24 => False.elim (by exact c_24 (by rw [o24, r5.1]))) (fun c_24 => ?_)
  refine lv_aload_n hx hb dL_order_200 rfl (lv_at hl 10 rfl) ?_
  refine lv_iload hx hb dL_order_201 (lv_at hl 2 rfl) ?_
  refine lv_bipush (v := nI 7) hx hb dL_order_203 (by decide) ?_
  refine zrV (M := M5) (M' := M5) (x := T5 25 oz) (As := [.int (nI oz), .int (nI 7)]) (rest := []) hx hb hml hown hts hN hK (t_order7 l dC dI z e5 I5 (by omega)) 2 gL_order_X9_orderTold rfl hdV_X9_orderTold ⟨Nat.le_of_ble_eq_true rfl, Nat.le_of_ble_eq_true rfl⟩ hP hD hS rfl hl.1 rfl (Nat.le_of_ble_eq_true rfl) dL_order_205 ⟨Nat.zero_le _, Nat.zero_le _⟩ (fun H locs hP hD hS => ?_)
  refine lv_iload hx hb dL_order_208 (lv_at hl 3 rfl) ?_
  refine lv_icmp_ne (tgt := 230) hx hb dL_order_210 (by decide) (fun c_25 => False.elim (by exact c_25 (o25.trans hdd))) (fun c_25 => ?_)
  refine lv_aload_n hx hb dL_order_213 rfl (lv_at hl 10 rfl) ?_
  refine lv_iconst (v := nI 4) hx hb dL_order_214 (by decide) ?_
  refine zrV (M := M5) (M' := M5) (x := xsum (T5 9) bz) (As := [.int (nI 4)]) (rest := []) hx hb hml hown hts hN hK (t_count4 l dC dI z e5 I5 H5) 1 gL_order_X9_count rfl hdV_X9_count ⟨Nat.le_of_ble_eq_true rfl, Nat.le_of_ble_eq_true rfl⟩ hP hD hS rfl hl.1 rfl (Nat.le_of_ble_eq_true rfl) dL_order_215 ⟨Nat.zero_le _, Nat.zero_le _⟩ (fun H locs hP hD hS => ?_)
  refine lv_iload hx hb dL_order_218 (lv_at hl 1 rfl) ?_
  refine lv_iload hx hb dL_order_220 (lv_at hl 6 rfl) ?_
  refine lv_isub hx hb dL_order_222 ?_
  refine lv_icmp_ne (tgt := 230) hx hb dL_order_223 (by decide) (fun c_26 => False.elim (by exact c_26 (by rw [o9s, r5.2.1]))) (fun c_26 => ?_)
  refine lv_iconst (v := nI 1) hx hb dL_order_226 (by decide) ?_
  refine lv_goto (tgt := 231) hx hb dL_order_227 (by decide) ?_
  refine lv_istore (lv' := [(13, .int (nI 1)), (12, .int F.2.1), (11, .int (xsum (T 9) bz)), (10, .int (nI oz)), (9, .int D9), (8, .int (nI F.1)), (7, .int (F.2.1 - G.2.1)), (6, .int F.2.1), (5, .int sb), (4, .int (nI L9)), (3, .int (nI W9)), (0, .ref (zo z)), (1, .int (nI kg)), (2, .int c9)]) hx hb dL_order_231 hl (by decide) rfl (fun ls hl => ?_)
  refine lv_iload hx hb dL_order_233 (lv_at hl 0 rfl) ?_
  refine xr_if1 (tgt := 307) hx hb (by decide) dL_order_235 (by decide) ?_
  refine lv_aload_n hx hb dL_order_238 rfl (lv_at hl 11 rfl) ?_
  refine lv_iload hx hb dL_order_239 (lv_at hl 3 rfl) ?_
  refine lv_iconst (v := nI 0) hx hb dL_order_241 (by decide) ?_
  refine zrV (M := M5) (M' := M5) (x := T5 18 oz) (As := [.int (nI oz), .int (nI 0)]) (rest := []) hx hb hml hown hts hN hK (t_order0 l dC dI z e5 I5 (by omega)) 2 gL_order_X9_orderTold rfl hdV_X9_orderTold ⟨Nat.le_of_ble_eq_true rfl, Nat.le_of_ble_eq_true rfl⟩ hP hD hS rfl hl.1 rfl (Nat.le_of_ble_eq_true rfl) dL_order_242 ⟨Nat.zero_le _, Nat.zero_le _⟩ (fun H locs hP hD hS => ?_)
  refine lv_iload_n hx hb dL_order_245 rfl (lv_at hl 12 rfl) ?_
  refine lv_icmp_ne (tgt := 307) hx hb dL_order_246 (by decide) (fun c_27 => False.elim (by exact c_27 o18)) (fun c_27 => ?_)
  refine lv_aload_n hx hb dL_order_249 rfl (lv_at hl 11 rfl) ?_
  refine lv_iload hx hb dL_order_250 (lv_at hl 3 rfl) ?_
  refine lv_iconst (v := nI 1) hx hb dL_order_252 (by decide) ?_
  refine zrV (M := M5) (M' := M5) (x := T5 19 oz) (As := [.int (nI oz), .int (nI 1)]) (rest := []) hx hb hml hown hts hN hK (t_order1 l dC dI z e5 I5 (by omega)) 2 gL_order_X9_orderTold rfl hdV_X9_orderTold ⟨Nat.le_of_ble_eq_true rfl, Nat.le_of_ble_eq_true rfl⟩ hP hD hS rfl hl.1 rfl (Nat.le_of_ble_eq_true rfl) dL_order_253 ⟨Nat.zero_le _, Nat.zero_le _⟩ (fun H locs hP hD hS => ?_)
  refine lv_iload_n hx hb dL_order_256 rfl (lv_at hl 10 rfl) ?_
  refine lv_icmp_ne (tgt := 307) hx hb dL_order_257 (by decide) (fun c_28 => False.elim (by exact c_28 o19)) (fun c_28 => ?_)
  refine lv_aload_n hx hb dL_order_260 rfl (lv_at hl 11 rfl) ?_
  refine lv_iload hx hb dL_order_261 (lv_at hl 3 rfl) ?_
  refine lv_iconst (v := nI 4) hx hb dL_order_263 (by decide) ?_
  refine zrV (M := M5) (M' := M5) (x := T5 22 oz) (As := [.int (nI oz), .int (nI 4)]) (rest := []) hx hb hml hown hts hN hK (t_order4 l dC dI z e5 I5 (by omega)) 2 gL_order_X9_orderTold rfl hdV_X9_orderTold ⟨Nat.le_of_ble_eq_true rfl, Nat.le_of_ble_eq_true rfl⟩ hP hD hS rfl hl.1 rfl (Nat.le_of_ble_eq_true rfl) dL_order_264 ⟨Nat.zero_le _, Nat.zero_le _⟩ (fun H locs hP hD hS => ?_)
  refine lv_iload hx hb dL_order_267 (lv_at hl 9 rfl) ?_
  refine lv_icmp_ne (tgt := 307) hx hb dL_order_269 (by decide) (fun c_29 => False.elim (by exact c_29 o22)) (fun c_29 => ?_)
  refine lv_aload_n hx hb dL_order_272 rfl (lv_at hl 11 rfl) ?_
  refine lv_iload hx hb dL_order_273 (lv_at hl 3 rfl) ?_
  refine lv_bipush (v := nI 8) hx hb dL_order_275 (by decide) ?_
  refine zrV (M := M5) (M' := M5) (x := T5 26 oz) (As := [.int (nI oz), .int (nI 8)]) (rest := []) hx hb hml hown hts hN hK (t_order8 l dC dI z e5 I5 (by omega)) 2 gL_order_X9_orderTold rfl hdV_X9_orderTold ⟨Nat.le_of_ble_eq_true rfl, Nat.le_of_ble_eq_true rfl⟩ hP hD hS rfl hl.1 rfl (Nat.le_of_ble_eq_true rfl) dL_order_277 ⟨Nat.zero_le _, Nat.zero_le _⟩ (fun H locs hP hD hS => ?_)
  refine lv_aload_n hx hb dL_order_280 rfl (lv_at hl 11 rfl) ?_
  refine lv_iconst (v := nI 0) hx hb dL_order_281 (by decide) ?_
  refine zrV (M := M5) (M' := M5) (x := nI dy) (As := [.int (nI 0)]) (rest := [.int (T5 26 oz)]) hx hb hml hown hts hN hK (t_count0 l dC dI z e5 I5 H5) 1 gL_order_X9_count rfl hdV_X9_count ⟨Nat.le_of_ble_eq_true rfl, Nat.le_of_ble_eq_true rfl⟩ hP hD hS rfl hl.1 rfl (Nat.le_of_ble_eq_true rfl) dL_order_282 ⟨Nat.zero_le _, Nat.zero_le _⟩ (fun H locs hP hD hS => ?_)
  refine lv_icmp_ne (tgt := 307) hx hb dL_order_285 (by decide) (fun c_30 => False.elim (by exact c_30 o26)) (fun c_30 => ?_)
  refine lv_iload hx hb dL_order_288 (lv_at hl 4 rfl) ?_
  refine lv_if_lt (tgt := 307) hx hb dL_order_290 (by decide) (fun c_31 => False.elim (by rw [dd2] at c_31; exact nI_pos dd1 c_31)) (fun c_31 => ?_)
  refine lv_iload hx hb dL_order_293 (lv_at hl 8 rfl) ?_
  refine lv_if_ne (tgt := 303) hx hb dL_order_295 (by decide) (fun c_32 => ?_) (fun c_32 => ?_)
  · skip
    refine lv_iconst (v := nI 1) hx hb dL_order_303 (by decide) ?_
    refine lv_goto (tgt := 308) hx hb dL_order_304 (by decide) ?_
    refine lv_istore (lv' := [(13, .int (nI 1)), (12, .int F.2.1), (11, .int (xsum (T 9) bz)), (10, .int (nI oz)), (9, .int D9), (8, .int (nI F.1)), (7, .int (F.2.1 - G.2.1)), (6, .int F.2.1), (5, .int sb), (4, .int (nI L9)), (3, .int (nI W9)), (0, .ref (zo z)), (1, .int (nI kg)), (2, .int c9)]) hx hb dL_order_308 hl (by decide) rfl (fun ls hl => ?_)
    refine lv_iload hx hb dL_order_310 (lv_at hl 0 rfl) ?_
    refine xr_if1 (tgt := 339) hx hb (by decide) dL_order_312 (by decide) ?_
    refine lv_iload hx hb dL_order_315 (lv_at hl 1 rfl) ?_
    refine lv_iload_n hx hb dL_order_317 rfl (lv_at hl 10 rfl) ?_
    refine lv_icmp_eq (tgt := 335) hx hb dL_order_318 (by decide) (fun c_33 => ?_) (fun c_33 => ?_)
    · skip
      refine lv_iconst (v := nI 1) hx hb dL_order_335 (by decide) ?_
      refine lv_goto (tgt := 340) hx hb dL_order_336 (by decide) ?_
      refine lv_istore (lv' := [(13, .int (nI 1)), (12, .int F.2.1), (11, .int (xsum (T 9) bz)), (10, .int (nI oz)), (9, .int D9), (8, .int (nI F.1)), (7, .int (F.2.1 - G.2.1)), (6, .int F.2.1), (5, .int sb), (4, .int (nI L9)), (3, .int (nI W9)), (0, .ref (zo z)), (1, .int (nI kg)), (2, .int c9)]) hx hb dL_order_340 hl (by decide) rfl (fun ls hl => ?_)
      refine lv_iload hx hb dL_order_342 (lv_at hl 0 rfl) ?_
      refine xr_if1 (tgt := 406) hx hb (by decide) dL_order_344 (by decide) ?_
      refine lv_iload hx hb dL_order_347 (lv_at hl 1 rfl) ?_
      refine lv_if_eq (tgt := 402) hx hb dL_order_349 (by decide) (fun c_34 => ?_) (fun c_34 => ?_)
      · skip
        refine lv_iconst (v := nI 1) hx hb dL_order_402 (by decide) ?_
        refine lv_goto (tgt := 407) hx hb dL_order_403 (by decide) ?_
        have hS9 : va_S (va_B (cw z M)) s.heap H locs := by rw [← hA]; exact hS
        exact W.zret (v := nI 1) hx hb hr rfl (fun t ht hW => ⟨⟨_, _, rfl, ⟨M5, rfl, ⟨rfl, _, _, _, T5, e5, I5, mH.less H5⟩⟩, by rw [ht]; exact hP⟩, hS9.X ht⟩) hS9.2.2 dL_order_407
      have hF1 : 1 ≤ F.1 := by
        rcases Nat.eq_zero_or_pos F.1 with z | z
        · exact absurd (hI.w0 hk hW9.2 hF z) c_34
        · exact z
      obtain ⟨ev0, ev1, ev2, ev3⟩ := oev (by rw [r5.1]; omega)
      refine lv_aload_n hx hb dL_order_352 rfl (lv_at hl 11 rfl) ?_
      refine lv_iconst (v := nI 0) hx hb dL_order_353 (by decide) ?_
      refine lv_iconst (v := nI 0) hx hb dL_order_354 (by decide) ?_
      refine zrV (M := M5) (M' := M5) (x := T5 34 ((q.2.2.2.2.2.2.2.2.1 + 9) % 10)) (As := [.int (nI 0), .int (nI 0)]) (rest := []) hx hb hml hown hts hN hK (t_event0 l dC dI z e5 I5 ev0) 2 gL_order_X9_event rfl hdV_X9_event ⟨Nat.le_of_ble_eq_true rfl, Nat.le_of_ble_eq_true rfl⟩ hP hD hS rfl hl.1 rfl (Nat.le_of_ble_eq_true rfl) dL_order_355 ⟨Nat.zero_le _, Nat.zero_le _⟩ (fun H locs hP hD hS => ?_)
      refine lv_iconst (v := nI 1) hx hb dL_order_358 (by decide) ?_
      refine lv_icmp_ne (tgt := 406) hx hb dL_order_359 (by decide) (fun c_35 => False.elim (by exact c_35 ev1)) (fun c_35 => ?_)
      refine lv_aload_n hx hb dL_order_362 rfl (lv_at hl 11 rfl) ?_
      refine lv_iconst (v := nI 0) hx hb dL_order_363 (by decide) ?_
      refine lv_iconst (v := nI 1) hx hb dL_order_364 (by decide) ?_
      refine zrV (M := M5) (M' := M5) (x := T5 35 ((q.2.2.2.2.2.2.2.2.1 + 9) % 10)) (As := [.int (nI 0), .int (nI 1)]) (rest := []) hx hb hml hown hts hN hK (t_event1 l dC dI z e5 I5 ev0) 2 gL_order_X9_event rfl hdV_X9_event ⟨Nat.le_of_ble_eq_true rfl, Nat.le_of_ble_eq_true rfl⟩ hP hD hS rfl hl.1 rfl (Nat.le_of_ble_eq_true rfl) dL_order_365 ⟨Nat.zero_le _, Nat.zero_le _⟩ (fun H locs hP hD hS => ?_)
      refine lv_aload_n hx hb dL_order_368 rfl (lv_at hl 11 rfl) ?_
      refine lv_iload hx hb dL_order_369 (lv_at hl 3 rfl) ?_
      refine lv_iload hx hb dL_order_371 (lv_at hl 5 rfl) ?_
      refine lv_iconst (v := nI 1) hx hb dL_order_373 (by decide) ?_
      refine xr_isub_n hx hb (by omega) dL_order_374 ?_
      refine lv_iconst (v := nI 0) hx hb dL_order_375 (by decide) ?_
      refine zrV (M := M5) (M' := M5) (x := T5 28 (tk + (F.1 - 1))) (As := [.int (nI oz), .int (nI (F.1 - 1)), .int (nI 0)]) (rest := [.int (T5 35 ((q.2.2.2.2.2.2.2.2.1 + 9) % 10))]) hx hb hml hown hts hN hK (t_taken0 l dC dI z e5 I5 (show oz < oz + 1 by omega) o27 (show T5 24 oz = nI F.1 by rw [o24, r5.1]) hfit.2 (by omega)) 3 gL_order_X9_taken rfl hdV_X9_taken ⟨Nat.le_of_ble_eq_true rfl, Nat.le_of_ble_eq_true rfl⟩ hP hD hS rfl hl.1 rfl (Nat.le_of_ble_eq_true rfl) dL_order_376 ⟨Nat.zero_le _, Nat.zero_le _⟩ (fun H locs hP hD hS => ?_)
      refine lv_icmp_ne (tgt := 406) hx hb dL_order_379 (by decide) (fun c_36 => False.elim (by exact c_36 (by rw [ev2, r5.1]))) (fun c_36 => ?_)
      refine lv_aload_n hx hb dL_order_382 rfl (lv_at hl 11 rfl) ?_
      refine lv_iconst (v := nI 0) hx hb dL_order_383 (by decide) ?_
      refine lv_iconst (v := nI 2) hx hb dL_order_384 (by decide) ?_
      refine zrV (M := M5) (M' := M5) (x := T5 36 ((q.2.2.2.2.2.2.2.2.1 + 9) % 10)) (As := [.int (nI 0), .int (nI 2)]) (rest := []) hx hb hml hown hts hN hK (t_event2 l dC dI z e5 I5 ev0) 2 gL_order_X9_event rfl hdV_X9_event ⟨Nat.le_of_ble_eq_true rfl, Nat.le_of_ble_eq_true rfl⟩ hP hD hS rfl hl.1 rfl (Nat.le_of_ble_eq_true rfl) dL_order_385 ⟨Nat.zero_le _, Nat.zero_le _⟩ (fun H locs hP hD hS => ?_)
      refine lv_aload_n hx hb dL_order_388 rfl (lv_at hl 11 rfl) ?_
      refine lv_iload hx hb dL_order_389 (lv_at hl 3 rfl) ?_
      refine lv_iload hx hb dL_order_391 (lv_at hl 5 rfl) ?_
      refine lv_iconst (v := nI 1) hx hb dL_order_393 (by decide) ?_
      refine xr_isub_n hx hb (by omega) dL_order_394 ?_
      refine lv_iconst (v := nI 1) hx hb dL_order_395 (by decide) ?_
      refine zrV (M := M5) (M' := M5) (x := T5 29 (tk + (F.1 - 1))) (As := [.int (nI oz), .int (nI (F.1 - 1)), .int (nI 1)]) (rest := [.int (T5 36 ((q.2.2.2.2.2.2.2.2.1 + 9) % 10))]) hx hb hml hown hts hN hK (t_taken1 l dC dI z e5 I5 (show oz < oz + 1 by omega) o27 (show T5 24 oz = nI F.1 by rw [o24, r5.1]) hfit.2 (by omega)) 3 gL_order_X9_taken rfl hdV_X9_taken ⟨Nat.le_of_ble_eq_true rfl, Nat.le_of_ble_eq_true rfl⟩ hP hD hS rfl hl.1 rfl (Nat.le_of_ble_eq_true rfl) dL_order_396 ⟨Nat.zero_le _, Nat.zero_le _⟩ (fun H locs hP hD hS => ?_)
      refine lv_icmp_ne (tgt := 406) hx hb dL_order_399 (by decide) (fun c_37 => False.elim (by exact c_37 (by rw [ev3, r5.1]))) (fun c_37 => ?_)
      refine lv_iconst (v := nI 1) hx hb dL_order_402 (by decide) ?_
      refine lv_goto (tgt := 407) hx hb dL_order_403 (by decide) ?_
      have hS9 : va_S (va_B (cw z M)) s.heap H locs := by rw [← hA]; exact hS
      exact W.zret (v := nI 1) hx hb hr rfl (fun t ht hW => ⟨⟨_, _, rfl, ⟨M5, rfl, ⟨rfl, _, _, _, T5, e5, I5, mH.less H5⟩⟩, by rw [ht]; exact hP⟩, hS9.X ht⟩) hS9.2.2 dL_order_407
    refine lv_aload_n hx hb dL_order_321 rfl (lv_at hl 11 rfl) ?_
    refine lv_iload_n hx hb dL_order_322 rfl (lv_at hl 12 rfl) ?_
    refine lv_iconst (v := nI 1) hx hb dL_order_323 (by decide) ?_
    refine lv_iload hx hb dL_order_324 (lv_at hl 9 rfl) ?_
    refine lv_iload hx hb dL_order_326 (lv_at hl 8 rfl) ?_
    refine lv_iconst (v := nI 0) hx hb dL_order_328 (by decide) ?_
    have T53 : T5 3 = T 3 := by rw [hT5]; rfl
    have T56 : T5 6 = T 6 := by rw [hT5]; rfl
    have T58 : T5 8 = T 8 := by rw [hT5]; rfl
    have T54 : T5 4 = T 4 := by rw [hT5]; rfl
    have hlt : F5.2.1 < nI W9 := by
      obtain ⟨G1, Gx, g1, g2, g3, g4, zn⟩ := hI.f2 hk hW9.2 (le := nI L9) (sb := sb) (lm := lm) (fb := M4.2.1 1) (fu := M4.2.1 2) (fc := M4.2.1 3) (P := M4.2.2.1)
      rw [← hF5] at g2
      rw [g2]
      refine nI_lt (Nat.lt_of_le_of_ne g4 fun z => c_33 ?_) (by omega)
      rw [← r5.2.1, g2, z]
    obtain ⟨za, zb⟩ := hI.fend (P := M4.2.2.1) (fb := M4.2.1 1) (fu := M4.2.1 2) (fc := M4.2.1 3) (W := W9) (kg := kg) (lm := lm) (le := nI L9) (sb := sb) (by rw [← hF5]; exact hlt)
    rw [← hF5] at za zb
    obtain ⟨M6, k6, e6, s6⟩ := ua_would l dC dI z (sb := sb) e5 I5 hk (⟨by omega, by omega⟩ : 1 ≤ 1 ∧ 1 ≤ 400) (show L9 ≤ 60 by omega) (by rw [T53]; exact lmE) lm4 (show 0 ≤ 3 by omega)
    have H6 := s6 _ H5
    have hno : (zwF T5 bz kg lm (nI 1) (nI L9) sb).2.1 = nI 0 := zno T56 T58 T54 o9 za zb
    refine zrV (M := M5) (M' := M6) (x := nI 0) (As := [.int (nI kg), .int (nI 1), .int (nI L9), .int sb, .int (nI 0)]) (rest := []) hx hb hml hown hts hN hK (zX.r k6 hno) 5 gL_order_X9_wouldGet rfl hdV_X9_wouldGet ⟨Nat.le_of_ble_eq_true rfl, Nat.le_of_ble_eq_true rfl⟩ hP hD hS rfl hl.1 rfl (Nat.le_of_ble_eq_true rfl) dL_order_329 ⟨Nat.zero_le _, Nat.zero_le _⟩ (fun H locs hP hD hS => ?_)
    refine xr_ifn0 (tgt := 339) hx hb (by decide) dL_order_332 (by decide) ?_
    refine lv_iconst (v := nI 1) hx hb dL_order_335 (by decide) ?_
    refine lv_goto (tgt := 340) hx hb dL_order_336 (by decide) ?_
    refine lv_istore (lv' := [(13, .int (nI 1)), (12, .int F.2.1), (11, .int (xsum (T 9) bz)), (10, .int (nI oz)), (9, .int D9), (8, .int (nI F.1)), (7, .int (F.2.1 - G.2.1)), (6, .int F.2.1), (5, .int sb), (4, .int (nI L9)), (3, .int (nI W9)), (0, .ref (zo z)), (1, .int (nI kg)), (2, .int c9)]) hx hb dL_order_340 hl (by decide) rfl (fun ls hl => ?_)
    refine lv_iload hx hb dL_order_342 (lv_at hl 0 rfl) ?_
    refine xr_if1 (tgt := 406) hx hb (by decide) dL_order_344 (by decide) ?_
    refine lv_iload hx hb dL_order_347 (lv_at hl 1 rfl) ?_
    refine lv_if_eq (tgt := 402) hx hb dL_order_349 (by decide) (fun c_38 => ?_) (fun c_38 => ?_)
    · skip
      refine lv_iconst (v := nI 1) hx hb dL_order_402 (by decide) ?_
      refine lv_goto (tgt := 407) hx hb dL_order_403 (by decide) ?_
      have hS9 : va_S (va_B (cw z M)) s.heap H locs := by rw [← hA]; exact hS
      exact W.zret (v := nI 1) hx hb hr rfl (fun t ht hW => ⟨⟨_, _, rfl, ⟨M6, rfl, ⟨rfl, _, _, _, T5, e6, I5, mH.less H6⟩⟩, by rw [ht]; exact hP⟩, hS9.X ht⟩) hS9.2.2 dL_order_407
    have hF1 : 1 ≤ F.1 := by
      rcases Nat.eq_zero_or_pos F.1 with z | z
      · exact absurd (hI.w0 hk hW9.2 hF z) c_38
      · exact z
    obtain ⟨ev0, ev1, ev2, ev3⟩ := oev (by rw [r5.1]; omega)
    refine lv_aload_n hx hb dL_order_352 rfl (lv_at hl 11 rfl) ?_
    refine lv_iconst (v := nI 0) hx hb dL_order_353 (by decide) ?_
    refine lv_iconst (v := nI 0) hx hb dL_order_354 (by decide) ?_
    refine zrV (M := M6) (M' := M6) (x := T5 34 ((q.2.2.2.2.2.2.2.2.1 + 9) % 10)) (As := [.int (nI 0), .int (nI 0)]) (rest := []) hx hb hml hown hts hN hK (t_event0 l dC dI z e6 I5 ev0) 2 gL_order_X9_event rfl hdV_X9_event ⟨Nat.le_of_ble_eq_true rfl, Nat.le_of_ble_eq_true rfl⟩ hP hD hS rfl hl.1 rfl (Nat.le_of_ble_eq_true rfl) dL_order_355 ⟨Nat.zero_le _, Nat.zero_le _⟩ (fun H locs hP hD hS => ?_)
    refine lv_iconst (v := nI 1) hx hb dL_order_358 (by decide) ?_
    refine lv_icmp_ne (tgt := 406) hx hb dL_order_359 (by decide) (fun c_39 => False.elim (by exact c_39 ev1)) (fun c_39 => ?_)
    refine lv_aload_n hx hb dL_order_362 rfl (lv_at hl 11 rfl) ?_
    refine lv_iconst (v := nI 0) hx hb dL_order_363 (by decide) ?_
    refine lv_iconst (v := nI 1) hx hb dL_order_364 (by decide) ?_
    refine zrV (M := M6) (M' := M6) (x := T5 35 ((q.2.2.2.2.2.2.2.2.1 + 9) % 10)) (As := [.int (nI 0), .int (nI 1)]) (rest := []) hx hb hml hown hts hN hK (t_event1 l dC dI z e6 I5 ev0) 2 gL_order_X9_event rfl hdV_X9_event ⟨Nat.le_of_ble_eq_true rfl, Nat.le_of_ble_eq_true rfl⟩ hP hD hS rfl hl.1 rfl (Nat.le_of_ble_eq_true rfl) dL_order_365 ⟨Nat.zero_le _, Nat.zero_le _⟩ (fun H locs hP hD hS => ?_)
    refine lv_aload_n hx hb dL_order_368 rfl (lv_at hl 11 rfl) ?_
    refine lv_iload hx hb dL_order_369 (lv_at hl 3 rfl) ?_
    refine lv_iload hx hb dL_order_371 (lv_at hl 5 rfl) ?_
    refine lv_iconst (v := nI 1) hx hb dL_order_373 (by decide) ?_
    refine xr_isub_n hx hb (by omega) dL_order_374 ?_
    refine lv_iconst (v := nI 0) hx hb dL_order_375 (by decide) ?_
    refine zrV (M := M6) (M' := M6) (x := T5 28 (tk + (F.1 - 1))) (As := [.int (nI oz), .int (nI (F.1 - 1)), .int (nI 0)]) (rest := [.int (T5 35 ((q.2.2.2.2.2.2.2.2.1 + 9) % 10))]) hx hb hml hown hts hN hK (t_taken0 l dC dI z e6 I5 (show oz < oz + 1 by omega) o27 (show T5 24 oz = nI F.1 by rw [o24, r5.1]) hfit.2 (by omega)) 3 gL_order_X9_taken rfl hdV_X9_taken ⟨Nat.le_of_ble_eq_true rfl, Nat.le_of_ble_eq_true rfl⟩ hP hD hS rfl hl.1 rfl (Nat.le_of_ble_eq_true rfl) dL_order_376 ⟨Nat.zero_le _, Nat.zero_le _⟩ (fun H locs hP hD hS => ?_)
    refine lv_icmp_ne (tgt := 406) hx hb dL_order_379 (by decide) (fun c_40 => False.elim (by exact c_40 (by rw [ev2, r5.1]))) (fun c_40 => ?_)
    refine lv_aload_n hx hb dL_order_382 rfl (lv_at hl 11 rfl) ?_
    refine lv_iconst (v := nI 0) hx hb dL_order_383 (by decide) ?_
    refine lv_iconst (v := nI 2) hx hb dL_order_384 (by decide) ?_
    refine zrV (M := M6) (M' := M6) (x := T5 36 ((q.2.2.2.2.2.2.2.2.1 + 9) % 10)) (As := [.int (nI 0), .int (nI 2)]) (rest := []) hx hb hml hown hts hN hK (t_event2 l dC dI z e6 I5 ev0) 2 gL_order_X9_event rfl hdV_X9_event ⟨Nat.le_of_ble_eq_true rfl, Nat.le_of_ble_eq_true rfl⟩ hP hD hS rfl hl.1 rfl (Nat.le_of_ble_eq_true rfl) dL_order_385 ⟨Nat.zero_le _, Nat.zero_le _⟩ (fun H locs hP hD hS => ?_)
    refine lv_aload_n hx hb dL_order_388 rfl (lv_at hl 11 rfl) ?_
    refine lv_iload hx hb dL_order_389 (lv_at hl 3 rfl) ?_
    refine lv_iload hx hb dL_order_391 (lv_at hl 5 rfl) ?_
    refine lv_iconst (v := nI 1) hx hb dL_order_393 (by decide) ?_
    refine xr_isub_n hx hb (by omega) dL_order_394 ?_
    refine lv_iconst (v := nI 1) hx hb dL_order_395 (by decide) ?_
    refine zrV (M := M6) (M' := M6) (x := T5 29 (tk + (F.1 - 1))) (As := [.int (nI oz), .int (nI (F.1 - 1)), .int (nI 1)]) (rest := [.int (T5 36 ((q.2.2.2.2.2.2.2.2.1 + 9) % 10))]) hx hb hml hown hts hN hK (t_taken1 l dC dI z e6 I5 (show oz < oz + 1 by omega) o27 (show T5 24 oz = nI F.1 by rw [o24, r5.1]) hfit.2 (by omega)) 3 gL_order_X9_taken rfl hdV_X9_taken ⟨Nat.le_of_ble_eq_true rfl, Nat.le_of_ble_eq_true rfl⟩ hP hD hS rfl hl.1 rfl (Nat.le_of_ble_eq_true rfl) dL_order_396 ⟨Nat.zero_le _, Nat.zero_le _⟩ (fun H locs hP hD hS => ?_)
    refine lv_icmp_ne (tgt := 406) hx hb dL_order_399 (by decide) (fun c_41 => False.elim (by exact c_41 (by rw [ev3, r5.1]))) (fun c_41 => ?_)
    refine lv_iconst (v := nI 1) hx hb dL_order_402 (by decide) ?_
    refine lv_goto (tgt := 407) hx hb dL_order_403 (by decide) ?_
    have hS9 : va_S (va_B (cw z M)) s.heap H locs := by rw [← hA]; exact hS
    exact W.zret (v := nI 1) hx hb hr rfl (fun t ht hW => ⟨⟨_, _, rfl, ⟨M6, rfl, ⟨rfl, _, _, _, T5, e6, I5, mH.less H6⟩⟩, by rw [ht]; exact hP⟩, hS9.X ht⟩) hS9.2.2 dL_order_407
  refine lv_iload hx hb dL_order_298 (lv_at hl 6 rfl) ?_
  refine lv_if_ne (tgt := 307) hx hb dL_order_300 (by decide) (fun c_42 => False.elim (by exact c_42 (by rw [hF, hG, zwF0 c_32, Int32.sub_self]))) (fun c_42 => ?_)
  refine lv_iconst (v := nI 1) hx hb dL_order_303 (by decide) ?_
  refine lv_goto (tgt := 308) hx hb dL_order_304 (by decide) ?_
  refine lv_istore (lv' := [(13, .int (nI 1)), (12, .int F.2.1), (11, .int (xsum (T 9) bz)), (10, .int (nI oz)), (9, .int D9), (8, .int (nI F.1)), (7, .int (F.2.1 - G.2.1)), (6, .int F.2.1), (5, .int sb), (4, .int (nI L9)), (3, .int (nI W9)), (0, .ref (zo z)), (1, .int (nI kg)), (2, .int c9)]) hx hb dL_order_308 hl (by decide) rfl (fun ls hl => ?_)
  refine lv_iload hx hb dL_order_310 (lv_at hl 0 rfl) ?_
  refine xr_if1 (tgt := 339) hx hb (by decide) dL_order_312 (by decide) ?_
  refine lv_iload hx hb dL_order_315 (lv_at hl 1 rfl) ?_
  refine lv_iload_n hx hb dL_order_317 rfl (lv_at hl 10 rfl) ?_
  refine lv_icmp_eq (tgt := 335) hx hb dL_order_318 (by decide) (fun c_43 => ?_) (fun c_43 => ?_)
  · skip
    refine lv_iconst (v := nI 1) hx hb dL_order_335 (by decide) ?_
    refine lv_goto (tgt := 340) hx hb dL_order_336 (by decide) ?_
    refine lv_istore (lv' := [(13, .int (nI 1)), (12, .int F.2.1), (11, .int (xsum (T 9) bz)), (10, .int (nI oz)), (9, .int D9), (8, .int (nI F.1)), (7, .int (F.2.1 - G.2.1)), (6, .int F.2.1), (5, .int sb), (4, .int (nI L9)), (3, .int (nI W9)), (0, .ref (zo z)), (1, .int (nI kg)), (2, .int c9)]) hx hb dL_order_340 hl (by decide) rfl (fun ls hl => ?_)
    refine lv_iload hx hb dL_order_342 (lv_at hl 0 rfl) ?_
    refine xr_if1 (tgt := 406) hx hb (by decide) dL_order_344 (by decide) ?_
    refine lv_iload hx hb dL_order_347 (lv_at hl 1 rfl) ?_
    refine lv_if_eq (tgt := 402) hx hb dL_order_349 (by decide) (fun c_44 => ?_) (fun c_44 => ?_)
    · skip
      refine lv_iconst (v := nI 1) hx hb dL_order_402 (by decide) ?_
      refine lv_goto (tgt := 407) hx hb dL_order_403 (by decide) ?_
      have hS9 : va_S (va_B (cw z M)) s.heap H locs := by rw [← hA]; exact hS
      exact W.zret (v := nI 1) hx hb hr rfl (fun t ht hW => ⟨⟨_, _, rfl, ⟨M5, rfl, ⟨rfl, _, _, _, T5, e5, I5, mH.less H5⟩⟩, by rw [ht]; exact hP⟩, hS9.X ht⟩) hS9.2.2 dL_order_407
    have hF1 : 1 ≤ F.1 := by
      rcases Nat.eq_zero_or_pos F.1 with z | z
      · exact absurd (hI.w0 hk hW9.2 hF z) c_44
      · exact z
    obtain ⟨ev0, ev1, ev2, ev3⟩ := oev (by rw [r5.1]; omega)
    refine lv_aload_n hx hb dL_order_352 rfl (lv_at hl 11 rfl) ?_
    refine lv_iconst (v := nI 0) hx hb dL_order_353 (by decide) ?_
    refine lv_iconst (v := nI 0) hx hb dL_order_354 (by decide) ?_
    refine zrV (M := M5) (M' := M5) (x := T5 34 ((q.2.2.2.2.2.2.2.2.1 + 9) % 10)) (As := [.int (nI 0), .int (nI 0)]) (rest := []) hx hb hml hown hts hN hK (t_event0 l dC dI z e5 I5 ev0) 2 gL_order_X9_event rfl hdV_X9_event ⟨Nat.le_of_ble_eq_true rfl, Nat.le_of_ble_eq_true rfl⟩ hP hD hS rfl hl.1 rfl (Nat.le_of_ble_eq_true rfl) dL_order_355 ⟨Nat.zero_le _, Nat.zero_le _⟩ (fun H locs hP hD hS => ?_)
    refine lv_iconst (v := nI 1) hx hb dL_order_358 (by decide) ?_
    refine lv_icmp_ne (tgt := 406) hx hb dL_order_359 (by decide) (fun c_45 => False.elim (by exact c_45 ev1)) (fun c_45 => ?_)
    refine lv_aload_n hx hb dL_order_362 rfl (lv_at hl 11 rfl) ?_
    refine lv_iconst (v := nI 0) hx hb dL_order_363 (by decide) ?_
    refine lv_iconst (v := nI 1) hx hb dL_order_364 (by decide) ?_
    refine zrV (M := M5) (M' := M5) (x := T5 35 ((q.2.2.2.2.2.2.2.2.1 + 9) % 10)) (As := [.int (nI 0), .int (nI 1)]) (rest := []) hx hb hml hown hts hN hK (t_event1 l dC dI z e5 I5 ev0) 2 gL_order_X9_event rfl hdV_X9_event ⟨Nat.le_of_ble_eq_true rfl, Nat.le_of_ble_eq_true rfl⟩ hP hD hS rfl hl.1 rfl (Nat.le_of_ble_eq_true rfl) dL_order_365 ⟨Nat.zero_le _, Nat.zero_le _⟩ (fun H locs hP hD hS => ?_)
    refine lv_aload_n hx hb dL_order_368 rfl (lv_at hl 11 rfl) ?_
    refine lv_iload hx hb dL_order_369 (lv_at hl 3 rfl) ?_
    refine lv_iload hx hb dL_order_371 (lv_at hl 5 rfl) ?_
    refine lv_iconst (v := nI 1) hx hb dL_order_373 (by decide) ?_
    refine xr_isub_n hx hb (by omega) dL_order_374 ?_
    refine lv_iconst (v := nI 0) hx hb dL_order_375 (by decide) ?_
    refine zrV (M := M5) (M' := M5) (x := T5 28 (tk + (F.1 - 1))) (As := [.int (nI oz), .int (nI (F.1 - 1)), .int (nI 0)]) (rest := [.int (T5 35 ((q.2.2.2.2.2.2.2.2.1 + 9) % 10))]) hx hb hml hown hts hN hK (t_taken0 l dC dI z e5 I5 (show oz < oz + 1 by omega) o27 (show T5 24 oz = nI F.1 by rw [o24, r5.1]) hfit.2 (by omega)) 3 gL_order_X9_taken rfl hdV_X9_taken ⟨Nat.le_of_ble_eq_true rfl, Nat.le_of_ble_eq_true rfl⟩ hP hD hS rfl hl.1 rfl (Nat.le_of_ble_eq_true rfl) dL_order_376 ⟨Nat.zero_le _, Nat.zero_le _⟩ (fun H locs hP hD hS => ?_)
    refine lv_icmp_ne (tgt := 406) hx hb dL_order_379 (by decide) (fun c_46 => False.elim (by exact c_46 (by rw [ev2, r5.1]))) (fun c_46 => ?_)
    refine lv_aload_n hx hb dL_order_382 rfl (lv_at hl 11 rfl) ?_
    refine lv_iconst (v := nI 0) hx hb dL_order_383 (by decide) ?_
    refine lv_iconst (v := nI 2) hx hb dL_order_384 (by decide) ?_
    refine zrV (M := M5) (M' := M5) (x := T5 36 ((q.2.2.2.2.2.2.2.2.1 + 9) % 10)) (As := [.int (nI 0), .int (nI 2)]) (rest := []) hx hb hml hown hts hN hK (t_event2 l dC dI z e5 I5 ev0) 2 gL_order_X9_event rfl hdV_X9_event ⟨Nat.le_of_ble_eq_true rfl, Nat.le_of_ble_eq_true rfl⟩ hP hD hS rfl hl.1 rfl (Nat.le_of_ble_eq_true rfl) dL_order_385 ⟨Nat.zero_le _, Nat.zero_le _⟩ (fun H locs hP hD hS => ?_)
    refine lv_aload_n hx hb dL_order_388 rfl (lv_at hl 11 rfl) ?_
    refine lv_iload hx hb dL_order_389 (lv_at hl 3 rfl) ?_
    refine lv_iload hx hb dL_order_391 (lv_at hl 5 rfl) ?_
    refine lv_iconst (v := nI 1) hx hb dL_order_393 (by decide) ?_
    refine xr_isub_n hx hb (by omega) dL_order_394 ?_
    refine lv_iconst (v := nI 1) hx hb dL_order_395 (by decide) ?_
    refine zrV (M := M5) (M' := M5) (x := T5 29 (tk + (F.1 - 1))) (As := [.int (nI oz), .int (nI (F.1 - 1)), .int (nI 1)]) (rest := [.int (T5 36 ((q.2.2.2.2.2.2.2.2.1 + 9) % 10))]) hx hb hml hown hts hN hK (t_taken1 l dC dI z e5 I5 (show oz < oz + 1 by omega) o27 (show T5 24 oz = nI F.1 by rw [o24, r5.1]) hfit.2 (by omega)) 3 gL_order_X9_taken rfl hdV_X9_taken ⟨Nat.le_of_ble_eq_true rfl, Nat.le_of_ble_eq_true rfl⟩ hP hD hS rfl hl.1 rfl (Nat.le_of_ble_eq_true rfl) dL_order_396 ⟨Nat.zero_le _, Nat.zero_le _⟩ (fun H locs hP hD hS => ?_)
    refine lv_icmp_ne (tgt := 406) hx hb dL_order_399 (by decide) (fun c_47 => False.elim (by exact c_47 (by rw [ev3, r5.1]))) (fun c_47 => ?_)
    refine lv_iconst (v := nI 1) hx hb dL_order_402 (by decide) ?_
    refine lv_goto (tgt := 407) hx hb dL_order_403 (by decide) ?_
    have hS9 : va_S (va_B (cw z M)) s.heap H locs := by rw [← hA]; exact hS
    exact W.zret (v := nI 1) hx hb hr rfl (fun t ht hW => ⟨⟨_, _, rfl, ⟨M5, rfl, ⟨rfl, _, _, _, T5, e5, I5, mH.less H5⟩⟩, by rw [ht]; exact hP⟩, hS9.X ht⟩) hS9.2.2 dL_order_407
  refine lv_aload_n hx hb dL_order_321 rfl (lv_at hl 11 rfl) ?_
  refine lv_iload_n hx hb dL_order_322 rfl (lv_at hl 12 rfl) ?_
  refine lv_iconst (v := nI 1) hx hb dL_order_323 (by decide) ?_
  refine lv_iload hx hb dL_order_324 (lv_at hl 9 rfl) ?_
  refine lv_iload hx hb dL_order_326 (lv_at hl 8 rfl) ?_
  refine lv_iconst (v := nI 0) hx hb dL_order_328 (by decide) ?_
  have T53 : T5 3 = T 3 := by rw [hT5]; rfl
  have T56 : T5 6 = T 6 := by rw [hT5]; rfl
  have T58 : T5 8 = T 8 := by rw [hT5]; rfl
  have T54 : T5 4 = T 4 := by rw [hT5]; rfl
  have hlt : F5.2.1 < nI W9 := by
    obtain ⟨G1, Gx, g1, g2, g3, g4, zn⟩ := hI.f2 hk hW9.2 (le := nI L9) (sb := sb) (lm := lm) (fb := M4.2.1 1) (fu := M4.2.1 2) (fc := M4.2.1 3) (P := M4.2.2.1)
    rw [← hF5] at g2
    rw [g2]
    refine nI_lt (Nat.lt_of_le_of_ne g4 fun z => c_43 ?_) (by omega)
    rw [← r5.2.1, g2, z]
  obtain ⟨za, zb⟩ := hI.fend (P := M4.2.2.1) (fb := M4.2.1 1) (fu := M4.2.1 2) (fc := M4.2.1 3) (W := W9) (kg := kg) (lm := lm) (le := nI L9) (sb := sb) (by rw [← hF5]; exact hlt)
  rw [← hF5] at za zb
  obtain ⟨M6, k6, e6, s6⟩ := ua_would l dC dI z (sb := sb) e5 I5 hk (⟨by omega, by omega⟩ : 1 ≤ 1 ∧ 1 ≤ 400) (show L9 ≤ 60 by omega) (by rw [T53]; exact lmE) lm4 (show 0 ≤ 3 by omega)
  have H6 := s6 _ H5
  have hno : (zwF T5 bz kg lm (nI 1) (nI L9) sb).2.1 = nI 0 := zno T56 T58 T54 o9 za zb
  refine zrV (M := M5) (M' := M6) (x := nI 0) (As := [.int (nI kg), .int (nI 1), .int (nI L9), .int sb, .int (nI 0)]) (rest := []) hx hb hml hown hts hN hK (zX.r k6 hno) 5 gL_order_X9_wouldGet rfl hdV_X9_wouldGet ⟨Nat.le_of_ble_eq_true rfl, Nat.le_of_ble_eq_true rfl⟩ hP hD hS rfl hl.1 rfl (Nat.le_of_ble_eq_true rfl) dL_order_329 ⟨Nat.zero_le _, Nat.zero_le _⟩ (fun H locs hP hD hS => ?_)
  refine xr_ifn0 (tgt := 339) hx hb (by decide) dL_order_332 (by decide) ?_
  refine lv_iconst (v := nI 1) hx hb dL_order_335 (by decide) ?_
  refine lv_goto (tgt := 340) hx hb dL_order_336 (by decide) ?_
  refine lv_istore (lv' := [(13, .int (nI 1)), (12, .int F.2.1), (11, .int (xsum (T 9) bz)), (10, .int (nI oz)), (9, .int D9), (8, .int (nI F.1)), (7, .int (F.2.1 - G.2.1)), (6, .int F.2.1), (5, .int sb), (4, .int (nI L9)), (3, .int (nI W9)), (0, .ref (zo z)), (1, .int (nI kg)), (2, .int c9)]) hx hb dL_order_340 hl (by decide) rfl (fun ls hl => ?_)
  refine lv_iload hx hb dL_order_342 (lv_at hl 0 rfl) ?_
  refine xr_if1 (tgt := 406) hx hb (by decide) dL_order_344 (by decide) ?_
  refine lv_iload hx hb dL_order_347 (lv_at hl 1 rfl) ?_
  refine lv_if_eq (tgt := 402) hx hb dL_order_349 (by decide) (fun c_48 => ?_) (fun c_48 => ?_)
  · skip
    refine lv_iconst (v := nI 1) hx hb dL_order_402 (by decide) ?_
    refine lv_goto (tgt := 407) hx hb dL_order_403 (by decide) ?_
    have hS9 : va_S (va_B (cw z M)) s.heap H locs := by rw [← hA]; exact hS
    exact W.zret (v := nI 1) hx hb hr rfl (fun t ht hW => ⟨⟨_, _, rfl, ⟨M6, rfl, ⟨rfl, _, _, _, T5, e6, I5, mH.less H6⟩⟩, by rw [ht]; exact hP⟩, hS9.X ht⟩) hS9.2.2 dL_order_407
  have hF1 : 1 ≤ F.1 := by
    rcases Nat.eq_zero_or_pos F.1 with z | z
    · exact absurd (hI.w0 hk hW9.2 hF z) c_48
    · exact z
  obtain ⟨ev0, ev1, ev2, ev3⟩ := oev (by rw [r5.1]; omega)
  refine lv_aload_n hx hb dL_order_352 rfl (lv_at hl 11 rfl) ?_
  refine lv_iconst (v := nI 0) hx hb dL_order_353 (by decide) ?_
  refine lv_iconst (v := nI 0) hx hb dL_order_354 (by decide) ?_
  refine zrV (M := M6) (M' := M6) (x := T5 34 ((q.2.2.2.2.2.2.2.2.1 + 9) % 10)) (As := [.int (nI 0), .int (nI 0)]) (rest := []) hx hb hml hown hts hN hK (t_event0 l dC dI z e6 I5 ev0) 2 gL_order_X9_event rfl hdV_X9_event ⟨Nat.le_of_ble_eq_true rfl, Nat.le_of_ble_eq_true rfl⟩ hP hD hS rfl hl.1 rfl (Nat.le_of_ble_eq_true rfl) dL_order_355 ⟨Nat.zero_le _, Nat.zero_le _⟩ (fun H locs hP hD hS => ?_)
  refine lv_iconst (v := nI 1) hx hb dL_order_358 (by decide) ?_
  refine lv_icmp_ne (tgt := 406) hx hb dL_order_359 (by decide) (fun c_49 => False.elim (by exact c_49 ev1)) (fun c_49 => ?_)
  refine lv_aload_n hx hb dL_order_362 rfl (lv_at hl 11 rfl) ?_
  refine lv_iconst (v := nI 0) hx hb dL_order_363 (by decide) ?_
  refine lv_iconst (v := nI 1) hx hb dL_order_364 (by decide) ?_
  refine zrV (M := M6) (M' := M6) (x := T5 35 ((q.2.2.2.2.2.2.2.2.1 + 9) % 10)) (As := [.int (nI 0), .int (nI 1)]) (rest := []) hx hb hml hown hts hN hK (t_event1 l dC dI z e6 I5 ev0) 2 gL_order_X9_event rfl hdV_X9_event ⟨Nat.le_of_ble_eq_true rfl, Nat.le_of_ble_eq_true rfl⟩ hP hD hS rfl hl.1 rfl (Nat.le_of_ble_eq_true rfl) dL_order_365 ⟨Nat.zero_le _, Nat.zero_le _⟩ (fun H locs hP hD hS => ?_)
  refine lv_aload_n hx hb dL_order_368 rfl (lv_at hl 11 rfl) ?_
  refine lv_iload hx hb dL_order_369 (lv_at hl 3 rfl) ?_
  refine lv_iload hx hb dL_order_371 (lv_at hl 5 rfl) ?_
  refine lv_iconst (v := nI 1) hx hb dL_order_373 (by decide) ?_
  refine xr_isub_n hx hb (by omega) dL_order_374 ?_
  refine lv_iconst (v := nI 0) hx hb dL_order_375 (by decide) ?_
  refine zrV (M := M6) (M' := M6) (x := T5 28 (tk + (F.1 - 1))) (As := [.int (nI oz), .int (nI (F.1 - 1)), .int (nI 0)]) (rest := [.int (T5 35 ((q.2.2.2.2.2.2.2.2.1 + 9) % 10))]) hx hb hml hown hts hN hK (t_taken0 l dC dI z e6 I5 (show oz < oz + 1 by omega) o27 (show T5 24 oz = nI F.1 by rw [o24, r5.1]) hfit.2 (by omega)) 3 gL_order_X9_taken rfl hdV_X9_taken ⟨Nat.le_of_ble_eq_true rfl, Nat.le_of_ble_eq_true rfl⟩ hP hD hS rfl hl.1 rfl (Nat.le_of_ble_eq_true rfl) dL_order_376 ⟨Nat.zero_le _, Nat.zero_le _⟩ (fun H locs hP hD hS => ?_)
  refine lv_icmp_ne (tgt := 406) hx hb dL_order_379 (by decide) (fun c_50 => False.elim (by exact c_50 (by rw [ev2, r5.1]))) (fun c_50 => ?_)
  refine lv_aload_n hx hb dL_order_382 rfl (lv_at hl 11 rfl) ?_
  refine lv_iconst (v := nI 0) hx hb dL_order_383 (by decide) ?_
  refine lv_iconst (v := nI 2) hx hb dL_order_384 (by decide) ?_
  refine zrV (M := M6) (M' := M6) (x := T5 36 ((q.2.2.2.2.2.2.2.2.1 + 9) % 10)) (As := [.int (nI 0), .int (nI 2)]) (rest := []) hx hb hml hown hts hN hK (t_event2 l dC dI z e6 I5 ev0) 2 gL_order_X9_event rfl hdV_X9_event ⟨Nat.le_of_ble_eq_true rfl, Nat.le_of_ble_eq_true rfl⟩ hP hD hS rfl hl.1 rfl (Nat.le_of_ble_eq_true rfl) dL_order_385 ⟨Nat.zero_le _, Nat.zero_le _⟩ (fun H locs hP hD hS => ?_)
  refine lv_aload_n hx hb dL_order_388 rfl (lv_at hl 11 rfl) ?_
  refine lv_iload hx hb dL_order_389 (lv_at hl 3 rfl) ?_
  refine lv_iload hx hb dL_order_391 (lv_at hl 5 rfl) ?_
  refine lv_iconst (v := nI 1) hx hb dL_order_393 (by decide) ?_
  refine xr_isub_n hx hb (by omega) dL_order_394 ?_
  refine lv_iconst (v := nI 1) hx hb dL_order_395 (by decide) ?_
  refine zrV (M := M6) (M' := M6) (x := T5 29 (tk + (F.1 - 1))) (As := [.int (nI oz), .int (nI (F.1 - 1)), .int (nI 1)]) (rest := [.int (T5 36 ((q.2.2.2.2.2.2.2.2.1 + 9) % 10))]) hx hb hml hown hts hN hK (t_taken1 l dC dI z e6 I5 (show oz < oz + 1 by omega) o27 (show T5 24 oz = nI F.1 by rw [o24, r5.1]) hfit.2 (by omega)) 3 gL_order_X9_taken rfl hdV_X9_taken ⟨Nat.le_of_ble_eq_true rfl, Nat.le_of_ble_eq_true rfl⟩ hP hD hS rfl hl.1 rfl (Nat.le_of_ble_eq_true rfl) dL_order_396 ⟨Nat.zero_le _, Nat.zero_le _⟩ (fun H locs hP hD hS => ?_)
  refine lv_icmp_ne (tgt := 406) hx hb dL_order_399 (by decide) (fun c_51 => False.elim (by exact c_51 (by rw [ev3, r5.1]))) (fun c_51 => ?_)
  refine lv_iconst (v := nI 1) hx hb dL_order_402 (by decide) ?_
  refine lv_goto (tgt := 407) hx hb dL_order_403 (by decide) ?_
  have hS9 : va_S (va_B (cw z M)) s.heap H locs := by rw [← hA]; exact hS
  exact W.zret (v := nI 1) hx hb hr rfl (fun t ht hW => ⟨⟨_, _, rfl, ⟨M6, rfl, ⟨rfl, _, _, _, T5, e6, I5, mH.less H6⟩⟩, by rw [ht]; exact hP⟩, hS9.X ht⟩) hS9.2.2 dL_order_407
