/-! The law's days. -/
theorem zi_same (a b : Int32) : a + b - a = b := by
  rw [Int32.add_comm, Int32.add_sub_cancel]
section PASSED
variable {n bz oz tk lz nx dy : Nat} {T : Nat → Nat → Int32}
theorem Iv.passed (h : Iv n bz oz tk lz nx dy T) {mx dn : Nat} (hmx : mx ≤ 60) (e : T 38 2 = nI mx) {q : XP} (hq : q = psQ T bz lz nx dn) :
    (∀ b, b < bz → ∃ u0 l0 y : Nat, y ≤ u0 ∧ u0 ≤ 90 ∧ l0 ≤ 20 ∧ (y ≠ 0 → l0 ≤ dn) ∧ T 9 b = nI u0 ∧ T 8 b = nI l0 ∧ q.2.2.2.2.1 b - T 13 b = nI y) ∧ q.1 = xsum (fun b => q.2.2.2.2.1 b - T 13 b) bz ∧ q.1 + xsum (T 13) bz = xsum q.2.2.2.2.1 bz ∧
    ∃ gs : Nat, gs ≤ dn * mx ∧ xsum q.2.2.2.2.2.1 bz = xsum (T 11) bz + nI gs := by
  obtain ⟨j1, j2, j3, j4, ⟨gs, j5, j6⟩, j7⟩ := h.pj hmx e dn
  rw [← hq] at j2 j4 j6
  have j4 : q.1 + xsum (T 13) bz = xsum q.2.2.2.2.1 bz := j4
  refine ⟨fun b hb => ?_, ?_, j4, gs, j5, j6⟩
  · obtain ⟨u0, l0, u, y, v, l, ⟨a1, a2, a3, a4⟩, a5, a6, a7, a8, a9, b1, b2, b3, b4⟩ := j2 b hb
    have b3 : q.2.2.2.2.1 b = T 13 b + nI y := b3
    exact ⟨u0, l0, y, by omega, a1, a2, a6, a8, a9, by rw [b3, zi_same]⟩
  · have e2 : xsum (fun b => q.2.2.2.2.1 b - T 13 b) bz + xsum (T 13) bz = xsum q.2.2.2.2.1 bz := by
      rw [← zs_add]
      exact zs_congr bz fun b _ => Int32.sub_add_cancel _ _
    have := congrArg (fun x => x - xsum (T 13) bz) (j4.trans e2.symm)
    simpa only [Int32.add_sub_cancel] using this
end PASSED
set_option maxHeartbeats 4000000 in
set_option maxRecDepth 100000 in
theorem c_L_pass (l : Launch) (dC : Nat → ClassId) (dI : Nat → Nat → Nat) (z : XK) {n bz oz tk lz nx dy : Nat} {T : Nat → Nat → Int32} {M : XM} {dn : Nat} (eT : mT M = T) (hI : Iv n bz oz tk lz nx dy T) (hH : mH M []) (hd0 : 1 ≤ dn ∧ dn ≤ 6) (hdy : dy + dn ≤ 9000) : zL (fun r M' => r = nI 1 ∧ ∃ (lz' nx' : Nat) (T' : Nat → Nat → Int32), mT M' = T' ∧ Iv n bz oz tk lz' nx' (dy + dn) T' ∧ mH M' []) l (dC, dI) z yL_pass wsL_pass 7 280 [.ref (zo z), .int (nI dn)] M := by
  unfold zL
  refine Met.ofW (cc := cL_pass) (maxL := 7) (ret := (some .boolean)) (by decide) rfl ?_
  intro p e s m args below meth c s₁ B hml hv
  obtain ⟨rfl, hP, hK, hD0, hN⟩ := hv
  have hx := B.exec
  have hb := B.bytes
  have hr := B.returns
  have hts := atoms_spec (ws := wsL_pass) B.pre
  have hown : s.vm.findClass RL = some m.cls := findClass_of_methodNamed B.named
  have hlocks := B.notSynchronized
  obtain ⟨A, hA⟩ : ∃ A, A = va_B (cw z M) := ⟨_, rfl⟩
  have hD : va_D A (cw z M) := hA ▸ hD0.own
  have hS : va_S A s.heap s.heap [] := va_S.rf
  have hl := lv_entry ([.ref (zo z), .int (nI dn)]) (n := 7) (Nat.le_of_ble_eq_true rfl)
  rw [lg_entry_eq]
  generalize (lg_sl ([.ref (zo z), .int (nI dn)]) ++ List.replicate (7 - (lg_sl ([.ref (zo z), .int (nI dn)])).length) Slot.unset).toArray = ls at hl ⊢
  have hl : lv_has ls 7 [(0, .ref (zo z)), (1, .int (nI dn))] := hl
  have hn := hI.n1
  have hd : 1 ≤ dn ∧ dn ≤ 60 := ⟨hd0.1, by omega⟩
  obtain ⟨mx, mx1, mx2⟩ := hI.mx
  obtain ⟨q, hq⟩ : ∃ q, q = psQ T bz lz nx dn := ⟨_, rfl⟩
  obtain ⟨jb, hsum, j4, gs, j5, j6⟩ := hI.passed (mx := mx) (by omega) mx2 hq
  have hmm : dn * mx ≤ 6 * 59 := Nat.mul_le_mul hd0.2 mx1
  refine lv_iconst (v := nI 0) hx hb dL_pass_0 (by decide) ?_
  refine lv_istore_n (lv' := [(2, .int (nI 0)), (0, .ref (zo z)), (1, .int (nI dn))]) hx hb dL_pass_1 rfl hl (by decide) rfl (fun ls hl => ?_)
  refine lv_iconst (v := nI 0) hx hb dL_pass_2 (by decide) ?_
  refine lv_istore_n (lv' := [(3, .int (nI 0)), (2, .int (nI 0)), (0, .ref (zo z)), (1, .int (nI dn))]) hx hb dL_pass_3 rfl hl (by decide) rfl (fun ls hl => ?_)
  refine lv_iconst (v := nI 0) hx hb dL_pass_4 (by decide) ?_
  refine lv_istore (lv' := [(4, .int (nI 0)), (3, .int (nI 0)), (2, .int (nI 0)), (0, .ref (zo z)), (1, .int (nI dn))]) hx hb dL_pass_5 hl (by decide) rfl (fun ls hl => ?_)
  refine xr_loop (J := Nat) (fun n0 H locs g => ∃ (k : Nat) (M1 : XM) (ls : Array Slot), n0 = bz - k + 1 ∧ g = F0 m 7 ls [] ∧ lv_has ls 7 [(4, .int (nI k)), (3, .int (xsum (T 13) k)), (2, .int (xsum (fun b => q.2.2.2.2.1 b - T 13 b) k)), (0, .ref (zo z)), (1, .int (nI dn))] ∧ va_P (dC, dI) vwCl (cw z M1) H ∧ va_D A (cw z M1) ∧ va_S A s.heap H locs ∧ (k ≤ bz) ∧ (mT M1 = T) ∧ (mH M1 [])) (fun n => n) ?_ (bz - 0 + 1) (g := F0 m 7 ls []) ⟨0, M, ls, rfl, rfl, lv_sub hl [0, 1, 2, 3, 4] rfl, hP, hD, hS, (Nat.zero_le _), eT, hH⟩
  intro n0 ih_7 H locs g hp
  obtain ⟨k, M1, ls, rfl, rfl, hl, hP, hD, hS, hk, e1, H1⟩ := hp
  refine lv_iload hx hb dL_pass_7 (lv_at hl 0 rfl) ?_
  refine lv_aload_n hx hb dL_pass_9 rfl (lv_at hl 3 rfl) ?_
  refine lv_iconst (v := nI 2) hx hb dL_pass_10 (by decide) ?_
  refine zrV (M := M1) (M' := M1) (x := nI bz) (As := [.int (nI 2)]) (rest := [.int (nI k)]) hx hb hml hown hts hN hK (t_count2 l dC dI z e1 hI H1) 1 gL_pass_X9_count rfl hdV_X9_count ⟨Nat.le_of_ble_eq_true rfl, Nat.le_of_ble_eq_true rfl⟩ hP hD hS rfl hl.1 rfl (Nat.le_of_ble_eq_true rfl) dL_pass_11 ⟨Nat.zero_le _, Nat.zero_le _⟩ (fun H locs hP hD hS => ?_)
  refine xr_ge_n (tgt := 83) hx hb (by omega) (by omega) dL_pass_14 (by decide) (fun c_1 => ?_) (fun c_1 => ?_)
  · skip
    have e_k : k = bz := by omega
    rw [e_k] at hl
    refine lv_aload_n hx hb dL_pass_83 rfl (lv_at hl 3 rfl) ?_
    refine lv_iconst (v := nI 0) hx hb dL_pass_84 (by decide) ?_
    refine zrV (M := M1) (M' := M1) (x := nI dy) (As := [.int (nI 0)]) (rest := []) hx hb hml hown hts hN hK (t_count0 l dC dI z e1 hI H1) 1 gL_pass_X9_count rfl hdV_X9_count ⟨Nat.le_of_ble_eq_true rfl, Nat.le_of_ble_eq_true rfl⟩ hP hD hS rfl hl.1 rfl (Nat.le_of_ble_eq_true rfl) dL_pass_85 ⟨Nat.zero_le _, Nat.zero_le _⟩ (fun H locs hP hD hS => ?_)
    refine lv_istore (lv' := [(4, .int (nI dy)), (3, .int (xsum (T 13) bz)), (2, .int (xsum (fun b => q.2.2.2.2.1 b - T 13 b) bz)), (0, .ref (zo z)), (1, .int (nI dn))]) hx hb dL_pass_88 hl (by decide) rfl (fun ls hl => ?_)
    refine lv_aload_n hx hb dL_pass_90 rfl (lv_at hl 3 rfl) ?_
    refine lv_bipush (v := nI 6) hx hb dL_pass_91 (by decide) ?_
    refine zrV (M := M1) (M' := M1) (x := xsum (T 11) bz) (As := [.int (nI 6)]) (rest := []) hx hb hml hown hts hN hK (t_count6 l dC dI z e1 hI H1) 1 gL_pass_X9_count rfl hdV_X9_count ⟨Nat.le_of_ble_eq_true rfl, Nat.le_of_ble_eq_true rfl⟩ hP hD hS rfl hl.1 rfl (Nat.le_of_ble_eq_true rfl) dL_pass_93 ⟨Nat.zero_le _, Nat.zero_le _⟩ (fun H locs hP hD hS => ?_)
    refine lv_istore (lv' := [(5, .int (xsum (T 11) bz)), (4, .int (nI dy)), (3, .int (xsum (T 13) bz)), (2, .int (xsum (fun b => q.2.2.2.2.1 b - T 13 b) bz)), (0, .ref (zo z)), (1, .int (nI dn))]) hx hb dL_pass_96 hl (by decide) rfl (fun ls hl => ?_)
    refine lv_aload_n hx hb dL_pass_98 rfl (lv_at hl 4 rfl) ?_
    refine lv_iload_n hx hb dL_pass_99 rfl (lv_at hl 5 rfl) ?_
    obtain ⟨M3, kp, e3, H3⟩ := ua_pass l dC dI z e1 hI H1 (by decide) hd
    rw [← hq] at e3
    obtain ⟨T3, hT3⟩ : ∃ x, x = psT T bz q := ⟨_, rfl⟩
    rw [← hT3] at e3
    have I3 : Iv n bz oz tk q.2.2.2.2.2.2.1 q.2.2.2.2.2.2.2.1 (dy + dn) T3 := by rw [hT3, hq]; exact hI.pass hdy
    have w13 : T3 13 = q.2.2.2.2.1 := by rw [hT3]; rfl
    have w11 : T3 11 = q.2.2.2.2.2.1 := by rw [hT3]; rfl
    have w38 : T3 38 = T 38 := by rw [hT3]; rfl
    refine zrV (M := M1) (M' := M3) (x := q.1) (As := [.int (nI dn)]) (rest := []) hx hb hml hown hts hN hK (zX.r kp (by rw [hq])) 1 gL_pass_X9_pass rfl hdV_X9_pass ⟨Nat.le_of_ble_eq_true rfl, Nat.le_of_ble_eq_true rfl⟩ hP hD hS rfl hl.1 rfl (Nat.le_of_ble_eq_true rfl) dL_pass_100 ⟨Nat.zero_le _, Nat.zero_le _⟩ (fun H locs hP hD hS => ?_)
    refine lv_istore (lv' := [(6, .int q.1), (5, .int (xsum (T 11) bz)), (4, .int (nI dy)), (3, .int (xsum (T 13) bz)), (2, .int (xsum (fun b => q.2.2.2.2.1 b - T 13 b) bz)), (0, .ref (zo z)), (1, .int (nI dn))]) hx hb dL_pass_103 hl (by decide) rfl (fun ls hl => ?_)
    refine lv_iload hx hb dL_pass_105 (lv_at hl 0 rfl) ?_
    refine lv_iload_n hx hb dL_pass_107 rfl (lv_at hl 4 rfl) ?_
    refine lv_icmp_ne (tgt := 159) hx hb dL_pass_108 (by decide) (fun c_2 => False.elim (by exact c_2 hsum)) (fun c_2 => ?_)
    refine lv_aload_n hx hb dL_pass_111 rfl (lv_at hl 5 rfl) ?_
    refine lv_iconst (v := nI 0) hx hb dL_pass_112 (by decide) ?_
    refine zrV (M := M3) (M' := M3) (x := nI (dy + dn)) (As := [.int (nI 0)]) (rest := []) hx hb hml hown hts hN hK (t_count0 l dC dI z e3 I3 H3) 1 gL_pass_X9_count rfl hdV_X9_count ⟨Nat.le_of_ble_eq_true rfl, Nat.le_of_ble_eq_true rfl⟩ hP hD hS rfl hl.1 rfl (Nat.le_of_ble_eq_true rfl) dL_pass_113 ⟨Nat.zero_le _, Nat.zero_le _⟩ (fun H locs hP hD hS => ?_)
    refine lv_iload hx hb dL_pass_116 (lv_at hl 2 rfl) ?_
    refine lv_iload_n hx hb dL_pass_118 rfl (lv_at hl 6 rfl) ?_
    refine xr_iadd_n hx hb dL_pass_119 ?_
    refine xr_ne_n (tgt := 159) hx hb (by omega) (by omega) dL_pass_120 (by decide) (fun c_3 => False.elim (by exact c_3 rfl)) (fun c_3 => ?_)
    refine lv_aload_n hx hb dL_pass_123 rfl (lv_at hl 5 rfl) ?_
    refine lv_bipush (v := nI 8) hx hb dL_pass_124 (by decide) ?_
    refine zrV (M := M3) (M' := M3) (x := xsum (T3 13) bz) (As := [.int (nI 8)]) (rest := []) hx hb hml hown hts hN hK (t_count8 l dC dI z e3 I3 H3) 1 gL_pass_X9_count rfl hdV_X9_count ⟨Nat.le_of_ble_eq_true rfl, Nat.le_of_ble_eq_true rfl⟩ hP hD hS rfl hl.1 rfl (Nat.le_of_ble_eq_true rfl) dL_pass_126 ⟨Nat.zero_le _, Nat.zero_le _⟩ (fun H locs hP hD hS => ?_)
    refine lv_iload_n hx hb dL_pass_129 rfl (lv_at hl 3 rfl) ?_
    refine lv_iload_n hx hb dL_pass_130 rfl (lv_at hl 4 rfl) ?_
    refine lv_iadd hx hb dL_pass_131 ?_
    refine lv_icmp_ne (tgt := 159) hx hb dL_pass_132 (by decide) (fun c_4 => False.elim (by exact c_4 (by rw [w13, ← hsum, ← j4, Int32.add_comm]))) (fun c_4 => ?_)
    refine lv_aload_n hx hb dL_pass_135 rfl (lv_at hl 5 rfl) ?_
    refine lv_bipush (v := nI 6) hx hb dL_pass_136 (by decide) ?_
    refine zrV (M := M3) (M' := M3) (x := xsum (T3 11) bz) (As := [.int (nI 6)]) (rest := []) hx hb hml hown hts hN hK (t_count6 l dC dI z e3 I3 H3) 1 gL_pass_X9_count rfl hdV_X9_count ⟨Nat.le_of_ble_eq_true rfl, Nat.le_of_ble_eq_true rfl⟩ hP hD hS rfl hl.1 rfl (Nat.le_of_ble_eq_true rfl) dL_pass_138 ⟨Nat.zero_le _, Nat.zero_le _⟩ (fun H locs hP hD hS => ?_)
    refine lv_iload hx hb dL_pass_141 (lv_at hl 1 rfl) ?_
    refine lv_isub hx hb dL_pass_143 ?_
    refine lv_iload_n hx hb dL_pass_144 rfl (lv_at hl 6 rfl) ?_
    refine lv_aload_n hx hb dL_pass_145 rfl (lv_at hl 5 rfl) ?_
    refine lv_bipush (v := nI 16) hx hb dL_pass_146 (by decide) ?_
    refine zrV (M := M3) (M' := M3) (x := T3 38 2) (As := [.int (nI 16)]) (rest := [.int (nI dn), .int ((xsum (T3 11) bz) - (xsum (T 11) bz))]) hx hb hml hown hts hN hK (t_count16 l dC dI z e3 I3 H3) 1 gL_pass_X9_count rfl hdV_X9_count ⟨Nat.le_of_ble_eq_true rfl, Nat.le_of_ble_eq_true rfl⟩ hP hD hS rfl hl.1 rfl (Nat.le_of_ble_eq_true rfl) dL_pass_148 ⟨Nat.zero_le _, Nat.zero_le _⟩ (fun H locs hP hD hS => ?_)
    refine lv_imul hx hb dL_pass_151 ?_
    refine lv_icmp_gt (tgt := 159) hx hb dL_pass_152 (by decide) (fun c_5 => False.elim (by rw [w11, j6, w38, mx2, nI_mul, zi_same] at c_5; exact nI_nlt j5 (by omega) c_5)) (fun c_5 => ?_)
    refine lv_iconst (v := nI 1) hx hb dL_pass_155 (by decide) ?_
    refine lv_goto (tgt := 160) hx hb dL_pass_156 (by decide) ?_
    have hS9 : va_S (va_B (cw z M)) s.heap H locs := by rw [← hA]; exact hS
    exact W.zret (v := nI 1) hx hb hr rfl (fun t ht hW => ⟨⟨_, _, rfl, ⟨M3, rfl, ⟨rfl, _, _, T3, e3, I3, H3.less⟩⟩, by rw [ht]; exact hP⟩, hS9.X ht⟩) hS9.2.2 dL_pass_160
  refine lv_aload_n hx hb dL_pass_17 rfl (lv_at hl 3 rfl) ?_
  refine lv_iload hx hb dL_pass_18 (lv_at hl 0 rfl) ?_
  refine lv_iload_n hx hb dL_pass_20 rfl (lv_at hl 4 rfl) ?_
  obtain ⟨M2, kx, e2, s2⟩ := ua_exp l dC dI z e1 hI (show k < bz by omega) hd
  have H2 := s2 _ H1
  refine zrV (M := M1) (M' := M2) (x := q.2.2.2.2.1 k - T 13 k) (As := [.int (nI k), .int (nI dn)]) (rest := []) hx hb hml hown hts hN hK (zX.r kx (by rw [hq])) 2 gL_pass_X9_wouldExpire rfl hdV_X9_wouldExpire ⟨Nat.le_of_ble_eq_true rfl, Nat.le_of_ble_eq_true rfl⟩ hP hD hS rfl hl.1 rfl (Nat.le_of_ble_eq_true rfl) dL_pass_21 ⟨Nat.zero_le _, Nat.zero_le _⟩ (fun H locs hP hD hS => ?_)
  refine lv_istore (lv' := [(5, .int (q.2.2.2.2.1 k - T 13 k)), (4, .int (nI k)), (3, .int (xsum (T 13) k)), (2, .int (xsum (fun b => q.2.2.2.2.1 b - T 13 b) k)), (0, .ref (zo z)), (1, .int (nI dn))]) hx hb dL_pass_24 hl (by decide) rfl (fun ls hl => ?_)
  refine lv_iload_n hx hb dL_pass_26 rfl (lv_at hl 3 rfl) ?_
  refine lv_iload hx hb dL_pass_27 (lv_at hl 0 rfl) ?_
  refine lv_iadd hx hb dL_pass_29 ?_
  refine lv_istore_n (lv' := [(2, .int ((xsum (fun b => q.2.2.2.2.1 b - T 13 b) k) + (q.2.2.2.2.1 k - T 13 k))), (5, .int (q.2.2.2.2.1 k - T 13 k)), (4, .int (nI k)), (3, .int (xsum (T 13) k)), (0, .ref (zo z)), (1, .int (nI dn))]) hx hb dL_pass_30 rfl hl (by decide) rfl (fun ls hl => ?_)
  refine lv_iload_n hx hb dL_pass_31 rfl (lv_at hl 3 rfl) ?_
  refine lv_aload_n hx hb dL_pass_32 rfl (lv_at hl 4 rfl) ?_
  refine lv_iload hx hb dL_pass_33 (lv_at hl 2 rfl) ?_
  refine lv_bipush (v := nI 7) hx hb dL_pass_35 (by decide) ?_
  refine zrV (M := M2) (M' := M2) (x := T 13 k) (As := [.int (nI k), .int (nI 7)]) (rest := [.int (xsum (T 13) k)]) hx hb hml hown hts hN hK (t_batch7 l dC dI z e2 hI (by omega)) 2 gL_pass_X9_batch rfl hdV_X9_batch ⟨Nat.le_of_ble_eq_true rfl, Nat.le_of_ble_eq_true rfl⟩ hP hD hS rfl hl.1 rfl (Nat.le_of_ble_eq_true rfl) dL_pass_37 ⟨Nat.zero_le _, Nat.zero_le _⟩ (fun H locs hP hD hS => ?_)
  refine lv_iadd hx hb dL_pass_40 ?_
  refine lv_istore_n (lv' := [(3, .int ((xsum (T 13) k) + (T 13 k))), (2, .int ((xsum (fun b => q.2.2.2.2.1 b - T 13 b) k) + (q.2.2.2.2.1 k - T 13 k))), (5, .int (q.2.2.2.2.1 k - T 13 k)), (4, .int (nI k)), (0, .ref (zo z)), (1, .int (nI dn))]) hx hb dL_pass_41 rfl hl (by decide) rfl (fun ls hl => ?_)
  refine lv_iload hx hb dL_pass_42 (lv_at hl 2 rfl) ?_
  refine lv_if_lt (tgt := 75) hx hb dL_pass_44 (by decide) (fun c_6 => False.elim (by obtain ⟨u0, l0, y, b1, b2, b3, b4, b5, b6, b7⟩ := jb k (show k < bz by omega); rw [b7] at c_6; exact nI_pos (by omega) c_6)) (fun c_6 => ?_)
  refine lv_iload hx hb dL_pass_47 (lv_at hl 2 rfl) ?_
  refine lv_aload_n hx hb dL_pass_49 rfl (lv_at hl 4 rfl) ?_
  refine lv_iload hx hb dL_pass_50 (lv_at hl 3 rfl) ?_
  refine lv_iconst (v := nI 3) hx hb dL_pass_52 (by decide) ?_
  refine zrV (M := M2) (M' := M2) (x := T 9 k) (As := [.int (nI k), .int (nI 3)]) (rest := [.int (q.2.2.2.2.1 k - T 13 k)]) hx hb hml hown hts hN hK (t_batch3 l dC dI z e2 hI (by omega)) 2 gL_pass_X9_batch rfl hdV_X9_batch ⟨Nat.le_of_ble_eq_true rfl, Nat.le_of_ble_eq_true rfl⟩ hP hD hS rfl hl.1 rfl (Nat.le_of_ble_eq_true rfl) dL_pass_53 ⟨Nat.zero_le _, Nat.zero_le _⟩ (fun H locs hP hD hS => ?_)
  refine lv_icmp_gt (tgt := 75) hx hb dL_pass_56 (by decide) (fun c_7 => False.elim (by obtain ⟨u0, l0, y, b1, b2, b3, b4, b5, b6, b7⟩ := jb k (show k < bz by omega); rw [b5, b7] at c_7; exact nI_nlt b1 (by omega) c_7)) (fun c_7 => ?_)
  refine lv_aload_n hx hb dL_pass_59 rfl (lv_at hl 4 rfl) ?_
  refine lv_iload hx hb dL_pass_60 (lv_at hl 3 rfl) ?_
  refine lv_iconst (v := nI 2) hx hb dL_pass_62 (by decide) ?_
  refine zrV (M := M2) (M' := M2) (x := T 8 k) (As := [.int (nI k), .int (nI 2)]) (rest := []) hx hb hml hown hts hN hK (t_batch2 l dC dI z e2 hI (by omega)) 2 gL_pass_X9_batch rfl hdV_X9_batch ⟨Nat.le_of_ble_eq_true rfl, Nat.le_of_ble_eq_true rfl⟩ hP hD hS rfl hl.1 rfl (Nat.le_of_ble_eq_true rfl) dL_pass_63 ⟨Nat.zero_le _, Nat.zero_le _⟩ (fun H locs hP hD hS => ?_)
  refine lv_iload_n hx hb dL_pass_66 rfl (lv_at hl 5 rfl) ?_
  refine lv_icmp_le (tgt := 77) hx hb dL_pass_67 (by decide) (fun c_8 => ?_) (fun c_8 => ?_)
  · skip
    refine lv_iinc (v := nI (k + 1)) (lv' := [(4, .int (nI (k + 1))), (3, .int ((xsum (T 13) k) + (T 13 k))), (2, .int ((xsum (fun b => q.2.2.2.2.1 b - T 13 b) k) + (q.2.2.2.2.1 k - T 13 k))), (5, .int (q.2.2.2.2.1 k - T 13 k)), (0, .ref (zo z)), (1, .int (nI dn))]) hx hb dL_pass_77 hl (k := 3) rfl (nI_inc1 k) (by decide) rfl (fun ls hl => ?_)
    refine lv_goto (tgt := 7) hx hb dL_pass_80 (by decide) ?_
    exact ih_7 (bz - (k + 1) + 1) _ _ _ (show bz - (k + 1) + 1 < bz - k + 1 from by omega) ⟨(k + 1), M2, ls, rfl, rfl, lv_sub hl [0, 1, 2, 4, 5] rfl, hP, hD, hS, (by omega), e2, H2⟩
  have none9 : q.2.2.2.2.1 k - T 13 k ≤ 0 := by
    obtain ⟨u0, l0, y, b1, b2, b3, b4, b5, b6, b7⟩ := jb k (show k < bz by omega)
    rw [b6] at c_8
    rw [b7]
    have y0 : y = 0 := by
      by_cases z : y = 0
      · exact z
      · exact absurd (nI_le (b4 z) (by omega)) c_8
    rw [y0]
    decide
  refine lv_iload hx hb dL_pass_70 (lv_at hl 2 rfl) ?_
  refine lv_if_le (tgt := 77) hx hb dL_pass_72 (by decide) (fun c_9 => ?_) (fun c_9 => False.elim (by exact c_9 none9))
  refine lv_iinc (v := nI (k + 1)) (lv' := [(4, .int (nI (k + 1))), (3, .int ((xsum (T 13) k) + (T 13 k))), (2, .int ((xsum (fun b => q.2.2.2.2.1 b - T 13 b) k) + (q.2.2.2.2.1 k - T 13 k))), (5, .int (q.2.2.2.2.1 k - T 13 k)), (0, .ref (zo z)), (1, .int (nI dn))]) hx hb dL_pass_77 hl (k := 3) rfl (nI_inc1 k) (by decide) rfl (fun ls hl => ?_)
  refine lv_goto (tgt := 7) hx hb dL_pass_80 (by decide) ?_
  exact ih_7 (bz - (k + 1) + 1) _ _ _ (show bz - (k + 1) + 1 < bz - k + 1 from by omega) ⟨(k + 1), M2, ls, rfl, rfl, lv_sub hl [0, 1, 2, 4, 5] rfl, hP, hD, hS, (by omega), e2, H2⟩
