/-! The law's goods. -/
theorem zb1 {P : Nat → Prop} {p B : Nat} (h : (B = 0 ∧ ∀ j, j < p → ¬ P j) ∨ (B = 1 ∧ ∃ j, j < p ∧ P j)) (hB : 0 < B) : (1 = 0 ∧ ∀ j, j < p + 1 → ¬ P j) ∨ (1 = 1 ∧ ∃ j, j < p + 1 ∧ P j) := by
  rcases h with ⟨z1, z2⟩ | ⟨z1, j, j1, j2⟩
  · omega
  · exact Or.inr ⟨rfl, j, by omega, j2⟩
theorem zb0 {P : Nat → Prop} {p B : Nat} (h : (B = 0 ∧ ∀ j, j < p → ¬ P j) ∨ (B = 1 ∧ ∃ j, j < p ∧ P j)) (hB : B = 0) (hp : ¬ P p) : (0 = 0 ∧ ∀ j, j < p + 1 → ¬ P j) ∨ (0 = 1 ∧ ∃ j, j < p + 1 ∧ P j) := by
  rcases h with ⟨z1, z2⟩ | ⟨z1, z2⟩
  · refine Or.inl ⟨rfl, fun j hj => ?_⟩
    by_cases q : j = p
    · rw [q]; exact hp
    · exact z2 j (by omega)
  · omega
set_option maxHeartbeats 4000000 in
set_option maxRecDepth 100000 in
theorem c_L_goods (l : Launch) (dC : Nat → ClassId) (dI : Nat → Nat → Nat) (z : XK) {a0 L0 : Nat} {xs : Nat → Int32} {nn : Nat} {M : XM} (eT : mT M = xT0) (hH : mH M []) (hnn : 1 ≤ nn ∧ nn ≤ 5) (hL : L0 < 2 ^ 31) : Met l yL_goods wsL_goods { frames := 7, cells := 0, slots := 0, locals := 280 } (zSc (dC, dI) [.ref (zo z), .ref a0, .int (nI nn)] z M a0 L0 xs) (xWi (dC, dI) vwCl (cw z M) (fun r w => ∃ M', w = cw z M' ∧ (fun r M' => r = nI 1 ∧ ∃ T' : Nat → Nat → Int32, mT M' = T' ∧ Iv nn 0 0 0 0 0 0 T' ∧ mH M' [] ∧ T' 38 = xT0 38 ∧ T' 39 = xT0 39) r M')) 0 0 (va_B (cw z M)) := by
  refine Met.ofW (cc := cL_goods) (maxL := 12) (ret := (some .boolean)) (by decide) rfl ?_
  intro p e s m args below meth c s₁ B hml hv
  obtain ⟨rfl, ⟨hP, hK, hD0, hN⟩, hX, hbA⟩ := hv
  have hbl : a0 < s.heap.size := (Array.getElem?_eq_some_iff.mp hX.choose_spec.1).1
  have hx := B.exec
  have hb := B.bytes
  have hr := B.returns
  have hts := atoms_spec (ws := wsL_goods) B.pre
  have hown : s.vm.findClass RL = some m.cls := findClass_of_methodNamed B.named
  have hlocks := B.notSynchronized
  obtain ⟨A, hA⟩ : ∃ A, A = va_B (cw z M) := ⟨_, rfl⟩
  have hD : va_D A (cw z M) := hA ▸ hD0.own
  have hS : va_S A s.heap s.heap [] := va_S.rf
  have hbA : ¬ A a0 := by rw [hA]; exact hbA
  have hl := lv_entry ([.ref (zo z), .ref a0, .int (nI nn)]) (n := 12) (Nat.le_of_ble_eq_true rfl)
  rw [lg_entry_eq]
  generalize (lg_sl ([.ref (zo z), .ref a0, .int (nI nn)]) ++ List.replicate (12 - (lg_sl ([.ref (zo z), .ref a0, .int (nI nn)])).length) Slot.unset).toArray = ls at hl ⊢
  have hl : lv_has ls 12 [(0, .ref (zo z)), (1, .ref a0), (2, .int (nI nn))] := hl
  refine lv_iconst (v := nI 1) hx hb dL_goods_0 (by decide) ?_
  refine lv_istore_n (lv' := [(3, .int (nI 1)), (0, .ref (zo z)), (1, .ref a0), (2, .int (nI nn))]) hx hb dL_goods_1 rfl hl (by decide) rfl (fun ls hl => ?_)
  refine lv_iconst (v := nI 0) hx hb dL_goods_2 (by decide) ?_
  refine lv_istore (lv' := [(4, .int (nI 0)), (3, .int (nI 1)), (0, .ref (zo z)), (1, .ref a0), (2, .int (nI nn))]) hx hb dL_goods_3 hl (by decide) rfl (fun ls hl => ?_)
  refine xr_loop (J := Nat) (fun n0 H locs g => ∃ (g9 : Nat) (M1 : XM) (ls : Array Slot), n0 = nn - g9 + 1 ∧ g = F0 m 5 ls [] ∧ lv_has ls 12 [(4, .int (nI g9)), (3, .int (nI 1)), (0, .ref (zo z)), (1, .ref a0), (2, .int (nI nn))] ∧ va_P (dC, dI) vwCl (cw z M1) H ∧ va_D A (cw z M1) ∧ va_S A s.heap H locs ∧ (g9 ≤ nn) ∧ (Iv g9 0 0 0 0 0 0 (mT M1)) ∧ (ivF g9 (mT M1)) ∧ (mH M1 []) ∧ (mT M1 = mT M1) ∧ (mT M1 38 = xT0 38 ∧ mT M1 39 = xT0 39)) (fun n => n) ?_ (nn - 0 + 1) (g := F0 m 5 ls []) ⟨0, M, ls, rfl, rfl, lv_sub hl [0, 1, 2, 3, 4] rfl, hP, hD, hS, (Nat.zero_le _), (by rw [eT]; exact Iv.start), (by rw [eT]; exact fun _ _ _ => rfl), hH, rfl, (by rw [eT]; exact ⟨rfl, rfl⟩)⟩
  intro n0 ih_5 H locs g hp
  obtain ⟨g9, M1, ls, rfl, rfl, hl, hP, hD, hS, hg, I1, F1, H1, e1, C1⟩ := hp
  refine lv_iload hx hb dL_goods_5 (lv_at hl 0 rfl) ?_
  refine lv_iload_n hx hb dL_goods_7 rfl (lv_at hl 4 rfl) ?_
  refine xr_ge_n (tgt := 86) hx hb (by omega) (by omega) dL_goods_8 (by decide) (fun c_1 => ?_) (fun c_1 => ?_)
  · skip
    have e_g9 : g9 = nn := by omega
    rw [e_g9] at I1
    refine lv_iconst (v := nI 0) hx hb dL_goods_86 (by decide) ?_
    refine lv_istore (lv' := [(4, .int (nI 0)), (3, .int (nI 1)), (0, .ref (zo z)), (1, .ref a0), (2, .int (nI nn))]) hx hb dL_goods_87 hl (by decide) rfl (fun ls hl => ?_)
    refine xr_loop (J := Nat) (fun n0 H locs g => ∃ (k9 : Nat) (M3 : XM) (T3 : Nat → Nat → Int32) (ls : Array Slot), n0 = 6 - k9 + 1 ∧ g = F0 m 89 ls [] ∧ lv_has ls 12 [(4, .int (nI k9)), (3, .int (nI 1)), (0, .ref (zo z)), (1, .ref a0), (2, .int (nI nn))] ∧ va_P (dC, dI) vwCl (cw z M3) H ∧ va_D A (cw z M3) ∧ va_S A s.heap H locs ∧ (k9 ≤ 6) ∧ (mT M3 = T3) ∧ (Iv nn 0 0 0 0 0 0 T3) ∧ (mH M3 []) ∧ (T3 38 = xT0 38 ∧ T3 39 = xT0 39)) (fun n => n) ?_ (6 - 0 + 1) (g := F0 m 89 ls []) ⟨0, M1, (mT M1), ls, rfl, rfl, lv_sub hl [0, 1, 2, 3, 4] rfl, hP, hD, hS, (Nat.zero_le _), rfl, I1, H1, C1⟩
    intro n0 ih_89 H locs g hp
    obtain ⟨k9, M3, T3, ls, rfl, rfl, hl, hP, hD, hS, hk, e3, I3, H3, C3⟩ := hp
    refine lv_iload hx hb dL_goods_89 (lv_at hl 0 rfl) ?_
    refine lv_bipush (v := nI 6) hx hb dL_goods_91 (by decide) ?_
    refine xr_ge_n (tgt := 305) hx hb (by omega) (by omega) dL_goods_93 (by decide) (fun c_2 => ?_) (fun c_2 => ?_)
    · skip
      refine lv_iload_n hx hb dL_goods_305 rfl (lv_at hl 1 rfl) ?_
      have hS9 : va_S (va_B (cw z M)) s.heap H locs := by rw [← hA]; exact hS
      exact W.zret (v := nI 1) hx hb hr rfl (fun t ht hW => ⟨⟨_, _, rfl, ⟨M3, rfl, ⟨rfl, T3, e3, I3, H3, C3⟩⟩, by rw [ht]; exact hP⟩, hS9.X ht⟩) hS9.2.2 dL_goods_306
    refine lv_iload_n hx hb dL_goods_96 rfl (lv_at hl 1 rfl) ?_
    refine xr_if1 (tgt := 305) hx hb (by decide) dL_goods_97 (by decide) ?_
    refine lv_aload_n hx hb dL_goods_100 rfl (lv_at hl 3 rfl) ?_
    refine lv_bipush (v := nI 8) hx hb dL_goods_101 (by decide) ?_
    refine lv_iload hx hb dL_goods_103 (lv_at hl 0 rfl) ?_
    refine xr_iadd_n hx hb dL_goods_105 ?_
    refine zrC (As := [.ref a0, .int (nI (8 + k9))]) (rest := []) hx hb hml hown hts hX hbl hbA hS (c_L_cell l a0 L0 xs (8 + k9) (by omega) hL) 2 gL_goods_L_cell rfl hdL_cell ⟨Nat.le_of_ble_eq_true rfl, Nat.le_of_ble_eq_true rfl⟩ rfl hl.1 rfl (Nat.le_of_ble_eq_true rfl) dL_goods_106 ⟨Nat.zero_le _, Nat.zero_le _⟩ (fun x_3 q_4 => ?_)
    refine lv_istore (lv' := [(5, .int x_3), (4, .int (nI k9)), (3, .int (nI 1)), (0, .ref (zo z)), (1, .ref a0), (2, .int (nI nn))]) hx hb dL_goods_109 hl (by decide) rfl (fun ls hl => ?_)
    refine lv_iload hx hb dL_goods_111 (lv_at hl 0 rfl) ?_
    refine lv_iload_n hx hb dL_goods_113 rfl (lv_at hl 5 rfl) ?_
    refine zrP (As := [.int x_3, .int (nI nn)]) (rest := []) hx hb hml hown hts (c_L_low l x_3 nn (by omega)) 2 gL_goods_L_low rfl hdL_low ⟨Nat.le_of_ble_eq_true rfl, Nat.le_of_ble_eq_true rfl⟩ rfl hl.1 rfl (Nat.le_of_ble_eq_true rfl) dL_goods_114 ⟨Nat.zero_le _, Nat.zero_le _⟩ (fun x_6 q_7 => ?_)
    obtain ⟨j_5, ej_5, hj_5⟩ : ∃ j : Nat, j = zlw x_3 nn ∧ j < nn := ⟨_, rfl, zlw_lt _ (by omega)⟩
    rw [q_7, ← ej_5]
    refine lv_istore (lv' := [(6, .int (nI j_5)), (5, .int x_3), (4, .int (nI k9)), (3, .int (nI 1)), (0, .ref (zo z)), (1, .ref a0), (2, .int (nI nn))]) hx hb dL_goods_117 hl (by decide) rfl (fun ls hl => ?_)
    refine lv_iload hx hb dL_goods_119 (lv_at hl 1 rfl) ?_
    refine lv_iconst (v := nI 4) hx hb dL_goods_121 (by decide) ?_
    refine lv_ishr hx hb dL_goods_122 ?_
    refine lv_iload_n hx hb dL_goods_123 rfl (lv_at hl 6 rfl) ?_
    refine zrP (As := [.int (x_3 >>> ((nI 4) &&& 31)), .int (nI nn)]) (rest := []) hx hb hml hown hts (c_L_low l (x_3 >>> ((nI 4) &&& 31)) nn (by omega)) 2 gL_goods_L_low rfl hdL_low ⟨Nat.le_of_ble_eq_true rfl, Nat.le_of_ble_eq_true rfl⟩ rfl hl.1 rfl (Nat.le_of_ble_eq_true rfl) dL_goods_124 ⟨Nat.zero_le _, Nat.zero_le _⟩ (fun x_9 q_10 => ?_)
    obtain ⟨j_8, ej_8, hj_8⟩ : ∃ j : Nat, j = zlw (x_3 >>> ((nI 4) &&& 31)) nn ∧ j < nn := ⟨_, rfl, zlw_lt _ (by omega)⟩
    rw [q_10, ← ej_8]
    refine lv_istore (lv' := [(7, .int (nI j_8)), (6, .int (nI j_5)), (5, .int x_3), (4, .int (nI k9)), (3, .int (nI 1)), (0, .ref (zo z)), (1, .ref a0), (2, .int (nI nn))]) hx hb dL_goods_127 hl (by decide) rfl (fun ls hl => ?_)
    obtain ⟨-, -, lm, lm4, lmE, -⟩ := I3.G (show j_5 < nn by omega)
    refine lv_aload_n hx hb dL_goods_129 rfl (lv_at hl 5 rfl) ?_
    refine lv_iload hx hb dL_goods_130 (lv_at hl 1 rfl) ?_
    refine lv_iconst (v := nI 2) hx hb dL_goods_132 (by decide) ?_
    refine zrV (M := M3) (M' := M3) (x := nI lm) (As := [.int (nI j_5), .int (nI 2)]) (rest := []) hx hb hml hown hts hN hK (zX.r (t_good2 l dC dI z e3 I3 (by omega)) lmE) 2 gL_goods_X9_good rfl hdV_X9_good ⟨Nat.le_of_ble_eq_true rfl, Nat.le_of_ble_eq_true rfl⟩ hP hD hS rfl hl.1 rfl (Nat.le_of_ble_eq_true rfl) dL_goods_133 ⟨Nat.zero_le _, Nat.zero_le _⟩ (fun H locs hP hD hS => ?_)
    refine lv_istore (lv' := [(8, .int (nI lm)), (7, .int (nI j_8)), (6, .int (nI j_5)), (5, .int x_3), (4, .int (nI k9)), (3, .int (nI 1)), (0, .ref (zo z)), (1, .ref a0), (2, .int (nI nn))]) hx hb dL_goods_136 hl (by decide) rfl (fun ls hl => ?_)
    refine lv_iload hx hb dL_goods_138 (lv_at hl 3 rfl) ?_
    refine lv_bipush (v := nI 8) hx hb dL_goods_140 (by decide) ?_
    refine lv_ishr hx hb dL_goods_142 ?_
    refine lv_iload hx hb dL_goods_143 (lv_at hl 0 rfl) ?_
    refine lv_iconst (v := nI 1) hx hb dL_goods_145 (by decide) ?_
    refine xr_iadd_n hx hb dL_goods_146 ?_
    refine zrP (As := [.int (x_3 >>> ((nI 8) &&& 31)), .int (nI (lm + 1))]) (rest := []) hx hb hml hown hts (c_L_low l (x_3 >>> ((nI 8) &&& 31)) (lm + 1) (by omega)) 2 gL_goods_L_low rfl hdL_low ⟨Nat.le_of_ble_eq_true rfl, Nat.le_of_ble_eq_true rfl⟩ rfl hl.1 rfl (Nat.le_of_ble_eq_true rfl) dL_goods_147 ⟨Nat.zero_le _, Nat.zero_le _⟩ (fun x_12 q_13 => ?_)
    obtain ⟨j_11, ej_11, hj_11⟩ : ∃ j : Nat, j = zlw (x_3 >>> ((nI 8) &&& 31)) (lm + 1) ∧ j < lm + 1 := ⟨_, rfl, zlw_lt _ (by omega)⟩
    rw [q_13, ← ej_11]
    refine lv_istore (lv' := [(9, .int (nI j_11)), (8, .int (nI lm)), (7, .int (nI j_8)), (6, .int (nI j_5)), (5, .int x_3), (4, .int (nI k9)), (3, .int (nI 1)), (0, .ref (zo z)), (1, .ref a0), (2, .int (nI nn))]) hx hb dL_goods_150 hl (by decide) rfl (fun ls hl => ?_)
    refine lv_iconst (v := nI 0) hx hb dL_goods_152 (by decide) ?_
    refine lv_istore (lv' := [(10, .int (nI 0)), (9, .int (nI j_11)), (8, .int (nI lm)), (7, .int (nI j_8)), (6, .int (nI j_5)), (5, .int x_3), (4, .int (nI k9)), (3, .int (nI 1)), (0, .ref (zo z)), (1, .ref a0), (2, .int (nI nn))]) hx hb dL_goods_153 hl (by decide) rfl (fun ls hl => ?_)
    refine lv_iconst (v := nI 0) hx hb dL_goods_155 (by decide) ?_
    refine lv_istore (lv' := [(11, .int (nI 0)), (10, .int (nI 0)), (9, .int (nI j_11)), (8, .int (nI lm)), (7, .int (nI j_8)), (6, .int (nI j_5)), (5, .int x_3), (4, .int (nI k9)), (3, .int (nI 1)), (0, .ref (zo z)), (1, .ref a0), (2, .int (nI nn))]) hx hb dL_goods_156 hl (by decide) rfl (fun ls hl => ?_)
    refine xr_loop (J := Nat) (fun n0 H locs g => ∃ (p : Nat) (B9 : Nat) (ls : Array Slot), n0 = lm - p + 1 ∧ g = F0 m 158 ls [] ∧ lv_has ls 12 [(11, .int (nI p)), (10, .int (nI B9)), (9, .int (nI j_11)), (8, .int (nI lm)), (7, .int (nI j_8)), (6, .int (nI j_5)), (5, .int x_3), (4, .int (nI k9)), (3, .int (nI 1)), (0, .ref (zo z)), (1, .ref a0), (2, .int (nI nn))] ∧ va_P (dC, dI) vwCl (cw z M3) H ∧ va_D A (cw z M3) ∧ va_S A s.heap H locs ∧ (p ≤ lm) ∧ ((B9 = 0 ∧ ∀ j, j < p → ¬ T3 4 (j_5 * 4 + j) = nI j_8) ∨ (B9 = 1 ∧ ∃ j, j < p ∧ T3 4 (j_5 * 4 + j) = nI j_8))) (fun n => n) ?_ (lm - 0 + 1) (g := F0 m 158 ls []) ⟨0, 0, ls, rfl, rfl, lv_sub hl [0, 1, 2, 3, 4, 5, 6, 7, 8, 9, 10, 11] rfl, hP, hD, hS, (Nat.zero_le _), (Or.inl ⟨rfl, fun j hj => absurd hj (Nat.not_lt_zero j)⟩)⟩
    intro n0 ih_158 H locs g hp
    obtain ⟨p, B9, ls, rfl, rfl, hl, hP, hD, hS, hp, hB⟩ := hp
    refine lv_iload hx hb dL_goods_158 (lv_at hl 0 rfl) ?_
    refine lv_iload hx hb dL_goods_160 (lv_at hl 3 rfl) ?_
    refine xr_ge_n (tgt := 196) hx hb (by omega) (by omega) dL_goods_162 (by decide) (fun c_14 => ?_) (fun c_14 => ?_)
    · skip
      have e_p : p = lm := by omega
      by_cases esame : j_5 = j_8
      · skip
        refine lv_aload_n hx hb dL_goods_196 rfl (lv_at hl 9 rfl) ?_
        refine lv_iload hx hb dL_goods_197 (lv_at hl 5 rfl) ?_
        refine lv_iload hx hb dL_goods_199 (lv_at hl 4 rfl) ?_
        refine lv_iload hx hb dL_goods_201 (lv_at hl 2 rfl) ?_
        refine zrV (M := M3) (M' := M3) (x := (-2)) (As := [.int (nI j_5), .int (nI j_8), .int (nI j_11)]) (rest := []) hx hb hml hown hts hN hK ((by rw [← esame]; exact ua_addSubB l dC dI z e3 (I3.t0 0) (by omega) (by omega) lmE lm4)) 3 gL_goods_X9_addSubstitute rfl hdV_X9_addSubstitute ⟨Nat.le_of_ble_eq_true rfl, Nat.le_of_ble_eq_true rfl⟩ hP hD hS rfl hl.1 rfl (Nat.le_of_ble_eq_true rfl) dL_goods_203 ⟨Nat.zero_le _, Nat.zero_le _⟩ (fun H locs hP hD hS => ?_)
        refine lv_istore (lv' := [(11, .int (-2)), (10, .int (nI B9)), (9, .int (nI j_11)), (8, .int (nI lm)), (7, .int (nI j_8)), (6, .int (nI j_5)), (5, .int x_3), (4, .int (nI k9)), (3, .int (nI 1)), (0, .ref (zo z)), (1, .ref a0), (2, .int (nI nn))]) hx hb dL_goods_206 hl (by decide) rfl (fun ls hl => ?_)
        refine lv_iload hx hb dL_goods_208 (lv_at hl 5 rfl) ?_
        refine lv_iload hx hb dL_goods_210 (lv_at hl 4 rfl) ?_
        refine xr_ne_n (tgt := 230) hx hb (by omega) (by omega) dL_goods_212 (by decide) (fun c_15 => False.elim (by exact c_15 esame)) (fun c_15 => ?_)
        refine lv_iload hx hb dL_goods_215 (lv_at hl 0 rfl) ?_
        refine lv_bipush (v := (-2)) hx hb dL_goods_217 (by decide) ?_
        refine lv_icmp_ne (tgt := 226) hx hb dL_goods_219 (by decide) (fun c_16 => False.elim (by exact c_16 rfl)) (fun c_16 => ?_)
        refine lv_iconst (v := nI 1) hx hb dL_goods_222 (by decide) ?_
        refine lv_goto (tgt := 298) hx hb dL_goods_223 (by decide) ?_
        refine lv_istore_n (lv' := [(3, .int (nI 1)), (11, .int (-2)), (10, .int (nI B9)), (9, .int (nI j_11)), (8, .int (nI lm)), (7, .int (nI j_8)), (6, .int (nI j_5)), (5, .int x_3), (4, .int (nI k9)), (0, .ref (zo z)), (1, .ref a0), (2, .int (nI nn))]) hx hb dL_goods_298 rfl hl (by decide) rfl (fun ls hl => ?_)
        refine lv_iinc (v := nI (k9 + 1)) (lv' := [(4, .int (nI (k9 + 1))), (3, .int (nI 1)), (11, .int (-2)), (10, .int (nI B9)), (9, .int (nI j_11)), (8, .int (nI lm)), (7, .int (nI j_8)), (6, .int (nI j_5)), (5, .int x_3), (0, .ref (zo z)), (1, .ref a0), (2, .int (nI nn))]) hx hb dL_goods_299 hl (k := 8) rfl (nI_inc1 k9) (by decide) rfl (fun ls hl => ?_)
        refine lv_goto (tgt := 89) hx hb dL_goods_302 (by decide) ?_
        exact ih_89 (6 - (k9 + 1) + 1) _ _ _ (show 6 - (k9 + 1) + 1 < 6 - k9 + 1 from by omega) ⟨(k9 + 1), M3, T3, ls, rfl, rfl, lv_sub hl [0, 1, 9, 10, 11] rfl, hP, hD, hS, (by omega), e3, I3, H3, C3⟩
      rcases hB with ⟨rfl, hB⟩ | ⟨rfl, hB⟩
      · skip
        by_cases e4full : lm = 4
        · skip
          refine lv_aload_n hx hb dL_goods_196 rfl (lv_at hl 9 rfl) ?_
          refine lv_iload hx hb dL_goods_197 (lv_at hl 5 rfl) ?_
          refine lv_iload hx hb dL_goods_199 (lv_at hl 4 rfl) ?_
          refine lv_iload hx hb dL_goods_201 (lv_at hl 2 rfl) ?_
          refine zrV (M := M3) (M' := M3) (x := (-3)) (As := [.int (nI j_5), .int (nI j_8), .int (nI j_11)]) (rest := []) hx hb hml hown hts hN hK (ua_addSubF l dC dI z e3 (I3.t0 0) (by omega) (by omega) (by omega) esame (by rw [lmE, e4full]) (by omega) (fun ⟨j, j1, j2⟩ => hB j (by omega) j2)) 3 gL_goods_X9_addSubstitute rfl hdV_X9_addSubstitute ⟨Nat.le_of_ble_eq_true rfl, Nat.le_of_ble_eq_true rfl⟩ hP hD hS rfl hl.1 rfl (Nat.le_of_ble_eq_true rfl) dL_goods_203 ⟨Nat.zero_le _, Nat.zero_le _⟩ (fun H locs hP hD hS => ?_)
          refine lv_istore (lv' := [(11, .int (-3)), (10, .int (nI 0)), (9, .int (nI j_11)), (8, .int (nI lm)), (7, .int (nI j_8)), (6, .int (nI j_5)), (5, .int x_3), (4, .int (nI k9)), (3, .int (nI 1)), (0, .ref (zo z)), (1, .ref a0), (2, .int (nI nn))]) hx hb dL_goods_206 hl (by decide) rfl (fun ls hl => ?_)
          refine lv_iload hx hb dL_goods_208 (lv_at hl 5 rfl) ?_
          refine lv_iload hx hb dL_goods_210 (lv_at hl 4 rfl) ?_
          refine xr_ne_n (tgt := 230) hx hb (by omega) (by omega) dL_goods_212 (by decide) (fun c_17 => ?_) (fun c_17 => False.elim (by exact esame c_17))
          refine lv_iload hx hb dL_goods_230 (lv_at hl 1 rfl) ?_
          refine xr_if0 (tgt := 250) hx hb (by decide) dL_goods_232 (by decide) ?_
          refine lv_iload hx hb dL_goods_250 (lv_at hl 3 rfl) ?_
          refine lv_iconst (v := nI 4) hx hb dL_goods_252 (by decide) ?_
          refine xr_ne_n (tgt := 271) hx hb (by omega) (by omega) dL_goods_253 (by decide) (fun c_18 => False.elim (by exact c_18 e4full)) (fun c_18 => ?_)
          refine lv_iload hx hb dL_goods_256 (lv_at hl 0 rfl) ?_
          refine lv_bipush (v := (-3)) hx hb dL_goods_258 (by decide) ?_
          refine lv_icmp_ne (tgt := 267) hx hb dL_goods_260 (by decide) (fun c_19 => False.elim (by exact c_19 rfl)) (fun c_19 => ?_)
          refine lv_iconst (v := nI 1) hx hb dL_goods_263 (by decide) ?_
          refine lv_goto (tgt := 298) hx hb dL_goods_264 (by decide) ?_
          refine lv_istore_n (lv' := [(3, .int (nI 1)), (11, .int (-3)), (10, .int (nI 0)), (9, .int (nI j_11)), (8, .int (nI lm)), (7, .int (nI j_8)), (6, .int (nI j_5)), (5, .int x_3), (4, .int (nI k9)), (0, .ref (zo z)), (1, .ref a0), (2, .int (nI nn))]) hx hb dL_goods_298 rfl hl (by decide) rfl (fun ls hl => ?_)
          refine lv_iinc (v := nI (k9 + 1)) (lv' := [(4, .int (nI (k9 + 1))), (3, .int (nI 1)), (11, .int (-3)), (10, .int (nI 0)), (9, .int (nI j_11)), (8, .int (nI lm)), (7, .int (nI j_8)), (6, .int (nI j_5)), (5, .int x_3), (0, .ref (zo z)), (1, .ref a0), (2, .int (nI nn))]) hx hb dL_goods_299 hl (k := 8) rfl (nI_inc1 k9) (by decide) rfl (fun ls hl => ?_)
          refine lv_goto (tgt := 89) hx hb dL_goods_302 (by decide) ?_
          exact ih_89 (6 - (k9 + 1) + 1) _ _ _ (show 6 - (k9 + 1) + 1 < 6 - k9 + 1 from by omega) ⟨(k9 + 1), M3, T3, ls, rfl, rfl, lv_sub hl [0, 1, 9, 10, 11] rfl, hP, hD, hS, (by omega), e3, I3, H3, C3⟩
        refine lv_aload_n hx hb dL_goods_196 rfl (lv_at hl 9 rfl) ?_
        refine lv_iload hx hb dL_goods_197 (lv_at hl 5 rfl) ?_
        refine lv_iload hx hb dL_goods_199 (lv_at hl 4 rfl) ?_
        refine lv_iload hx hb dL_goods_201 (lv_at hl 2 rfl) ?_
        obtain ⟨M4, kx, e4, H4⟩ := ua_addSub l dC dI z e3 (I3.t0 0) H3 (Nat.le_of_ble_eq_true rfl) (by omega) (show j_5 < nn by omega) (show j_8 < nn by omega) esame lmE (by omega) (show j_11 ≤ lm by omega) (fun ⟨j, j1, j2⟩ => hB j (by omega) j2)
        have I4 := I3.addSub (show j_5 < nn by omega) (show j_8 < nn by omega) lmE (by omega) (show j_11 ≤ lm by omega)
        obtain ⟨T4, hT4⟩ : ∃ x, x = xT (xT (xT T3 0 (fun _ => nI nn)) 3 (upd (T3 3) j_5 (nI (lm + 1)))) 4 (xins (T3 4) (j_5 * 4) lm j_11 (nI j_8)) := ⟨_, rfl⟩
        rw [← hT4] at e4 I4
        have T43 : T4 3 j_5 = nI (lm + 1) := by rw [hT4]; exact upd_at _ _ _
        have T44 : T4 4 (j_5 * 4 + j_11) = nI j_8 := by rw [hT4]; exact xins_at _ _ _ _ _
        refine zrV (M := M3) (M' := M4) (x := nI (lm + 1)) (As := [.int (nI j_5), .int (nI j_8), .int (nI j_11)]) (rest := []) hx hb hml hown hts hN hK (kx) 3 gL_goods_X9_addSubstitute rfl hdV_X9_addSubstitute ⟨Nat.le_of_ble_eq_true rfl, Nat.le_of_ble_eq_true rfl⟩ hP hD hS rfl hl.1 rfl (Nat.le_of_ble_eq_true rfl) dL_goods_203 ⟨Nat.zero_le _, Nat.zero_le _⟩ (fun H locs hP hD hS => ?_)
        refine lv_istore (lv' := [(11, .int (nI (lm + 1))), (10, .int (nI 0)), (9, .int (nI j_11)), (8, .int (nI lm)), (7, .int (nI j_8)), (6, .int (nI j_5)), (5, .int x_3), (4, .int (nI k9)), (3, .int (nI 1)), (0, .ref (zo z)), (1, .ref a0), (2, .int (nI nn))]) hx hb dL_goods_206 hl (by decide) rfl (fun ls hl => ?_)
        refine lv_iload hx hb dL_goods_208 (lv_at hl 5 rfl) ?_
        refine lv_iload hx hb dL_goods_210 (lv_at hl 4 rfl) ?_
        refine xr_ne_n (tgt := 230) hx hb (by omega) (by omega) dL_goods_212 (by decide) (fun c_20 => ?_) (fun c_20 => False.elim (by exact esame c_20))
        refine lv_iload hx hb dL_goods_230 (lv_at hl 1 rfl) ?_
        refine xr_if0 (tgt := 250) hx hb (by decide) dL_goods_232 (by decide) ?_
        refine lv_iload hx hb dL_goods_250 (lv_at hl 3 rfl) ?_
        refine lv_iconst (v := nI 4) hx hb dL_goods_252 (by decide) ?_
        refine xr_ne_n (tgt := 271) hx hb (by omega) (by omega) dL_goods_253 (by decide) (fun c_21 => ?_) (fun c_21 => False.elim (by exact e4full c_21))
        refine lv_iload hx hb dL_goods_271 (lv_at hl 0 rfl) ?_
        refine lv_iload hx hb dL_goods_273 (lv_at hl 3 rfl) ?_
        refine lv_iconst (v := nI 1) hx hb dL_goods_275 (by decide) ?_
        refine xr_iadd_n hx hb dL_goods_276 ?_
        refine xr_ne_n (tgt := 297) hx hb (by omega) (by omega) dL_goods_277 (by decide) (fun c_22 => False.elim (by exact c_22 rfl)) (fun c_22 => ?_)
        refine lv_aload_n hx hb dL_goods_280 rfl (lv_at hl 9 rfl) ?_
        refine lv_iload hx hb dL_goods_281 (lv_at hl 5 rfl) ?_
        refine lv_iload hx hb dL_goods_283 (lv_at hl 2 rfl) ?_
        refine zrV (M := M4) (M' := M4) (x := T4 4 (j_5 * 4 + j_11)) (As := [.int (nI j_5), .int (nI j_11)]) (rest := []) hx hb hml hown hts hN hK (t_sub l dC dI z e4 I4 (by omega) T43 (by omega) (by omega)) 2 gL_goods_X9_substitute rfl hdV_X9_substitute ⟨Nat.le_of_ble_eq_true rfl, Nat.le_of_ble_eq_true rfl⟩ hP hD hS rfl hl.1 rfl (Nat.le_of_ble_eq_true rfl) dL_goods_285 ⟨Nat.zero_le _, Nat.zero_le _⟩ (fun H locs hP hD hS => ?_)
        refine lv_iload hx hb dL_goods_288 (lv_at hl 4 rfl) ?_
        refine lv_icmp_ne (tgt := 297) hx hb dL_goods_290 (by decide) (fun c_23 => False.elim (by exact c_23 T44)) (fun c_23 => ?_)
        refine lv_iconst (v := nI 1) hx hb dL_goods_293 (by decide) ?_
        refine lv_goto (tgt := 298) hx hb dL_goods_294 (by decide) ?_
        refine lv_istore_n (lv' := [(3, .int (nI 1)), (11, .int (nI (lm + 1))), (10, .int (nI 0)), (9, .int (nI j_11)), (8, .int (nI lm)), (7, .int (nI j_8)), (6, .int (nI j_5)), (5, .int x_3), (4, .int (nI k9)), (0, .ref (zo z)), (1, .ref a0), (2, .int (nI nn))]) hx hb dL_goods_298 rfl hl (by decide) rfl (fun ls hl => ?_)
        refine lv_iinc (v := nI (k9 + 1)) (lv' := [(4, .int (nI (k9 + 1))), (3, .int (nI 1)), (11, .int (nI (lm + 1))), (10, .int (nI 0)), (9, .int (nI j_11)), (8, .int (nI lm)), (7, .int (nI j_8)), (6, .int (nI j_5)), (5, .int x_3), (0, .ref (zo z)), (1, .ref a0), (2, .int (nI nn))]) hx hb dL_goods_299 hl (k := 8) rfl (nI_inc1 k9) (by decide) rfl (fun ls hl => ?_)
        refine lv_goto (tgt := 89) hx hb dL_goods_302 (by decide) ?_
        exact ih_89 (6 - (k9 + 1) + 1) _ _ _ (show 6 - (k9 + 1) + 1 < 6 - k9 + 1 from by omega) ⟨(k9 + 1), M4, T4, ls, rfl, rfl, lv_sub hl [0, 1, 9, 10, 11] rfl, hP, hD, hS, (by omega), e4, I4, H4.less, (by rw [hT4]; exact C3)⟩
      refine lv_aload_n hx hb dL_goods_196 rfl (lv_at hl 9 rfl) ?_
      refine lv_iload hx hb dL_goods_197 (lv_at hl 5 rfl) ?_
      refine lv_iload hx hb dL_goods_199 (lv_at hl 4 rfl) ?_
      refine lv_iload hx hb dL_goods_201 (lv_at hl 2 rfl) ?_
      refine zrV (M := M3) (M' := M3) (x := (-4)) (As := [.int (nI j_5), .int (nI j_8), .int (nI j_11)]) (rest := []) hx hb hml hown hts hN hK (ua_addSubN l dC dI z e3 (I3.t0 0) (by omega) (by omega) (by omega) esame lmE lm4 (by omega) (e_p ▸ hB)) 3 gL_goods_X9_addSubstitute rfl hdV_X9_addSubstitute ⟨Nat.le_of_ble_eq_true rfl, Nat.le_of_ble_eq_true rfl⟩ hP hD hS rfl hl.1 rfl (Nat.le_of_ble_eq_true rfl) dL_goods_203 ⟨Nat.zero_le _, Nat.zero_le _⟩ (fun H locs hP hD hS => ?_)
      refine lv_istore (lv' := [(11, .int (-4)), (10, .int (nI 1)), (9, .int (nI j_11)), (8, .int (nI lm)), (7, .int (nI j_8)), (6, .int (nI j_5)), (5, .int x_3), (4, .int (nI k9)), (3, .int (nI 1)), (0, .ref (zo z)), (1, .ref a0), (2, .int (nI nn))]) hx hb dL_goods_206 hl (by decide) rfl (fun ls hl => ?_)
      refine lv_iload hx hb dL_goods_208 (lv_at hl 5 rfl) ?_
      refine lv_iload hx hb dL_goods_210 (lv_at hl 4 rfl) ?_
      refine xr_ne_n (tgt := 230) hx hb (by omega) (by omega) dL_goods_212 (by decide) (fun c_24 => ?_) (fun c_24 => False.elim (by exact esame c_24))
      refine lv_iload hx hb dL_goods_230 (lv_at hl 1 rfl) ?_
      refine xr_if1 (tgt := 250) hx hb (by decide) dL_goods_232 (by decide) ?_
      refine lv_iload hx hb dL_goods_235 (lv_at hl 0 rfl) ?_
      refine lv_bipush (v := (-4)) hx hb dL_goods_237 (by decide) ?_
      refine lv_icmp_ne (tgt := 246) hx hb dL_goods_239 (by decide) (fun c_25 => False.elim (by exact c_25 rfl)) (fun c_25 => ?_)
      refine lv_iconst (v := nI 1) hx hb dL_goods_242 (by decide) ?_
      refine lv_goto (tgt := 298) hx hb dL_goods_243 (by decide) ?_
      refine lv_istore_n (lv' := [(3, .int (nI 1)), (11, .int (-4)), (10, .int (nI 1)), (9, .int (nI j_11)), (8, .int (nI lm)), (7, .int (nI j_8)), (6, .int (nI j_5)), (5, .int x_3), (4, .int (nI k9)), (0, .ref (zo z)), (1, .ref a0), (2, .int (nI nn))]) hx hb dL_goods_298 rfl hl (by decide) rfl (fun ls hl => ?_)
      refine lv_iinc (v := nI (k9 + 1)) (lv' := [(4, .int (nI (k9 + 1))), (3, .int (nI 1)), (11, .int (-4)), (10, .int (nI 1)), (9, .int (nI j_11)), (8, .int (nI lm)), (7, .int (nI j_8)), (6, .int (nI j_5)), (5, .int x_3), (0, .ref (zo z)), (1, .ref a0), (2, .int (nI nn))]) hx hb dL_goods_299 hl (k := 8) rfl (nI_inc1 k9) (by decide) rfl (fun ls hl => ?_)
      refine lv_goto (tgt := 89) hx hb dL_goods_302 (by decide) ?_
      exact ih_89 (6 - (k9 + 1) + 1) _ _ _ (show 6 - (k9 + 1) + 1 < 6 - k9 + 1 from by omega) ⟨(k9 + 1), M3, T3, ls, rfl, rfl, lv_sub hl [0, 1, 9, 10, 11] rfl, hP, hD, hS, (by omega), e3, I3, H3, C3⟩
    refine lv_iload hx hb dL_goods_165 (lv_at hl 1 rfl) ?_
    have hB01 : B9 ≤ 1 := by rcases hB with ⟨z1, z2⟩ | ⟨z1, z2⟩ <;> omega
    refine xr_zne_n (tgt := 183) hx hb (by omega) dL_goods_167 (by decide) (fun c_26 => ?_) (fun c_26 => ?_)
    · skip
      refine lv_iconst (v := nI 1) hx hb dL_goods_183 (by decide) ?_
      refine lv_goto (tgt := 188) hx hb dL_goods_184 (by decide) ?_
      refine lv_istore (lv' := [(10, .int (nI 1)), (11, .int (nI p)), (9, .int (nI j_11)), (8, .int (nI lm)), (7, .int (nI j_8)), (6, .int (nI j_5)), (5, .int x_3), (4, .int (nI k9)), (3, .int (nI 1)), (0, .ref (zo z)), (1, .ref a0), (2, .int (nI nn))]) hx hb dL_goods_188 hl (by decide) rfl (fun ls hl => ?_)
      refine lv_iinc (v := nI (p + 1)) (lv' := [(11, .int (nI (p + 1))), (10, .int (nI 1)), (9, .int (nI j_11)), (8, .int (nI lm)), (7, .int (nI j_8)), (6, .int (nI j_5)), (5, .int x_3), (4, .int (nI k9)), (3, .int (nI 1)), (0, .ref (zo z)), (1, .ref a0), (2, .int (nI nn))]) hx hb dL_goods_190 hl (k := 1) rfl (nI_inc1 p) (by decide) rfl (fun ls hl => ?_)
      refine lv_goto (tgt := 158) hx hb dL_goods_193 (by decide) ?_
      exact ih_158 (lm - (p + 1) + 1) _ _ _ (show lm - (p + 1) + 1 < lm - p + 1 from by omega) ⟨(p + 1), 1, ls, rfl, rfl, lv_sub hl [0, 1, 2, 3, 4, 5, 6, 7, 8, 9, 10, 11] rfl, hP, hD, hS, (by omega), (zb1 (P := fun j => T3 4 (j_5 * 4 + j) = nI j_8) hB c_26)⟩
    refine lv_aload_n hx hb dL_goods_170 rfl (lv_at hl 9 rfl) ?_
    refine lv_iload hx hb dL_goods_171 (lv_at hl 5 rfl) ?_
    refine lv_iload hx hb dL_goods_173 (lv_at hl 0 rfl) ?_
    refine zrV (M := M3) (M' := M3) (x := T3 4 (j_5 * 4 + p)) (As := [.int (nI j_5), .int (nI p)]) (rest := []) hx hb hml hown hts hN hK (t_sub l dC dI z e3 I3 (by omega) lmE lm4 (show p < lm by omega)) 2 gL_goods_X9_substitute rfl hdV_X9_substitute ⟨Nat.le_of_ble_eq_true rfl, Nat.le_of_ble_eq_true rfl⟩ hP hD hS rfl hl.1 rfl (Nat.le_of_ble_eq_true rfl) dL_goods_175 ⟨Nat.zero_le _, Nat.zero_le _⟩ (fun H locs hP hD hS => ?_)
    refine lv_iload hx hb dL_goods_178 (lv_at hl 4 rfl) ?_
    refine lv_icmp_ne (tgt := 187) hx hb dL_goods_180 (by decide) (fun c_27 => ?_) (fun c_27 => ?_)
    · skip
      refine lv_iconst (v := nI 0) hx hb dL_goods_187 (by decide) ?_
      refine lv_istore (lv' := [(10, .int (nI 0)), (11, .int (nI p)), (9, .int (nI j_11)), (8, .int (nI lm)), (7, .int (nI j_8)), (6, .int (nI j_5)), (5, .int x_3), (4, .int (nI k9)), (3, .int (nI 1)), (0, .ref (zo z)), (1, .ref a0), (2, .int (nI nn))]) hx hb dL_goods_188 hl (by decide) rfl (fun ls hl => ?_)
      refine lv_iinc (v := nI (p + 1)) (lv' := [(11, .int (nI (p + 1))), (10, .int (nI 0)), (9, .int (nI j_11)), (8, .int (nI lm)), (7, .int (nI j_8)), (6, .int (nI j_5)), (5, .int x_3), (4, .int (nI k9)), (3, .int (nI 1)), (0, .ref (zo z)), (1, .ref a0), (2, .int (nI nn))]) hx hb dL_goods_190 hl (k := 1) rfl (nI_inc1 p) (by decide) rfl (fun ls hl => ?_)
      refine lv_goto (tgt := 158) hx hb dL_goods_193 (by decide) ?_
      exact ih_158 (lm - (p + 1) + 1) _ _ _ (show lm - (p + 1) + 1 < lm - p + 1 from by omega) ⟨(p + 1), 0, ls, rfl, rfl, lv_sub hl [0, 1, 2, 3, 4, 5, 6, 7, 8, 9, 10, 11] rfl, hP, hD, hS, (by omega), (zb0 (P := fun j => T3 4 (j_5 * 4 + j) = nI j_8) hB c_26 c_27)⟩
    refine lv_iconst (v := nI 1) hx hb dL_goods_183 (by decide) ?_
    refine lv_goto (tgt := 188) hx hb dL_goods_184 (by decide) ?_
    refine lv_istore (lv' := [(10, .int (nI 1)), (11, .int (nI p)), (9, .int (nI j_11)), (8, .int (nI lm)), (7, .int (nI j_8)), (6, .int (nI j_5)), (5, .int x_3), (4, .int (nI k9)), (3, .int (nI 1)), (0, .ref (zo z)), (1, .ref a0), (2, .int (nI nn))]) hx hb dL_goods_188 hl (by decide) rfl (fun ls hl => ?_)
    refine lv_iinc (v := nI (p + 1)) (lv' := [(11, .int (nI (p + 1))), (10, .int (nI 1)), (9, .int (nI j_11)), (8, .int (nI lm)), (7, .int (nI j_8)), (6, .int (nI j_5)), (5, .int x_3), (4, .int (nI k9)), (3, .int (nI 1)), (0, .ref (zo z)), (1, .ref a0), (2, .int (nI nn))]) hx hb dL_goods_190 hl (k := 1) rfl (nI_inc1 p) (by decide) rfl (fun ls hl => ?_)
    refine lv_goto (tgt := 158) hx hb dL_goods_193 (by decide) ?_
    exact ih_158 (lm - (p + 1) + 1) _ _ _ (show lm - (p + 1) + 1 < lm - p + 1 from by omega) ⟨(p + 1), 1, ls, rfl, rfl, lv_sub hl [0, 1, 2, 3, 4, 5, 6, 7, 8, 9, 10, 11] rfl, hP, hD, hS, (by omega), (Or.inr ⟨rfl, p, by omega, c_27⟩)⟩
  refine lv_iload_n hx hb dL_goods_11 rfl (lv_at hl 1 rfl) ?_
  refine xr_if1 (tgt := 86) hx hb (by decide) dL_goods_12 (by decide) ?_
  refine lv_aload_n hx hb dL_goods_15 rfl (lv_at hl 3 rfl) ?_
  refine lv_iconst (v := nI 2) hx hb dL_goods_16 (by decide) ?_
  refine lv_iload hx hb dL_goods_17 (lv_at hl 0 rfl) ?_
  refine xr_iadd_n hx hb dL_goods_19 ?_
  refine zrC (As := [.ref a0, .int (nI (2 + g9))]) (rest := []) hx hb hml hown hts hX hbl hbA hS (c_L_cell l a0 L0 xs (2 + g9) (by omega) hL) 2 gL_goods_L_cell rfl hdL_cell ⟨Nat.le_of_ble_eq_true rfl, Nat.le_of_ble_eq_true rfl⟩ rfl hl.1 rfl (Nat.le_of_ble_eq_true rfl) dL_goods_20 ⟨Nat.zero_le _, Nat.zero_le _⟩ (fun x_28 q_29 => ?_)
  refine lv_istore (lv' := [(5, .int x_28), (4, .int (nI g9)), (3, .int (nI 1)), (0, .ref (zo z)), (1, .ref a0), (2, .int (nI nn))]) hx hb dL_goods_23 hl (by decide) rfl (fun ls hl => ?_)
  refine lv_aload_n hx hb dL_goods_25 rfl (lv_at hl 3 rfl) ?_
  refine lv_iconst (v := nI 1) hx hb dL_goods_26 (by decide) ?_
  refine lv_iload hx hb dL_goods_27 (lv_at hl 0 rfl) ?_
  refine lv_iload hx hb dL_goods_29 (lv_at hl 0 rfl) ?_
  refine lv_bipush (v := nI 20) hx hb dL_goods_31 (by decide) ?_
  refine lv_ishr hx hb dL_goods_33 ?_
  refine lv_iconst (v := nI 2) hx hb dL_goods_34 (by decide) ?_
  refine zrP (As := [.int (x_28 >>> ((nI 20) &&& 31)), .int (nI 2)]) (rest := [.int x_28, .int (nI 1), .ref (zo z)]) hx hb hml hown hts (c_L_low l (x_28 >>> ((nI 20) &&& 31)) 2 (by omega)) 2 gL_goods_L_low rfl hdL_low ⟨Nat.le_of_ble_eq_true rfl, Nat.le_of_ble_eq_true rfl⟩ rfl hl.1 rfl (Nat.le_of_ble_eq_true rfl) dL_goods_35 ⟨Nat.zero_le _, Nat.zero_le _⟩ (fun x_31 q_32 => ?_)
  obtain ⟨j_30, ej_30, hj_30⟩ : ∃ j : Nat, j = zlw (x_28 >>> ((nI 20) &&& 31)) 2 ∧ j < 2 := ⟨_, rfl, zlw_lt _ (by omega)⟩
  rw [q_32, ← ej_30]
  refine xr_zne_n (tgt := 47) hx hb (by omega) dL_goods_38 (by decide) (fun c_33 => ?_) (fun c_33 => ?_)
  · skip
    refine lv_sipush (v := nI 300) hx hb dL_goods_47 (by decide) ?_
    refine zrP (As := [.int x_28, .int (nI 300)]) (rest := [.int (nI 1), .ref (zo z)]) hx hb hml hown hts (c_L_low l x_28 300 (by omega)) 2 gL_goods_L_low rfl hdL_low ⟨Nat.le_of_ble_eq_true rfl, Nat.le_of_ble_eq_true rfl⟩ rfl hl.1 rfl (Nat.le_of_ble_eq_true rfl) dL_goods_50 ⟨Nat.zero_le _, Nat.zero_le _⟩ (fun x_35 q_36 => ?_)
    obtain ⟨j_34, ej_34, hj_34⟩ : ∃ j : Nat, j = zlw x_28 300 ∧ j < 300 := ⟨_, rfl, zlw_lt _ (by omega)⟩
    rw [q_36, ← ej_34]
    refine xr_iadd_n hx hb dL_goods_53 ?_
    refine lv_iconst (v := nI 1) hx hb dL_goods_54 (by decide) ?_
    refine lv_iload hx hb dL_goods_55 (lv_at hl 0 rfl) ?_
    refine lv_bipush (v := nI 14) hx hb dL_goods_57 (by decide) ?_
    refine lv_ishr hx hb dL_goods_59 ?_
    refine lv_bipush (v := nI 20) hx hb dL_goods_60 (by decide) ?_
    refine zrP (As := [.int (x_28 >>> ((nI 14) &&& 31)), .int (nI 20)]) (rest := [.int (nI 1), .int (nI (1 + j_34)), .ref (zo z)]) hx hb hml hown hts (c_L_low l (x_28 >>> ((nI 14) &&& 31)) 20 (by omega)) 2 gL_goods_L_low rfl hdL_low ⟨Nat.le_of_ble_eq_true rfl, Nat.le_of_ble_eq_true rfl⟩ rfl hl.1 rfl (Nat.le_of_ble_eq_true rfl) dL_goods_62 ⟨Nat.zero_le _, Nat.zero_le _⟩ (fun x_38 q_39 => ?_)
    obtain ⟨j_37, ej_37, hj_37⟩ : ∃ j : Nat, j = zlw (x_28 >>> ((nI 14) &&& 31)) 20 ∧ j < 20 := ⟨_, rfl, zlw_lt _ (by omega)⟩
    rw [q_39, ← ej_37]
    refine xr_iadd_n hx hb dL_goods_65 ?_
    obtain ⟨M2, kx, e2, H2⟩ := ua_addGood l dC dI z e1 (I1.t0 0) H1 (Nat.le_of_ble_eq_true rfl) (show g9 < 12 by omega) (⟨by omega, by omega⟩ : 1 ≤ 1 + j_34 ∧ 1 + j_34 ≤ 9999) (⟨by omega, by omega⟩ : 1 ≤ 1 + j_37 ∧ 1 + j_37 ≤ 60)
    obtain ⟨I2, F2⟩ := I1.addGood (by omega) F1 (⟨by omega, by omega⟩ : 1 ≤ 1 + j_34 ∧ 1 + j_34 ≤ 9999) (⟨by omega, by omega⟩ : 1 ≤ 1 + j_37 ∧ 1 + j_37 ≤ 20)
    rw [← e2] at I2 F2
    refine zrV (M := M1) (M' := M2) (x := nI g9) (As := [.int (nI (1 + j_34)), .int (nI (1 + j_37))]) (rest := []) hx hb hml hown hts hN hK (kx) 2 gL_goods_X9_addGood rfl hdV_X9_addGood ⟨Nat.le_of_ble_eq_true rfl, Nat.le_of_ble_eq_true rfl⟩ hP hD hS rfl hl.1 rfl (Nat.le_of_ble_eq_true rfl) dL_goods_66 ⟨Nat.zero_le _, Nat.zero_le _⟩ (fun H locs hP hD hS => ?_)
    refine lv_iload hx hb dL_goods_69 (lv_at hl 1 rfl) ?_
    refine xr_ne_n (tgt := 78) hx hb (by omega) (by omega) dL_goods_71 (by decide) (fun c_40 => False.elim (by exact c_40 rfl)) (fun c_40 => ?_)
    refine lv_iconst (v := nI 1) hx hb dL_goods_74 (by decide) ?_
    refine lv_goto (tgt := 79) hx hb dL_goods_75 (by decide) ?_
    refine lv_istore_n (lv' := [(3, .int (nI 1)), (5, .int x_28), (4, .int (nI g9)), (0, .ref (zo z)), (1, .ref a0), (2, .int (nI nn))]) hx hb dL_goods_79 rfl hl (by decide) rfl (fun ls hl => ?_)
    refine lv_iinc (v := nI (g9 + 1)) (lv' := [(4, .int (nI (g9 + 1))), (3, .int (nI 1)), (5, .int x_28), (0, .ref (zo z)), (1, .ref a0), (2, .int (nI nn))]) hx hb dL_goods_80 hl (k := 2) rfl (nI_inc1 g9) (by decide) rfl (fun ls hl => ?_)
    refine lv_goto (tgt := 5) hx hb dL_goods_83 (by decide) ?_
    exact ih_5 (nn - (g9 + 1) + 1) _ _ _ (show nn - (g9 + 1) + 1 < nn - g9 + 1 from by omega) ⟨(g9 + 1), M2, ls, rfl, rfl, lv_sub hl [0, 1, 3, 4, 5] rfl, hP, hD, hS, (by omega), I2, F2, H2.less, rfl, (by rw [e2]; exact C1)⟩
  refine lv_sipush (v := nI 9999) hx hb dL_goods_41 (by decide) ?_
  refine lv_goto (tgt := 50) hx hb dL_goods_44 (by decide) ?_
  refine zrP (As := [.int x_28, .int (nI 9999)]) (rest := [.int (nI 1), .ref (zo z)]) hx hb hml hown hts (c_L_low l x_28 9999 (by omega)) 2 gL_goods_L_low rfl hdL_low ⟨Nat.le_of_ble_eq_true rfl, Nat.le_of_ble_eq_true rfl⟩ rfl hl.1 rfl (Nat.le_of_ble_eq_true rfl) dL_goods_50 ⟨Nat.zero_le _, Nat.zero_le _⟩ (fun x_42 q_43 => ?_)
  obtain ⟨j_41, ej_41, hj_41⟩ : ∃ j : Nat, j = zlw x_28 9999 ∧ j < 9999 := ⟨_, rfl, zlw_lt _ (by omega)⟩
  rw [q_43, ← ej_41]
  refine xr_iadd_n hx hb dL_goods_53 ?_
  refine lv_iconst (v := nI 1) hx hb dL_goods_54 (by decide) ?_
  refine lv_iload hx hb dL_goods_55 (lv_at hl 0 rfl) ?_
  refine lv_bipush (v := nI 14) hx hb dL_goods_57 (by decide) ?_
  refine lv_ishr hx hb dL_goods_59 ?_
  refine lv_bipush (v := nI 20) hx hb dL_goods_60 (by decide) ?_
  refine zrP (As := [.int (x_28 >>> ((nI 14) &&& 31)), .int (nI 20)]) (rest := [.int (nI 1), .int (nI (1 + j_41)), .ref (zo z)]) hx hb hml hown hts (c_L_low l (x_28 >>> ((nI 14) &&& 31)) 20 (by omega)) 2 gL_goods_L_low rfl hdL_low ⟨Nat.le_of_ble_eq_true rfl, Nat.le_of_ble_eq_true rfl⟩ rfl hl.1 rfl (Nat.le_of_ble_eq_true rfl) dL_goods_62 ⟨Nat.zero_le _, Nat.zero_le _⟩ (fun x_45 q_46 => ?_)
  obtain ⟨j_44, ej_44, hj_44⟩ : ∃ j : Nat, j = zlw (x_28 >>> ((nI 14) &&& 31)) 20 ∧ j < 20 := ⟨_, rfl, zlw_lt _ (by omega)⟩
  rw [q_46, ← ej_44]
  refine xr_iadd_n hx hb dL_goods_65 ?_
  obtain ⟨M2, kx, e2, H2⟩ := ua_addGood l dC dI z e1 (I1.t0 0) H1 (Nat.le_of_ble_eq_true rfl) (show g9 < 12 by omega) (⟨by omega, by omega⟩ : 1 ≤ 1 + j_41 ∧ 1 + j_41 ≤ 9999) (⟨by omega, by omega⟩ : 1 ≤ 1 + j_44 ∧ 1 + j_44 ≤ 60)
  obtain ⟨I2, F2⟩ := I1.addGood (by omega) F1 (⟨by omega, by omega⟩ : 1 ≤ 1 + j_41 ∧ 1 + j_41 ≤ 9999) (⟨by omega, by omega⟩ : 1 ≤ 1 + j_44 ∧ 1 + j_44 ≤ 20)
  rw [← e2] at I2 F2
  refine zrV (M := M1) (M' := M2) (x := nI g9) (As := [.int (nI (1 + j_41)), .int (nI (1 + j_44))]) (rest := []) hx hb hml hown hts hN hK (kx) 2 gL_goods_X9_addGood rfl hdV_X9_addGood ⟨Nat.le_of_ble_eq_true rfl, Nat.le_of_ble_eq_true rfl⟩ hP hD hS rfl hl.1 rfl (Nat.le_of_ble_eq_true rfl) dL_goods_66 ⟨Nat.zero_le _, Nat.zero_le _⟩ (fun H locs hP hD hS => ?_)
  refine lv_iload hx hb dL_goods_69 (lv_at hl 1 rfl) ?_
  refine xr_ne_n (tgt := 78) hx hb (by omega) (by omega) dL_goods_71 (by decide) (fun c_47 => False.elim (by exact c_47 rfl)) (fun c_47 => ?_)
  refine lv_iconst (v := nI 1) hx hb dL_goods_74 (by decide) ?_
  refine lv_goto (tgt := 79) hx hb dL_goods_75 (by decide) ?_
  refine lv_istore_n (lv' := [(3, .int (nI 1)), (5, .int x_28), (4, .int (nI g9)), (0, .ref (zo z)), (1, .ref a0), (2, .int (nI nn))]) hx hb dL_goods_79 rfl hl (by decide) rfl (fun ls hl => ?_)
  refine lv_iinc (v := nI (g9 + 1)) (lv' := [(4, .int (nI (g9 + 1))), (3, .int (nI 1)), (5, .int x_28), (0, .ref (zo z)), (1, .ref a0), (2, .int (nI nn))]) hx hb dL_goods_80 hl (k := 2) rfl (nI_inc1 g9) (by decide) rfl (fun ls hl => ?_)
  refine lv_goto (tgt := 5) hx hb dL_goods_83 (by decide) ?_
  exact ih_5 (nn - (g9 + 1) + 1) _ _ _ (show nn - (g9 + 1) + 1 < nn - g9 + 1 from by omega) ⟨(g9 + 1), M2, ls, rfl, rfl, lv_sub hl [0, 1, 3, 4, 5] rfl, hP, hD, hS, (by omega), I2, F2, H2.less, rfl, (by rw [e2]; exact C1)⟩
