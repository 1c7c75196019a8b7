/-! The law's days to a stage. -/
theorem zx_fst0 (f : Nat → Nat) (sn d : Nat) : ∀ (m k : Nat), m = d - k → (xfst f sn k (d - k) = (-5) ∧ ∀ j, k ≤ j → j < d → f j < sn) ∨ ∃ j, k ≤ j ∧ j < d ∧ xfst f sn k (d - k) = nI j ∧ sn ≤ f j ∧ ∀ a, k ≤ a → a < j → f a < sn
  | 0, k, hm => Or.inl ⟨xfst_end (by omega), fun j h1 h2 => by omega⟩
  | m + 1, k, hm => by
    have hk : k < d := by omega
    by_cases c : sn ≤ f k
    · exact Or.inr ⟨k, Nat.le_refl _, hk, xfst_yes hk c, c, fun a h1 h2 => by omega⟩
    · rw [xfst_no hk (Nat.lt_of_not_le c)]
      rcases zx_fst0 f sn d m (k + 1) (by omega) with ⟨h1, h2⟩ | ⟨j, h1, h2, h3, h4, h5⟩
      · refine Or.inl ⟨h1, fun j a1 a2 => ?_⟩
        by_cases e : j = k
        · subst e; omega
        · exact h2 j (by omega) a2
      · refine Or.inr ⟨j, by omega, h2, h3, h4, fun a a1 a2 => ?_⟩
        by_cases e : a = k
        · subst e; omega
        · exact h5 a (by omega) a2
theorem zx_fst (f : Nat → Nat) (sn d : Nat) : (xfst f sn 0 d = (-5) ∧ ∀ j, j < d → f j < sn) ∨ ∃ j, j < d ∧ xfst f sn 0 d = nI j ∧ sn ≤ f j ∧ ∀ a, a < j → f a < sn := by
  rcases zx_fst0 f sn d d 0 rfl with ⟨h1, h2⟩ | ⟨j, h1, h2, h3, h4, h5⟩
  · exact Or.inl ⟨h1, fun j hj => h2 j (Nat.zero_le _) hj⟩
  · exact Or.inr ⟨j, h2, h3, h4, fun a ha => h5 a (Nat.zero_le _) ha⟩
section AGED
variable {n bz oz tk lz nx dy : Nat} {T : Nat → Nat → Int32}
theorem Iv.acc (h : Iv n bz oz tk lz nx dy T) (dn : Nat) : ∃ Y : Nat, Y < 2 ^ 31 ∧ (psQ T bz lz nx dn).1 = nI Y := by
  have hn := h.n1
  obtain ⟨mx, m1, m2⟩ := h.mx
  obtain ⟨jb, hsum, -⟩ := h.passed (mx := mx) (dn := dn) (by omega) m2 rfl
  obtain ⟨Y, y1, y2⟩ := zs_nat (f := fun b => (psQ T bz lz nx dn).2.2.2.2.1 b - T 13 b) (c := 90) bz fun b hb => by
    obtain ⟨u0, l0, y, b1, b2, -, -, -, -, b7⟩ := jb b hb
    exact ⟨y, by omega, b7⟩
  exact ⟨Y, by omega, hsum.trans y2⟩
theorem Iv.aged (h : Iv n bz oz tk lz nx dy T) {b dl k : Nat} (hb : b < bz) (h38 : T 38 2 = nI 0) (h8 : T 8 b = nI dl) (h9 : ¬ T 9 b = 0) (hdl : dl ≤ 20) (hk : k < dl) : (psQ T bz lz nx k).2.2.1 b = nI (dl - k) := by
  obtain ⟨-, j2, -⟩ := h.pj (mx := 0) (by omega) h38 k
  obtain ⟨u0, l0, u, y, v, l, ⟨a1, a2, a3, a4⟩, a5, a6, a7, a8, a9, b1, b2, -⟩ := j2 b hb
  have a8 : T 9 b = nI u0 := a8
  have a9 : T 8 b = nI l0 := a9
  have e : l0 = dl := nI_inj (by omega) (by omega) (a9.symm.trans h8)
  have u1 : u0 ≠ 0 := fun q => h9 (by rw [a8, q]; rfl)
  have y0 : y = 0 := by
    by_cases q : y = 0
    · exact q
    · have := a6 q
      omega
  have := a7 rfl
  have := a5 (by omega)
  rw [b2, show l = dl - k by omega]
end AGED
set_option maxHeartbeats 4000000 in
set_option maxRecDepth 100000 in
theorem c_L_stageIn (l : Launch) (dC : Nat → ClassId) (dI : Nat → Nat → Nat) (z : XK) {n bz oz tk lz nx dy : Nat} {T : Nat → Nat → Int32} {M : XM} {b sn : Nat} (eT : mT M = T) (hI : Iv n bz oz tk lz nx dy T) (hH : mH M []) (hb1 : b < bz) (hs9 : 1 ≤ sn ∧ sn ≤ 3) (hdy : dy + 20 ≤ 9000) : zL (fun r M' => r = nI 1 ∧ mT M' = T ∧ mH M' []) l (dC, dI) z yL_stageIn wsL_stageIn 7 280 [.ref (zo z), .int (nI b), .int (nI sn)] M := by
  unfold zL
  refine Met.ofW (cc := cL_stageIn) (maxL := 8) (ret := (some .boolean)) (by decide) rfl ?_
  intro p e s m args below meth c s₁ B hml hv
  obtain ⟨rfl, hP, hK, hD0, hN⟩ := hv
  have hx := B.exec
  have hb := B.bytes
  have hr := B.returns
  have hts := atoms_spec (ws := wsL_stageIn) B.pre
  have hown : s.vm.findClass RL = some m.cls := findClass_of_methodNamed B.named
  have hlocks := B.notSynchronized
  obtain ⟨A, hA⟩ : ∃ A, A = va_B (cw z M) := ⟨_, rfl⟩
  have hD : va_D A (cw z M) := hA ▸ hD0.own
  have hS : va_S A s.heap s.heap [] := va_S.rf
  have hl := lv_entry ([.ref (zo z), .int (nI b), .int (nI sn)]) (n := 8) (Nat.le_of_ble_eq_true rfl)
  rw [lg_entry_eq]
  generalize (lg_sl ([.ref (zo z), .int (nI b), .int (nI sn)]) ++ List.replicate (8 - (lg_sl ([.ref (zo z), .int (nI b), .int (nI sn)])).length) Slot.unset).toArray = ls at hl ⊢
  have hl : lv_has ls 8 [(0, .ref (zo z)), (1, .int (nI b)), (2, .int (nI sn))] := hl
  have hn := hI.n1
  obtain ⟨⟨gk, gk1, gk2⟩, ⟨dl, dl1, dl2, dl3⟩, -⟩ := hI.B hb1
  obtain ⟨mx, mx1, mx2⟩ := hI.mx
  obtain ⟨f9, hf9⟩ : ∃ f, f = fun j => xreach (T 30 1) (T 30 2) (T 30 3) (nI (dl - j)) (T 2 gk) := ⟨_, rfl⟩
  have hf4 : ∀ j, f9 j < 4 := fun j => by rw [hf9]; exact xreach_lt _ _ _ _ _
  have hst : xstg (T 30) (T 8) (T 2) (T 6) b = f9 0 := by
    unfold xstg
    rw [dl2, gk2, nI_clamp (by omega), hf9]
    rfl
  have hf40 := hf4 0
  by_cases h9 : T 9 b = 0
  · skip
    refine lv_aload_n hx hb dL_stageIn_0 rfl (lv_at hl 0 rfl) ?_
    refine lv_iload_n hx hb dL_stageIn_1 rfl (lv_at hl 1 rfl) ?_
    refine lv_iload_n hx hb dL_stageIn_2 rfl (lv_at hl 2 rfl) ?_
    refine zrV (M := M) (M' := M) (x := (-5)) (As := [.int (nI b), .int (nI sn)]) (rest := []) hx hb hml hown hts hN hK (ua_sin0 l dC dI z eT hI hb1 gk2 gk1 dl2 dl1 hs9 h9) 2 gL_stageIn_X9_stageIn rfl hdV_X9_stageIn ⟨Nat.le_of_ble_eq_true rfl, Nat.le_of_ble_eq_true rfl⟩ hP hD hS rfl hl.1 rfl (Nat.le_of_ble_eq_true rfl) dL_stageIn_3 ⟨Nat.zero_le _, Nat.zero_le _⟩ (fun H locs hP hD hS => ?_)
    refine lv_istore_n (lv' := [(3, .int (-5)), (0, .ref (zo z)), (1, .int (nI b)), (2, .int (nI sn))]) hx hb dL_stageIn_6 rfl hl (by decide) rfl (fun ls hl => ?_)
    refine lv_aload_n hx hb dL_stageIn_7 rfl (lv_at hl 1 rfl) ?_
    refine lv_iload_n hx hb dL_stageIn_8 rfl (lv_at hl 2 rfl) ?_
    refine lv_iconst (v := nI 2) hx hb dL_stageIn_9 (by decide) ?_
    refine zrV (M := M) (M' := M) (x := nI dl) (As := [.int (nI b), .int (nI 2)]) (rest := []) hx hb hml hown hts hN hK (zX.r (t_batch2 l dC dI z eT hI (by omega)) dl2) 2 gL_stageIn_X9_batch rfl hdV_X9_batch ⟨Nat.le_of_ble_eq_true rfl, Nat.le_of_ble_eq_true rfl⟩ hP hD hS rfl hl.1 rfl (Nat.le_of_ble_eq_true rfl) dL_stageIn_10 ⟨Nat.zero_le _, Nat.zero_le _⟩ (fun H locs hP hD hS => ?_)
    refine lv_istore (lv' := [(4, .int (nI dl)), (3, .int (-5)), (0, .ref (zo z)), (1, .int (nI b)), (2, .int (nI sn))]) hx hb dL_stageIn_13 hl (by decide) rfl (fun ls hl => ?_)
    refine lv_aload_n hx hb dL_stageIn_15 rfl (lv_at hl 2 rfl) ?_
    refine lv_iload_n hx hb dL_stageIn_16 rfl (lv_at hl 3 rfl) ?_
    refine lv_iconst (v := nI 3) hx hb dL_stageIn_17 (by decide) ?_
    refine zrV (M := M) (M' := M) (x := T 9 b) (As := [.int (nI b), .int (nI 3)]) (rest := []) hx hb hml hown hts hN hK (t_batch3 l dC dI z eT hI (by omega)) 2 gL_stageIn_X9_batch rfl hdV_X9_batch ⟨Nat.le_of_ble_eq_true rfl, Nat.le_of_ble_eq_true rfl⟩ hP hD hS rfl hl.1 rfl (Nat.le_of_ble_eq_true rfl) dL_stageIn_18 ⟨Nat.zero_le _, Nat.zero_le _⟩ (fun H locs hP hD hS => ?_)
    refine lv_if_ne (tgt := 36) hx hb dL_stageIn_21 (by decide) (fun c_1 => False.elim (by exact c_1 h9)) (fun c_1 => ?_)
    refine lv_iload_n hx hb dL_stageIn_24 rfl (lv_at hl 1 rfl) ?_
    refine lv_bipush (v := (-5)) hx hb dL_stageIn_25 (by decide) ?_
    refine lv_icmp_ne (tgt := 34) hx hb dL_stageIn_27 (by decide) (fun c_2 => False.elim (by exact c_2 rfl)) (fun c_2 => ?_)
    refine lv_iconst (v := nI 1) hx hb dL_stageIn_30 (by decide) ?_
    refine lv_goto (tgt := 35) hx hb dL_stageIn_31 (by decide) ?_
    have hS9 : va_S (va_B (cw z M)) s.heap H locs := by rw [← hA]; exact hS
    exact W.zret (v := nI 1) hx hb hr rfl (fun t ht hW => ⟨⟨_, _, rfl, ⟨M, rfl, ⟨rfl, eT, hH⟩⟩, by rw [ht]; exact hP⟩, hS9.X ht⟩) hS9.2.2 dL_stageIn_35
  have dl4 : 1 ≤ dl := dl3 fun z => h9 z
  rcases zx_fst f9 sn dl with ⟨w1, w2⟩ | ⟨j9, w0, w1, w3, w4⟩
  · have w20 := w2 0 (by omega)
    refine lv_aload_n hx hb dL_stageIn_0 rfl (lv_at hl 0 rfl) ?_
    refine lv_iload_n hx hb dL_stageIn_1 rfl (lv_at hl 1 rfl) ?_
    refine lv_iload_n hx hb dL_stageIn_2 rfl (lv_at hl 2 rfl) ?_
    refine zrV (M := M) (M' := M) (x := (-5)) (As := [.int (nI b), .int (nI sn)]) (rest := []) hx hb hml hown hts hN hK (zX.r (ua_sin l dC dI z eT hI hb1 gk2 gk1 dl2 dl1 hs9 h9) (by rw [hf9] at w1; exact w1)) 2 gL_stageIn_X9_stageIn rfl hdV_X9_stageIn ⟨Nat.le_of_ble_eq_true rfl, Nat.le_of_ble_eq_true rfl⟩ hP hD hS rfl hl.1 rfl (Nat.le_of_ble_eq_true rfl) dL_stageIn_3 ⟨Nat.zero_le _, Nat.zero_le _⟩ (fun H locs hP hD hS => ?_)
    refine lv_istore_n (lv' := [(3, .int (-5)), (0, .ref (zo z)), (1, .int (nI b)), (2, .int (nI sn))]) hx hb dL_stageIn_6 rfl hl (by decide) rfl (fun ls hl => ?_)
    refine lv_aload_n hx hb dL_stageIn_7 rfl (lv_at hl 1 rfl) ?_
    refine lv_iload_n hx hb dL_stageIn_8 rfl (lv_at hl 2 rfl) ?_
    refine lv_iconst (v := nI 2) hx hb dL_stageIn_9 (by decide) ?_
    refine zrV (M := M) (M' := M) (x := nI dl) (As := [.int (nI b), .int (nI 2)]) (rest := []) hx hb hml hown hts hN hK (zX.r (t_batch2 l dC dI z eT hI (by omega)) dl2) 2 gL_stageIn_X9_batch rfl hdV_X9_batch ⟨Nat.le_of_ble_eq_true rfl, Nat.le_of_ble_eq_true rfl⟩ hP hD hS rfl hl.1 rfl (Nat.le_of_ble_eq_true rfl) dL_stageIn_10 ⟨Nat.zero_le _, Nat.zero_le _⟩ (fun H locs hP hD hS => ?_)
    refine lv_istore (lv' := [(4, .int (nI dl)), (3, .int (-5)), (0, .ref (zo z)), (1, .int (nI b)), (2, .int (nI sn))]) hx hb dL_stageIn_13 hl (by decide) rfl (fun ls hl => ?_)
    refine lv_aload_n hx hb dL_stageIn_15 rfl (lv_at hl 2 rfl) ?_
    refine lv_iload_n hx hb dL_stageIn_16 rfl (lv_at hl 3 rfl) ?_
    refine lv_iconst (v := nI 3) hx hb dL_stageIn_17 (by decide) ?_
    refine zrV (M := M) (M' := M) (x := T 9 b) (As := [.int (nI b), .int (nI 3)]) (rest := []) hx hb hml hown hts hN hK (t_batch3 l dC dI z eT hI (by omega)) 2 gL_stageIn_X9_batch rfl hdV_X9_batch ⟨Nat.le_of_ble_eq_true rfl, Nat.le_of_ble_eq_true rfl⟩ hP hD hS rfl hl.1 rfl (Nat.le_of_ble_eq_true rfl) dL_stageIn_18 ⟨Nat.zero_le _, Nat.zero_le _⟩ (fun H locs hP hD hS => ?_)
    refine lv_if_ne (tgt := 36) hx hb dL_stageIn_21 (by decide) (fun c_3 => ?_) (fun c_3 => False.elim (by exact h9 c_3))
    refine lv_iload_n hx hb dL_stageIn_36 rfl (lv_at hl 1 rfl) ?_
    refine lv_bipush (v := (-5)) hx hb dL_stageIn_37 (by decide) ?_
    refine lv_icmp_ne (tgt := 75) hx hb dL_stageIn_39 (by decide) (fun c_4 => False.elim (by exact c_4 rfl)) (fun c_4 => ?_)
    refine lv_aload_n hx hb dL_stageIn_42 rfl (lv_at hl 2 rfl) ?_
    refine lv_iload_n hx hb dL_stageIn_43 rfl (lv_at hl 3 rfl) ?_
    refine lv_bipush (v := nI 10) hx hb dL_stageIn_44 (by decide) ?_
    refine zrV (M := M) (M' := M) (x := nI (f9 0)) (As := [.int (nI b), .int (nI 10)]) (rest := []) hx hb hml hown hts hN hK (zX.r (t_batch10 l dC dI z eT hI (by omega)) (congrArg nI hst)) 2 gL_stageIn_X9_batch rfl hdV_X9_batch ⟨Nat.le_of_ble_eq_true rfl, Nat.le_of_ble_eq_true rfl⟩ hP hD hS rfl hl.1 rfl (Nat.le_of_ble_eq_true rfl) dL_stageIn_46 ⟨Nat.zero_le _, Nat.zero_le _⟩ (fun H locs hP hD hS => ?_)
    refine lv_iload_n hx hb dL_stageIn_49 rfl (lv_at hl 4 rfl) ?_
    refine xr_ge_n (tgt := 73) hx hb (by omega) (by omega) dL_stageIn_50 (by decide) (fun c_5 => False.elim (by omega)) (fun c_5 => ?_)
    refine lv_iload hx hb dL_stageIn_53 (lv_at hl 0 rfl) ?_
    refine lv_iconst (v := nI 1) hx hb dL_stageIn_55 (by decide) ?_
    refine xr_eq_n (tgt := 69) hx hb (by omega) (by omega) dL_stageIn_56 (by decide) (fun c_6 => ?_) (fun c_6 => ?_)
    · skip
      refine lv_iconst (v := nI 1) hx hb dL_stageIn_69 (by decide) ?_
      refine lv_goto (tgt := 74) hx hb dL_stageIn_70 (by decide) ?_
      have hS9 : va_S (va_B (cw z M)) s.heap H locs := by rw [← hA]; exact hS
      exact W.zret (v := nI 1) hx hb hr rfl (fun t ht hW => ⟨⟨_, _, rfl, ⟨M, rfl, ⟨rfl, eT, hH⟩⟩, by rw [ht]; exact hP⟩, hS9.X ht⟩) hS9.2.2 dL_stageIn_74
    refine lv_aload_n hx hb dL_stageIn_59 rfl (lv_at hl 2 rfl) ?_
    refine lv_iload_n hx hb dL_stageIn_60 rfl (lv_at hl 3 rfl) ?_
    refine lv_iload_n hx hb dL_stageIn_61 rfl (lv_at hl 4 rfl) ?_
    refine zrV (M := M) (M' := M) (x := (-5)) (As := [.int (nI b), .int (nI sn)]) (rest := []) hx hb hml hown hts hN hK (zX.r (ua_sin l dC dI z eT hI hb1 gk2 gk1 dl2 dl1 hs9 h9) (by rw [hf9] at w1; exact w1)) 2 gL_stageIn_X9_stageIn rfl hdV_X9_stageIn ⟨Nat.le_of_ble_eq_true rfl, Nat.le_of_ble_eq_true rfl⟩ hP hD hS rfl hl.1 rfl (Nat.le_of_ble_eq_true rfl) dL_stageIn_62 ⟨Nat.zero_le _, Nat.zero_le _⟩ (fun H locs hP hD hS => ?_)
    refine lv_iload_n hx hb dL_stageIn_65 rfl (lv_at hl 1 rfl) ?_
    refine lv_icmp_ne (tgt := 73) hx hb dL_stageIn_66 (by decide) (fun c_7 => False.elim (by exact c_7 rfl)) (fun c_7 => ?_)
    refine lv_iconst (v := nI 1) hx hb dL_stageIn_69 (by decide) ?_
    refine lv_goto (tgt := 74) hx hb dL_stageIn_70 (by decide) ?_
    have hS9 : va_S (va_B (cw z M)) s.heap H locs := by rw [← hA]; exact hS
    exact W.zret (v := nI 1) hx hb hr rfl (fun t ht hW => ⟨⟨_, _, rfl, ⟨M, rfl, ⟨rfl, eT, hH⟩⟩, by rw [ht]; exact hP⟩, hS9.X ht⟩) hS9.2.2 dL_stageIn_74
  have hf4j := hf4 j9
  refine lv_aload_n hx hb dL_stageIn_0 rfl (lv_at hl 0 rfl) ?_
  refine lv_iload_n hx hb dL_stageIn_1 rfl (lv_at hl 1 rfl) ?_
  refine lv_iload_n hx hb dL_stageIn_2 rfl (lv_at hl 2 rfl) ?_
  refine zrV (M := M) (M' := M) (x := nI j9) (As := [.int (nI b), .int (nI sn)]) (rest := []) hx hb hml hown hts hN hK (zX.r (ua_sin l dC dI z eT hI hb1 gk2 gk1 dl2 dl1 hs9 h9) (by rw [hf9] at w1; exact w1)) 2 gL_stageIn_X9_stageIn rfl hdV_X9_stageIn ⟨Nat.le_of_ble_eq_true rfl, Nat.le_of_ble_eq_true rfl⟩ hP hD hS rfl hl.1 rfl (Nat.le_of_ble_eq_true rfl) dL_stageIn_3 ⟨Nat.zero_le _, Nat.zero_le _⟩ (fun H locs hP hD hS => ?_)
  refine lv_istore_n (lv' := [(3, .int (nI j9)), (0, .ref (zo z)), (1, .int (nI b)), (2, .int (nI sn))]) hx hb dL_stageIn_6 rfl hl (by decide) rfl (fun ls hl => ?_)
  refine lv_aload_n hx hb dL_stageIn_7 rfl (lv_at hl 1 rfl) ?_
  refine lv_iload_n hx hb dL_stageIn_8 rfl (lv_at hl 2 rfl) ?_
  refine lv_iconst (v := nI 2) hx hb dL_stageIn_9 (by decide) ?_
  refine zrV (M := M) (M' := M) (x := nI dl) (As := [.int (nI b), .int (nI 2)]) (rest := []) hx hb hml hown hts hN hK (zX.r (t_batch2 l dC dI z eT hI (by omega)) dl2) 2 gL_stageIn_X9_batch rfl hdV_X9_batch ⟨Nat.le_of_ble_eq_true rfl, Nat.le_of_ble_eq_true rfl⟩ hP hD hS rfl hl.1 rfl (Nat.le_of_ble_eq_true rfl) dL_stageIn_10 ⟨Nat.zero_le _, Nat.zero_le _⟩ (fun H locs hP hD hS => ?_)
  refine lv_istore (lv' := [(4, .int (nI dl)), (3, .int (nI j9)), (0, .ref (zo z)), (1, .int (nI b)), (2, .int (nI sn))]) hx hb dL_stageIn_13 hl (by decide) rfl (fun ls hl => ?_)
  refine lv_aload_n hx hb dL_stageIn_15 rfl (lv_at hl 2 rfl) ?_
  refine lv_iload_n hx hb dL_stageIn_16 rfl (lv_at hl 3 rfl) ?_
  refine lv_iconst (v := nI 3) hx hb dL_stageIn_17 (by decide) ?_
  refine zrV (M := M) (M' := M) (x := T 9 b) (As := [.int (nI b), .int (nI 3)]) (rest := []) hx hb hml hown hts hN hK (t_batch3 l dC dI z eT hI (by omega)) 2 gL_stageIn_X9_batch rfl hdV_X9_batch ⟨Nat.le_of_ble_eq_true rfl, Nat.le_of_ble_eq_true rfl⟩ hP hD hS rfl hl.1 rfl (Nat.le_of_ble_eq_true rfl) dL_stageIn_18 ⟨Nat.zero_le _, Nat.zero_le _⟩ (fun H locs hP hD hS => ?_)
  refine lv_if_ne (tgt := 36) hx hb dL_stageIn_21 (by decide) (fun c_8 => ?_) (fun c_8 => False.elim (by exact h9 c_8))
  refine lv_iload_n hx hb dL_stageIn_36 rfl (lv_at hl 1 rfl) ?_
  refine lv_bipush (v := (-5)) hx hb dL_stageIn_37 (by decide) ?_
  refine lv_icmp_ne (tgt := 75) hx hb dL_stageIn_39 (by decide) (fun c_9 => ?_) (fun c_9 => False.elim (by exact nI_ne5 (by omega) c_9))
  refine lv_iload_n hx hb dL_stageIn_75 rfl (lv_at hl 1 rfl) ?_
  refine xr_zlt_n (tgt := 117) hx hb (by omega) dL_stageIn_76 (by decide) ?_
  refine lv_iload_n hx hb dL_stageIn_79 rfl (lv_at hl 1 rfl) ?_
  refine lv_iload hx hb dL_stageIn_80 (lv_at hl 0 rfl) ?_
  refine xr_ge_n (tgt := 117) hx hb (by omega) (by omega) dL_stageIn_82 (by decide) (fun c_10 => False.elim (by omega)) (fun c_10 => ?_)
  refine lv_iload_n hx hb dL_stageIn_85 rfl (lv_at hl 1 rfl) ?_
  refine xr_zne_n (tgt := 93) hx hb (by omega) dL_stageIn_86 (by decide) (fun c_11 => ?_) (fun c_11 => ?_)
  · skip
    refine lv_iconst (v := nI 0) hx hb dL_stageIn_93 (by decide) ?_
    refine lv_aload_n hx hb dL_stageIn_94 rfl (lv_at hl 2 rfl) ?_
    refine lv_iload_n hx hb dL_stageIn_95 rfl (lv_at hl 3 rfl) ?_
    refine lv_bipush (v := nI 10) hx hb dL_stageIn_96 (by decide) ?_
    refine zrV (M := M) (M' := M) (x := nI (f9 0)) (As := [.int (nI b), .int (nI 10)]) (rest := [.int (nI 0)]) hx hb hml hown hts hN hK (zX.r (t_batch10 l dC dI z eT hI (by omega)) (congrArg nI hst)) 2 gL_stageIn_X9_batch rfl hdV_X9_batch ⟨Nat.le_of_ble_eq_true rfl, Nat.le_of_ble_eq_true rfl⟩ hP hD hS rfl hl.1 rfl (Nat.le_of_ble_eq_true rfl) dL_stageIn_98 ⟨Nat.zero_le _, Nat.zero_le _⟩ (fun H locs hP hD hS => ?_)
    refine lv_iload_n hx hb dL_stageIn_101 rfl (lv_at hl 4 rfl) ?_
    refine xr_lt_n (tgt := 109) hx hb (by omega) (by omega) dL_stageIn_102 (by decide) (fun c_12 => ?_) (fun c_12 => False.elim (by have := w4 0 (by omega); omega))
    refine lv_iconst (v := nI 0) hx hb dL_stageIn_109 (by decide) ?_
    refine xr_ne_n (a := 0) (b := 0) (tgt := 117) hx hb (by decide) (by decide) dL_stageIn_110 (by decide) (fun c9 => absurd c9 (by decide)) (fun _ => ?_)
    refine lv_iconst (v := nI 1) hx hb dL_stageIn_113 (by decide) ?_
    refine lv_goto (tgt := 118) hx hb dL_stageIn_114 (by decide) ?_
    refine lv_istore (lv' := [(5, .int (nI 1)), (4, .int (nI dl)), (3, .int (nI j9)), (0, .ref (zo z)), (1, .int (nI b)), (2, .int (nI sn))]) hx hb dL_stageIn_118 hl (by decide) rfl (fun ls hl => ?_)
    refine lv_iload_n hx hb dL_stageIn_120 rfl (lv_at hl 2 rfl) ?_
    refine xr_zeq_n (tgt := 129) hx hb (by omega) dL_stageIn_121 (by decide) (fun c_13 => False.elim (by omega)) (fun c_13 => ?_)
    refine lv_iload hx hb dL_stageIn_124 (lv_at hl 0 rfl) ?_
    refine xr_ifn1 (tgt := 132) hx hb (by decide) dL_stageIn_126 (by decide) ?_
    refine lv_aload_n hx hb dL_stageIn_132 rfl (lv_at hl 3 rfl) ?_
    refine lv_bipush (v := nI 16) hx hb dL_stageIn_133 (by decide) ?_
    refine zrV (M := M) (M' := M) (x := nI mx) (As := [.int (nI 16)]) (rest := []) hx hb hml hown hts hN hK (zX.r (t_count16 l dC dI z eT hI hH) mx2) 1 gL_stageIn_X9_count rfl hdV_X9_count ⟨Nat.le_of_ble_eq_true rfl, Nat.le_of_ble_eq_true rfl⟩ hP hD hS rfl hl.1 rfl (Nat.le_of_ble_eq_true rfl) dL_stageIn_135 ⟨Nat.zero_le _, Nat.zero_le _⟩ (fun H locs hP hD hS => ?_)
    refine lv_istore (lv' := [(6, .int (nI mx)), (5, .int (nI 1)), (4, .int (nI dl)), (3, .int (nI j9)), (0, .ref (zo z)), (1, .int (nI b)), (2, .int (nI sn))]) hx hb dL_stageIn_138 hl (by decide) rfl (fun ls hl => ?_)
    refine lv_iload hx hb dL_stageIn_140 (lv_at hl 0 rfl) ?_
    refine xr_zeq_n (tgt := 156) hx hb (by omega) dL_stageIn_142 (by decide) (fun c_14 => ?_) (fun c_14 => ?_)
    · skip
      obtain ⟨T1, hT1⟩ : ∃ x, x = T := ⟨_, rfl⟩
      have e1 : mT M = T1 := by rw [hT1]; exact eT
      have I1 : Iv n bz oz tk lz nx dy T1 := by rw [hT1]; exact hI
      have T138 : T1 38 2 = nI 0 := by rw [hT1, mx2, c_14]
      have T18 : T1 8 b = nI dl := by rw [hT1]; exact dl2
      have T19 : ¬ T1 9 b = 0 := by rw [hT1]; exact h9
      have T1s : T1 30 = T 30 ∧ T1 2 = T 2 ∧ T1 6 = T 6 := by rw [hT1]; exact ⟨rfl, rfl, rfl⟩
      refine lv_iconst (v := nI 1) hx hb dL_stageIn_156 (by decide) ?_
      refine lv_goto (tgt := 161) hx hb dL_stageIn_157 (by decide) ?_
      refine lv_istore (lv' := [(7, .int (nI 1)), (6, .int (nI mx)), (5, .int (nI 1)), (4, .int (nI dl)), (3, .int (nI j9)), (0, .ref (zo z)), (1, .int (nI b)), (2, .int (nI sn))]) hx hb dL_stageIn_161 hl (by decide) rfl (fun ls hl => ?_)
      refine lv_iload hx hb dL_stageIn_163 (lv_at hl 0 rfl) ?_
      refine xr_if1 (tgt := 198) hx hb (by decide) dL_stageIn_165 (by decide) ?_
      refine lv_aload_n hx hb dL_stageIn_168 rfl (lv_at hl 5 rfl) ?_
      refine lv_iload_n hx hb dL_stageIn_169 rfl (lv_at hl 4 rfl) ?_
      obtain ⟨M2, kp2, e2, H2⟩ := ua_pass l dC dI z e1 I1 hH (Nat.le_of_ble_eq_true rfl) (⟨by omega, by omega⟩ : 1 ≤ j9 ∧ j9 ≤ 60)
      obtain ⟨Y2, y2, z2⟩ := I1.acc (j9)
      obtain ⟨T2, hT2⟩ : ∃ x, x = psT T1 bz (psQ T1 bz lz nx (j9)) := ⟨_, rfl⟩
      rw [← hT2] at e2
      have I2 := I1.pass (dn := j9) (by omega)
      rw [← hT2] at I2
      have hst2 : xstg (T2 30) (T2 8) (T2 2) (T2 6) b = f9 (j9) := by
        have a8 : T2 8 b = nI (dl - (j9)) := by rw [hT2]; exact I1.aged hb1 T138 T18 T19 dl1 (by omega)
        have a30 : T2 30 = T 30 := by rw [hT2]; exact T1s.1
        have a2 : T2 2 = T 2 := by rw [hT2]; exact T1s.2.1
        have a6 : T2 6 = T 6 := by rw [hT2]; exact T1s.2.2
        unfold xstg
        rw [a8, a30, a2, a6, gk2, nI_clamp (by omega), hf9]
      have hf4k2 := hf4 (j9)
      refine zrV (M := M) (M' := M2) (x := nI Y2) (As := [.int (nI j9)]) (rest := []) hx hb hml hown hts hN hK (zX.r kp2 z2) 1 gL_stageIn_X9_pass rfl hdV_X9_pass ⟨Nat.le_of_ble_eq_true rfl, Nat.le_of_ble_eq_true rfl⟩ hP hD hS rfl hl.1 rfl (Nat.le_of_ble_eq_true rfl) dL_stageIn_170 ⟨Nat.zero_le _, Nat.zero_le _⟩ (fun H locs hP hD hS => ?_)
      refine xr_zlt_n (tgt := 198) hx hb (by omega) dL_stageIn_173 (by decide) ?_
      refine lv_aload_n hx hb dL_stageIn_176 rfl (lv_at hl 5 rfl) ?_
      refine lv_iload_n hx hb dL_stageIn_177 rfl (lv_at hl 6 rfl) ?_
      refine lv_bipush (v := nI 10) hx hb dL_stageIn_178 (by decide) ?_
      refine zrV (M := M2) (M' := M2) (x := nI (f9 (j9))) (As := [.int (nI b), .int (nI 10)]) (rest := []) hx hb hml hown hts hN hK (zX.r (t_batch10 l dC dI z e2 I2 (by omega)) (congrArg nI hst2)) 2 gL_stageIn_X9_batch rfl hdV_X9_batch ⟨Nat.le_of_ble_eq_true rfl, Nat.le_of_ble_eq_true rfl⟩ hP hD hS rfl hl.1 rfl (Nat.le_of_ble_eq_true rfl) dL_stageIn_180 ⟨Nat.zero_le _, Nat.zero_le _⟩ (fun H locs hP hD hS => ?_)
      refine lv_iload_n hx hb dL_stageIn_183 rfl (lv_at hl 7 rfl) ?_
      refine xr_lt_n (tgt := 198) hx hb (by omega) (by omega) dL_stageIn_184 (by decide) (fun c_15 => False.elim (by omega)) (fun c_15 => ?_)
      refine lv_aload_n hx hb dL_stageIn_187 rfl (lv_at hl 5 rfl) ?_
      obtain ⟨M3, u3, ku3, hu3, e3, H3⟩ := ua_undo l dC dI z e2 H2
      refine zrV (M := M2) (M' := M3) (x := nI u3) (As := []) (rest := []) hx hb hml hown hts hN hK (ku3) 0 gL_stageIn_X9_undo rfl hdV_X9_undo ⟨Nat.le_of_ble_eq_true rfl, Nat.le_of_ble_eq_true rfl⟩ hP hD hS rfl hl.1 rfl (Nat.le_of_ble_eq_true rfl) dL_stageIn_188 ⟨Nat.zero_le _, Nat.zero_le _⟩ (fun H locs hP hD hS => ?_)
      refine xr_zlt_n (tgt := 198) hx hb (by omega) dL_stageIn_191 (by decide) ?_
      refine lv_iconst (v := nI 1) hx hb dL_stageIn_194 (by decide) ?_
      refine lv_goto (tgt := 199) hx hb dL_stageIn_195 (by decide) ?_
      refine lv_istore (lv' := [(5, .int (nI 1)), (7, .int (nI 1)), (6, .int (nI mx)), (4, .int (nI dl)), (3, .int (nI j9)), (0, .ref (zo z)), (1, .int (nI b)), (2, .int (nI sn))]) hx hb dL_stageIn_199 hl (by decide) rfl (fun ls hl => ?_)
      refine lv_iload hx hb dL_stageIn_201 (lv_at hl 0 rfl) ?_
      refine xr_if1 (tgt := 243) hx hb (by decide) dL_stageIn_203 (by decide) ?_
      refine lv_iload_n hx hb dL_stageIn_206 rfl (lv_at hl 4 rfl) ?_
      refine lv_iconst (v := nI 1) hx hb dL_stageIn_207 (by decide) ?_
      refine xr_eq_n (tgt := 239) hx hb (by omega) (by omega) dL_stageIn_208 (by decide) (fun c_16 => ?_) (fun c_16 => ?_)
      · skip
        refine lv_iconst (v := nI 1) hx hb dL_stageIn_239 (by decide) ?_
        refine lv_goto (tgt := 244) hx hb dL_stageIn_240 (by decide) ?_
        refine lv_istore (lv' := [(5, .int (nI 1)), (7, .int (nI 1)), (6, .int (nI mx)), (4, .int (nI dl)), (3, .int (nI j9)), (0, .ref (zo z)), (1, .int (nI b)), (2, .int (nI sn))]) hx hb dL_stageIn_244 hl (by decide) rfl (fun ls hl => ?_)
        refine lv_iload hx hb dL_stageIn_246 (lv_at hl 0 rfl) ?_
        refine xr_if1 (tgt := 289) hx hb (by decide) dL_stageIn_248 (by decide) ?_
        refine lv_iload hx hb dL_stageIn_251 (lv_at hl 2 rfl) ?_
        refine xr_zeq_n (tgt := 263) hx hb (by omega) dL_stageIn_253 (by decide) (fun c_17 => ?_) (fun c_17 => False.elim (by omega))
        have e9 : mT M3 = T := by rw [← hT1]; exact e3
        refine lv_aload_n hx hb dL_stageIn_263 rfl (lv_at hl 5 rfl) ?_
        refine lv_bipush (v := nI 16) hx hb dL_stageIn_264 (by decide) ?_
        refine zrV (M := M3) (M' := M3) (x := nI mx) (As := [.int (nI 16)]) (rest := []) hx hb hml hown hts hN hK (zX.r (t_count16 l dC dI z e9 hI H3) mx2) 1 gL_stageIn_X9_count rfl hdV_X9_count ⟨Nat.le_of_ble_eq_true rfl, Nat.le_of_ble_eq_true rfl⟩ hP hD hS rfl hl.1 rfl (Nat.le_of_ble_eq_true rfl) dL_stageIn_266 ⟨Nat.zero_le _, Nat.zero_le _⟩ (fun H locs hP hD hS => ?_)
        refine lv_iload hx hb dL_stageIn_269 (lv_at hl 2 rfl) ?_
        refine xr_ne_n (tgt := 289) hx hb (by omega) (by omega) dL_stageIn_271 (by decide) (fun c_18 => False.elim (by exact c_18 rfl)) (fun c_18 => ?_)
        refine lv_aload_n hx hb dL_stageIn_274 rfl (lv_at hl 5 rfl) ?_
        refine lv_iload_n hx hb dL_stageIn_275 rfl (lv_at hl 6 rfl) ?_
        refine lv_iconst (v := nI 2) hx hb dL_stageIn_276 (by decide) ?_
        refine zrV (M := M3) (M' := M3) (x := nI dl) (As := [.int (nI b), .int (nI 2)]) (rest := []) hx hb hml hown hts hN hK (zX.r (t_batch2 l dC dI z e9 hI (by omega)) dl2) 2 gL_stageIn_X9_batch rfl hdV_X9_batch ⟨Nat.le_of_ble_eq_true rfl, Nat.le_of_ble_eq_true rfl⟩ hP hD hS rfl hl.1 rfl (Nat.le_of_ble_eq_true rfl) dL_stageIn_277 ⟨Nat.zero_le _, Nat.zero_le _⟩ (fun H locs hP hD hS => ?_)
        refine lv_iload hx hb dL_stageIn_280 (lv_at hl 3 rfl) ?_
        refine xr_ne_n (tgt := 289) hx hb (by omega) (by omega) dL_stageIn_282 (by decide) (fun c_19 => False.elim (by exact c_19 rfl)) (fun c_19 => ?_)
        refine lv_iconst (v := nI 1) hx hb dL_stageIn_285 (by decide) ?_
        refine lv_goto (tgt := 290) hx hb dL_stageIn_286 (by decide) ?_
        have hS9 : va_S (va_B (cw z M)) s.heap H locs := by rw [← hA]; exact hS
        exact W.zret (v := nI 1) hx hb hr rfl (fun t ht hW => ⟨⟨_, _, rfl, ⟨M3, rfl, ⟨rfl, e9, H3⟩⟩, by rw [ht]; exact hP⟩, hS9.X ht⟩) hS9.2.2 dL_stageIn_290
      refine lv_aload_n hx hb dL_stageIn_211 rfl (lv_at hl 5 rfl) ?_
      refine lv_iload_n hx hb dL_stageIn_212 rfl (lv_at hl 4 rfl) ?_
      refine lv_iconst (v := nI 1) hx hb dL_stageIn_213 (by decide) ?_
      refine xr_isub_n hx hb (by omega) dL_stageIn_214 ?_
      obtain ⟨M4, kp4, e4, H4⟩ := ua_pass l dC dI z e3 I1 H3 (Nat.le_of_ble_eq_true rfl) (⟨by omega, by omega⟩ : 1 ≤ j9 - 1 ∧ j9 - 1 ≤ 60)
      obtain ⟨Y4, y4, z4⟩ := I1.acc (j9 - 1)
      obtain ⟨T4, hT4⟩ : ∃ x, x = psT T1 bz (psQ T1 bz lz nx (j9 - 1)) := ⟨_, rfl⟩
      rw [← hT4] at e4
      have I4 := I1.pass (dn := j9 - 1) (by omega)
      rw [← hT4] at I4
      have hst4 : xstg (T4 30) (T4 8) (T4 2) (T4 6) b = f9 (j9 - 1) := by
        have a8 : T4 8 b = nI (dl - (j9 - 1)) := by rw [hT4]; exact I1.aged hb1 T138 T18 T19 dl1 (by omega)
        have a30 : T4 30 = T 30 := by rw [hT4]; exact T1s.1
        have a2 : T4 2 = T 2 := by rw [hT4]; exact T1s.2.1
        have a6 : T4 6 = T 6 := by rw [hT4]; exact T1s.2.2
        unfold xstg
        rw [a8, a30, a2, a6, gk2, nI_clamp (by omega), hf9]
      have hf4k4 := hf4 (j9 - 1)
      refine zrV (M := M3) (M' := M4) (x := nI Y4) (As := [.int (nI (j9 - 1))]) (rest := []) hx hb hml hown hts hN hK (zX.r kp4 z4) 1 gL_stageIn_X9_pass rfl hdV_X9_pass ⟨Nat.le_of_ble_eq_true rfl, Nat.le_of_ble_eq_true rfl⟩ hP hD hS rfl hl.1 rfl (Nat.le_of_ble_eq_true rfl) dL_stageIn_215 ⟨Nat.zero_le _, Nat.zero_le _⟩ (fun H locs hP hD hS => ?_)
      refine xr_zlt_n (tgt := 243) hx hb (by omega) dL_stageIn_218 (by decide) ?_
      refine lv_aload_n hx hb dL_stageIn_221 rfl (lv_at hl 5 rfl) ?_
      refine lv_iload_n hx hb dL_stageIn_222 rfl (lv_at hl 6 rfl) ?_
      refine lv_bipush (v := nI 10) hx hb dL_stageIn_223 (by decide) ?_
      refine zrV (M := M4) (M' := M4) (x := nI (f9 (j9 - 1))) (As := [.int (nI b), .int (nI 10)]) (rest := []) hx hb hml hown hts hN hK (zX.r (t_batch10 l dC dI z e4 I4 (by omega)) (congrArg nI hst4)) 2 gL_stageIn_X9_batch rfl hdV_X9_batch ⟨Nat.le_of_ble_eq_true rfl, Nat.le_of_ble_eq_true rfl⟩ hP hD hS rfl hl.1 rfl (Nat.le_of_ble_eq_true rfl) dL_stageIn_225 ⟨Nat.zero_le _, Nat.zero_le _⟩ (fun H locs hP hD hS => ?_)
      refine lv_iload_n hx hb dL_stageIn_228 rfl (lv_at hl 7 rfl) ?_
      refine xr_ge_n (tgt := 243) hx hb (by omega) (by omega) dL_stageIn_229 (by decide) (fun c_20 => False.elim (by have := w4 (j9 - 1) (by omega); omega)) (fun c_20 => ?_)
      refine lv_aload_n hx hb dL_stageIn_232 rfl (lv_at hl 5 rfl) ?_
      obtain ⟨M5, u5, ku5, hu5, e5, H5⟩ := ua_undo l dC dI z e4 H4
      refine zrV (M := M4) (M' := M5) (x := nI u5) (As := []) (rest := []) hx hb hml hown hts hN hK (ku5) 0 gL_stageIn_X9_undo rfl hdV_X9_undo ⟨Nat.le_of_ble_eq_true rfl, Nat.le_of_ble_eq_true rfl⟩ hP hD hS rfl hl.1 rfl (Nat.le_of_ble_eq_true rfl) dL_stageIn_233 ⟨Nat.zero_le _, Nat.zero_le _⟩ (fun H locs hP hD hS => ?_)
      refine xr_zlt_n (tgt := 243) hx hb (by omega) dL_stageIn_236 (by decide) ?_
      refine lv_iconst (v := nI 1) hx hb dL_stageIn_239 (by decide) ?_
      refine lv_goto (tgt := 244) hx hb dL_stageIn_240 (by decide) ?_
      refine lv_istore (lv' := [(5, .int (nI 1)), (7, .int (nI 1)), (6, .int (nI mx)), (4, .int (nI dl)), (3, .int (nI j9)), (0, .ref (zo z)), (1, .int (nI b)), (2, .int (nI sn))]) hx hb dL_stageIn_244 hl (by decide) rfl (fun ls hl => ?_)
      refine lv_iload hx hb dL_stageIn_246 (lv_at hl 0 rfl) ?_
      refine xr_if1 (tgt := 289) hx hb (by decide) dL_stageIn_248 (by decide) ?_
      refine lv_iload hx hb dL_stageIn_251 (lv_at hl 2 rfl) ?_
      refine xr_zeq_n (tgt := 263) hx hb (by omega) dL_stageIn_253 (by decide) (fun c_21 => ?_) (fun c_21 => False.elim (by omega))
      have e9 : mT M5 = T := by rw [← hT1]; exact e5
      refine lv_aload_n hx hb dL_stageIn_263 rfl (lv_at hl 5 rfl) ?_
      refine lv_bipush (v := nI 16) hx hb dL_stageIn_264 (by decide) ?_
      refine zrV (M := M5) (M' := M5) (x := nI mx) (As := [.int (nI 16)]) (rest := []) hx hb hml hown hts hN hK (zX.r (t_count16 l dC dI z e9 hI H5) mx2) 1 gL_stageIn_X9_count rfl hdV_X9_count ⟨Nat.le_of_ble_eq_true rfl, Nat.le_of_ble_eq_true rfl⟩ hP hD hS rfl hl.1 rfl (Nat.le_of_ble_eq_true rfl) dL_stageIn_266 ⟨Nat.zero_le _, Nat.zero_le _⟩ (fun H locs hP hD hS => ?_)
      refine lv_iload hx hb dL_stageIn_269 (lv_at hl 2 rfl) ?_
      refine xr_ne_n (tgt := 289) hx hb (by omega) (by omega) dL_stageIn_271 (by decide) (fun c_22 => False.elim (by exact c_22 rfl)) (fun c_22 => ?_)
      refine lv_aload_n hx hb dL_stageIn_274 rfl (lv_at hl 5 rfl) ?_
      refine lv_iload_n hx hb dL_stageIn_275 rfl (lv_at hl 6 rfl) ?_
      refine lv_iconst (v := nI 2) hx hb dL_stageIn_276 (by decide) ?_
      refine zrV (M := M5) (M' := M5) (x := nI dl) (As := [.int (nI b), .int (nI 2)]) (rest := []) hx hb hml hown hts hN hK (zX.r (t_batch2 l dC dI z e9 hI (by omega)) dl2) 2 gL_stageIn_X9_batch rfl hdV_X9_batch ⟨Nat.le_of_ble_eq_true rfl, Nat.le_of_ble_eq_true rfl⟩ hP hD hS rfl hl.1 rfl (Nat.le_of_ble_eq_true rfl) dL_stageIn_277 ⟨Nat.zero_le _, Nat.zero_le _⟩ (fun H locs hP hD hS => ?_)
      refine lv_iload hx hb dL_stageIn_280 (lv_at hl 3 rfl) ?_
      refine xr_ne_n (tgt := 289) hx hb (by omega) (by omega) dL_stageIn_282 (by decide) (fun c_23 => False.elim (by exact c_23 rfl)) (fun c_23 => ?_)
      refine lv_iconst (v := nI 1) hx hb dL_stageIn_285 (by decide) ?_
      refine lv_goto (tgt := 290) hx hb dL_stageIn_286 (by decide) ?_
      have hS9 : va_S (va_B (cw z M)) s.heap H locs := by rw [← hA]; exact hS
      exact W.zret (v := nI 1) hx hb hr rfl (fun t ht hW => ⟨⟨_, _, rfl, ⟨M5, rfl, ⟨rfl, e9, H5⟩⟩, by rw [ht]; exact hP⟩, hS9.X ht⟩) hS9.2.2 dL_stageIn_290
    refine lv_aload_n hx hb dL_stageIn_145 rfl (lv_at hl 4 rfl) ?_
    refine lv_iconst (v := nI 2) hx hb dL_stageIn_146 (by decide) ?_
    refine lv_iconst (v := nI 0) hx hb dL_stageIn_147 (by decide) ?_
    obtain ⟨M1, ks, e1, H1⟩ := ua_set l dC dI z eT hH (by decide) (show 2 < 3 by omega) (show ¬ xisset (nI 2) (nI 0) = 0 by decide) (by rw [mx2]; exact fun q => by have := nI_inj (by omega) (by omega) q; omega)
    obtain ⟨T1, hT1⟩ : ∃ x, x = xT T 38 (upd (T 38) 2 (nI 0)) := ⟨_, rfl⟩
    rw [← hT1] at e1
    have I1 : Iv n bz oz tk lz nx dy T1 := by rw [hT1]; exact hI.set (Or.inr (Or.inr ⟨rfl, by omega⟩))
    have T138 : T1 38 2 = nI 0 := by rw [hT1]; rfl
    have T18 : T1 8 b = nI dl := by rw [hT1]; exact dl2
    have T19 : ¬ T1 9 b = 0 := by rw [hT1]; exact h9
    have T1s : T1 30 = T 30 ∧ T1 2 = T 2 ∧ T1 6 = T 6 := by rw [hT1]; exact ⟨rfl, rfl, rfl⟩
    refine zrV (M := M) (M' := M1) (x := nI mx) (As := [.int (nI 2), .int (nI 0)]) (rest := []) hx hb hml hown hts hN hK (zX.r ks mx2) 2 gL_stageIn_X9_set rfl hdV_X9_set ⟨Nat.le_of_ble_eq_true rfl, Nat.le_of_ble_eq_true rfl⟩ hP hD hS rfl hl.1 rfl (Nat.le_of_ble_eq_true rfl) dL_stageIn_148 ⟨Nat.zero_le _, Nat.zero_le _⟩ (fun H locs hP hD hS => ?_)
    refine lv_iload hx hb dL_stageIn_151 (lv_at hl 0 rfl) ?_
    refine xr_ne_n (tgt := 160) hx hb (by omega) (by omega) dL_stageIn_153 (by decide) (fun c_24 => False.elim (by exact c_24 rfl)) (fun c_24 => ?_)
    refine lv_iconst (v := nI 1) hx hb dL_stageIn_156 (by decide) ?_
    refine lv_goto (tgt := 161) hx hb dL_stageIn_157 (by decide) ?_
    refine lv_istore (lv' := [(7, .int (nI 1)), (6, .int (nI mx)), (5, .int (nI 1)), (4, .int (nI dl)), (3, .int (nI j9)), (0, .ref (zo z)), (1, .int (nI b)), (2, .int (nI sn))]) hx hb dL_stageIn_161 hl (by decide) rfl (fun ls hl => ?_)
    refine lv_iload hx hb dL_stageIn_163 (lv_at hl 0 rfl) ?_
    refine xr_if1 (tgt := 198) hx hb (by decide) dL_stageIn_165 (by decide) ?_
    refine lv_aload_n hx hb dL_stageIn_168 rfl (lv_at hl 5 rfl) ?_
    refine lv_iload_n hx hb dL_stageIn_169 rfl (lv_at hl 4 rfl) ?_
    obtain ⟨M2, kp2, e2, H2⟩ := ua_pass l dC dI z e1 I1 H1 (Nat.le_of_ble_eq_true rfl) (⟨by omega, by omega⟩ : 1 ≤ j9 ∧ j9 ≤ 60)
    obtain ⟨Y2, y2, z2⟩ := I1.acc (j9)
    obtain ⟨T2, hT2⟩ : ∃ x, x = psT T1 bz (psQ T1 bz lz nx (j9)) := ⟨_, rfl⟩
    rw [← hT2] at e2
    have I2 := I1.pass (dn := j9) (by omega)
    rw [← hT2] at I2
    have hst2 : xstg (T2 30) (T2 8) (T2 2) (T2 6) b = f9 (j9) := by
      have a8 : T2 8 b = nI (dl - (j9)) := by rw [hT2]; exact I1.aged hb1 T138 T18 T19 dl1 (by omega)
      have a30 : T2 30 = T 30 := by rw [hT2]; exact T1s.1
      have a2 : T2 2 = T 2 := by rw [hT2]; exact T1s.2.1
      have a6 : T2 6 = T 6 := by rw [hT2]; exact T1s.2.2
      unfold xstg
      rw [a8, a30, a2, a6, gk2, nI_clamp (by omega), hf9]
    have hf4k2 := hf4 (j9)
    refine zrV (M := M1) (M' := M2) (x := nI Y2) (As := [.int (nI j9)]) (rest := []) hx hb hml hown hts hN hK (zX.r kp2 z2) 1 gL_stageIn_X9_pass rfl hdV_X9_pass ⟨Nat.le_of_ble_eq_true rfl, Nat.le_of_ble_eq_true rfl⟩ hP hD hS rfl hl.1 rfl (Nat.le_of_ble_eq_true rfl) dL_stageIn_170 ⟨Nat.zero_le _, Nat.zero_le _⟩ (fun H locs hP hD hS => ?_)
    refine xr_zlt_n (tgt := 198) hx hb (by omega) dL_stageIn_173 (by decide) ?_
    refine lv_aload_n hx hb dL_stageIn_176 rfl (lv_at hl 5 rfl) ?_
    refine lv_iload_n hx hb dL_stageIn_177 rfl (lv_at hl 6 rfl) ?_
    refine lv_bipush (v := nI 10) hx hb dL_stageIn_178 (by decide) ?_
    refine zrV (M := M2) (M' := M2) (x := nI (f9 (j9))) (As := [.int (nI b), .int (nI 10)]) (rest := []) hx hb hml hown hts hN hK (zX.r (t_batch10 l dC dI z e2 I2 (by omega)) (congrArg nI hst2)) 2 gL_stageIn_X9_batch rfl hdV_X9_batch ⟨Nat.le_of_ble_eq_true rfl, Nat.le_of_ble_eq_true rfl⟩ hP hD hS rfl hl.1 rfl (Nat.le_of_ble_eq_true rfl) dL_stageIn_180 ⟨Nat.zero_le _, Nat.zero_le _⟩ (fun H locs hP hD hS => ?_)
    refine lv_iload_n hx hb dL_stageIn_183 rfl (lv_at hl 7 rfl) ?_
    refine xr_lt_n (tgt := 198) hx hb (by omega) (by omega) dL_stageIn_184 (by decide) (fun c_25 => False.elim (by omega)) (fun c_25 => ?_)
    refine lv_aload_n hx hb dL_stageIn_187 rfl (lv_at hl 5 rfl) ?_
    obtain ⟨M3, u3, ku3, hu3, e3, H3⟩ := ua_undo l dC dI z e2 H2
    refine zrV (M := M2) (M' := M3) (x := nI u3) (As := []) (rest := []) hx hb hml hown hts hN hK (ku3) 0 gL_stageIn_X9_undo rfl hdV_X9_undo ⟨Nat.le_of_ble_eq_true rfl, Nat.le_of_ble_eq_true rfl⟩ hP hD hS rfl hl.1 rfl (Nat.le_of_ble_eq_true rfl) dL_stageIn_188 ⟨Nat.zero_le _, Nat.zero_le _⟩ (fun H locs hP hD hS => ?_)
    refine xr_zlt_n (tgt := 198) hx hb (by omega) dL_stageIn_191 (by decide) ?_
    refine lv_iconst (v := nI 1) hx hb dL_stageIn_194 (by decide) ?_
    refine lv_goto (tgt := 199) hx hb dL_stageIn_195 (by decide) ?_
    refine lv_istore (lv' := [(5, .int (nI 1)), (7, .int (nI 1)), (6, .int (nI mx)), (4, .int (nI dl)), (3, .int (nI j9)), (0, .ref (zo z)), (1, .int (nI b)), (2, .int (nI sn))]) hx hb dL_stageIn_199 hl (by decide) rfl (fun ls hl => ?_)
    refine lv_iload hx hb dL_stageIn_201 (lv_at hl 0 rfl) ?_
    refine xr_if1 (tgt := 243) hx hb (by decide) dL_stageIn_203 (by decide) ?_
    refine lv_iload_n hx hb dL_stageIn_206 rfl (lv_at hl 4 rfl) ?_
    refine lv_iconst (v := nI 1) hx hb dL_stageIn_207 (by decide) ?_
    refine xr_eq_n (tgt := 239) hx hb (by omega) (by omega) dL_stageIn_208 (by decide) (fun c_26 => ?_) (fun c_26 => ?_)
    · skip
      refine lv_iconst (v := nI 1) hx hb dL_stageIn_239 (by decide) ?_
      refine lv_goto (tgt := 244) hx hb dL_stageIn_240 (by decide) ?_
      refine lv_istore (lv' := [(5, .int (nI 1)), (7, .int (nI 1)), (6, .int (nI mx)), (4, .int (nI dl)), (3, .int (nI j9)), (0, .ref (zo z)), (1, .int (nI b)), (2, .int (nI sn))]) hx hb dL_stageIn_244 hl (by decide) rfl (fun ls hl => ?_)
      refine lv_iload hx hb dL_stageIn_246 (lv_at hl 0 rfl) ?_
      refine xr_if1 (tgt := 289) hx hb (by decide) dL_stageIn_248 (by decide) ?_
      refine lv_iload hx hb dL_stageIn_251 (lv_at hl 2 rfl) ?_
      refine xr_zeq_n (tgt := 263) hx hb (by omega) dL_stageIn_253 (by decide) (fun c_27 => False.elim (by omega)) (fun c_27 => ?_)
      refine lv_aload_n hx hb dL_stageIn_256 rfl (lv_at hl 5 rfl) ?_
      obtain ⟨M6, u6, ku6, hu6, e6, H6⟩ := ua_undo l dC dI z e3 H3
      refine zrV (M := M3) (M' := M6) (x := nI u6) (As := []) (rest := []) hx hb hml hown hts hN hK (ku6) 0 gL_stageIn_X9_undo rfl hdV_X9_undo ⟨Nat.le_of_ble_eq_true rfl, Nat.le_of_ble_eq_true rfl⟩ hP hD hS rfl hl.1 rfl (Nat.le_of_ble_eq_true rfl) dL_stageIn_257 ⟨Nat.zero_le _, Nat.zero_le _⟩ (fun H locs hP hD hS => ?_)
      refine xr_zlt_n (tgt := 289) hx hb (by omega) dL_stageIn_260 (by decide) ?_
      refine lv_aload_n hx hb dL_stageIn_263 rfl (lv_at hl 5 rfl) ?_
      refine lv_bipush (v := nI 16) hx hb dL_stageIn_264 (by decide) ?_
      refine zrV (M := M6) (M' := M6) (x := nI mx) (As := [.int (nI 16)]) (rest := []) hx hb hml hown hts hN hK (zX.r (t_count16 l dC dI z e6 hI H6) mx2) 1 gL_stageIn_X9_count rfl hdV_X9_count ⟨Nat.le_of_ble_eq_true rfl, Nat.le_of_ble_eq_true rfl⟩ hP hD hS rfl hl.1 rfl (Nat.le_of_ble_eq_true rfl) dL_stageIn_266 ⟨Nat.zero_le _, Nat.zero_le _⟩ (fun H locs hP hD hS => ?_)
      refine lv_iload hx hb dL_stageIn_269 (lv_at hl 2 rfl) ?_
      refine xr_ne_n (tgt := 289) hx hb (by omega) (by omega) dL_stageIn_271 (by decide) (fun c_28 => False.elim (by exact c_28 rfl)) (fun c_28 => ?_)
      refine lv_aload_n hx hb dL_stageIn_274 rfl (lv_at hl 5 rfl) ?_
      refine lv_iload_n hx hb dL_stageIn_275 rfl (lv_at hl 6 rfl) ?_
      refine lv_iconst (v := nI 2) hx hb dL_stageIn_276 (by decide) ?_
      refine zrV (M := M6) (M' := M6) (x := nI dl) (As := [.int (nI b), .int (nI 2)]) (rest := []) hx hb hml hown hts hN hK (zX.r (t_batch2 l dC dI z e6 hI (by omega)) dl2) 2 gL_stageIn_X9_batch rfl hdV_X9_batch ⟨Nat.le_of_ble_eq_true rfl, Nat.le_of_ble_eq_true rfl⟩ hP hD hS rfl hl.1 rfl (Nat.le_of_ble_eq_true rfl) dL_stageIn_277 ⟨Nat.zero_le _, Nat.zero_le _⟩ (fun H locs hP hD hS => ?_)
      refine lv_iload hx hb dL_stageIn_280 (lv_at hl 3 rfl) ?_
      refine xr_ne_n (tgt := 289) hx hb (by omega) (by omega) dL_stageIn_282 (by decide) (fun c_29 => False.elim (by exact c_29 rfl)) (fun c_29 => ?_)
      refine lv_iconst (v := nI 1) hx hb dL_stageIn_285 (by decide) ?_
      refine lv_goto (tgt := 290) hx hb dL_stageIn_286 (by decide) ?_
      have hS9 : va_S (va_B (cw z M)) s.heap H locs := by rw [← hA]; exact hS
      exact W.zret (v := nI 1) hx hb hr rfl (fun t ht hW => ⟨⟨_, _, rfl, ⟨M6, rfl, ⟨rfl, e6, H6⟩⟩, by rw [ht]; exact hP⟩, hS9.X ht⟩) hS9.2.2 dL_stageIn_290
    refine lv_aload_n hx hb dL_stageIn_211 rfl (lv_at hl 5 rfl) ?_
    refine lv_iload_n hx hb dL_stageIn_212 rfl (lv_at hl 4 rfl) ?_
    refine lv_iconst (v := nI 1) hx hb dL_stageIn_213 (by decide) ?_
    refine xr_isub_n hx hb (by omega) dL_stageIn_214 ?_
    obtain ⟨M4, kp4, e4, H4⟩ := ua_pass l dC dI z e3 I1 H3 (Nat.le_of_ble_eq_true rfl) (⟨by omega, by omega⟩ : 1 ≤ j9 - 1 ∧ j9 - 1 ≤ 60)
    obtain ⟨Y4, y4, z4⟩ := I1.acc (j9 - 1)
    obtain ⟨T4, hT4⟩ : ∃ x, x = psT T1 bz (psQ T1 bz lz nx (j9 - 1)) := ⟨_, rfl⟩
    rw [← hT4] at e4
    have I4 := I1.pass (dn := j9 - 1) (by omega)
    rw [← hT4] at I4
    have hst4 : xstg (T4 30) (T4 8) (T4 2) (T4 6) b = f9 (j9 - 1) := by
      have a8 : T4 8 b = nI (dl - (j9 - 1)) := by rw [hT4]; exact I1.aged hb1 T138 T18 T19 dl1 (by omega)
      have a30 : T4 30 = T 30 := by rw [hT4]; exact T1s.1
      have a2 : T4 2 = T 2 := by rw [hT4]; exact T1s.2.1
      have a6 : T4 6 = T 6 := by rw [hT4]; exact T1s.2.2
      unfold xstg
      rw [a8, a30, a2, a6, gk2, nI_clamp (by omega), hf9]
    have hf4k4 := hf4 (j9 - 1)
    refine zrV (M := M3) (M' := M4) (x := nI Y4) (As := [.int (nI (j9 - 1))]) (rest := []) hx hb hml hown hts hN hK (zX.r kp4 z4) 1 gL_stageIn_X9_pass rfl hdV_X9_pass ⟨Nat.le_of_ble_eq_true rfl, Nat.le_of_ble_eq_true rfl⟩ hP hD hS rfl hl.1 rfl (Nat.le_of_ble_eq_true rfl) dL_stageIn_215 ⟨Nat.zero_le _, Nat.zero_le _⟩ (fun H locs hP hD hS => ?_)
    refine xr_zlt_n (tgt := 243) hx hb (by omega) dL_stageIn_218 (by decide) ?_
    refine lv_aload_n hx hb dL_stageIn_221 rfl (lv_at hl 5 rfl) ?_
    refine lv_iload_n hx hb dL_stageIn_222 rfl (lv_at hl 6 rfl) ?_
    refine lv_bipush (v := nI 10) hx hb dL_stageIn_223 (by decide) ?_
    refine zrV (M := M4) (M' := M4) (x := nI (f9 (j9 - 1))) (As := [.int (nI b), .int (nI 10)]) (rest := []) hx hb hml hown hts hN hK (zX.r (t_batch10 l dC dI z e4 I4 (by omega)) (congrArg nI hst4)) 2 gL_stageIn_X9_batch rfl hdV_X9_batch ⟨Nat.le_of_ble_eq_true rfl, Nat.le_of_ble_eq_true rfl⟩ hP hD hS rfl hl.1 rfl (Nat.le_of_ble_eq_true rfl) dL_stageIn_225 ⟨Nat.zero_le _, Nat.zero_le _⟩ (fun H locs hP hD hS => ?_)
    refine lv_iload_n hx hb dL_stageIn_228 rfl (lv_at hl 7 rfl) ?_
    refine xr_ge_n (tgt := 243) hx hb (by omega) (by omega) dL_stageIn_229 (by decide) (fun c_30 => False.elim (by have := w4 (j9 - 1) (by omega); omega)) (fun c_30 => ?_)
    refine lv_aload_n hx hb dL_stageIn_232 rfl (lv_at hl 5 rfl) ?_
    obtain ⟨M5, u5, ku5, hu5, e5, H5⟩ := ua_undo l dC dI z e4 H4
    refine zrV (M := M4) (M' := M5) (x := nI u5) (As := []) (rest := []) hx hb hml hown hts hN hK (ku5) 0 gL_stageIn_X9_undo rfl hdV_X9_undo ⟨Nat.le_of_ble_eq_true rfl, Nat.le_of_ble_eq_true rfl⟩ hP hD hS rfl hl.1 rfl (Nat.le_of_ble_eq_true rfl) dL_stageIn_233 ⟨Nat.zero_le _, Nat.zero_le _⟩ (fun H locs hP hD hS => ?_)
    refine xr_zlt_n (tgt := 243) hx hb (by omega) dL_stageIn_236 (by decide) ?_
    refine lv_iconst (v := nI 1) hx hb dL_stageIn_239 (by decide) ?_
    refine lv_goto (tgt := 244) hx hb dL_stageIn_240 (by decide) ?_
    refine lv_istore (lv' := [(5, .int (nI 1)), (7, .int (nI 1)), (6, .int (nI mx)), (4, .int (nI dl)), (3, .int (nI j9)), (0, .ref (zo z)), (1, .int (nI b)), (2, .int (nI sn))]) hx hb dL_stageIn_244 hl (by decide) rfl (fun ls hl => ?_)
    refine lv_iload hx hb dL_stageIn_246 (lv_at hl 0 rfl) ?_
    refine xr_if1 (tgt := 289) hx hb (by decide) dL_stageIn_248 (by decide) ?_
    refine lv_iload hx hb dL_stageIn_251 (lv_at hl 2 rfl) ?_
    refine xr_zeq_n (tgt := 263) hx hb (by omega) dL_stageIn_253 (by decide) (fun c_31 => False.elim (by omega)) (fun c_31 => ?_)
    refine lv_aload_n hx hb dL_stageIn_256 rfl (lv_at hl 5 rfl) ?_
    obtain ⟨M6, u6, ku6, hu6, e6, H6⟩ := ua_undo l dC dI z e5 H5
    refine zrV (M := M5) (M' := M6) (x := nI u6) (As := []) (rest := []) hx hb hml hown hts hN hK (ku6) 0 gL_stageIn_X9_undo rfl hdV_X9_undo ⟨Nat.le_of_ble_eq_true rfl, Nat.le_of_ble_eq_true rfl⟩ hP hD hS rfl hl.1 rfl (Nat.le_of_ble_eq_true rfl) dL_stageIn_257 ⟨Nat.zero_le _, Nat.zero_le _⟩ (fun H locs hP hD hS => ?_)
    refine xr_zlt_n (tgt := 289) hx hb (by omega) dL_stageIn_260 (by decide) ?_
    refine lv_aload_n hx hb dL_stageIn_263 rfl (lv_at hl 5 rfl) ?_
    refine lv_bipush (v := nI 16) hx hb dL_stageIn_264 (by decide) ?_
    refine zrV (M := M6) (M' := M6) (x := nI mx) (As := [.int (nI 16)]) (rest := []) hx hb hml hown hts hN hK (zX.r (t_count16 l dC dI z e6 hI H6) mx2) 1 gL_stageIn_X9_count rfl hdV_X9_count ⟨Nat.le_of_ble_eq_true rfl, Nat.le_of_ble_eq_true rfl⟩ hP hD hS rfl hl.1 rfl (Nat.le_of_ble_eq_true rfl) dL_stageIn_266 ⟨Nat.zero_le _, Nat.zero_le _⟩ (fun H locs hP hD hS => ?_)
    refine lv_iload hx hb dL_stageIn_269 (lv_at hl 2 rfl) ?_
    refine xr_ne_n (tgt := 289) hx hb (by omega) (by omega) dL_stageIn_271 (by decide) (fun c_32 => False.elim (by exact c_32 rfl)) (fun c_32 => ?_)
    refine lv_aload_n hx hb dL_stageIn_274 rfl (lv_at hl 5 rfl) ?_
    refine lv_iload_n hx hb dL_stageIn_275 rfl (lv_at hl 6 rfl) ?_
    refine lv_iconst (v := nI 2) hx hb dL_stageIn_276 (by decide) ?_
    refine zrV (M := M6) (M' := M6) (x := nI dl) (As := [.int (nI b), .int (nI 2)]) (rest := []) hx hb hml hown hts hN hK (zX.r (t_batch2 l dC dI z e6 hI (by omega)) dl2) 2 gL_stageIn_X9_batch rfl hdV_X9_batch ⟨Nat.le_of_ble_eq_true rfl, Nat.le_of_ble_eq_true rfl⟩ hP hD hS rfl hl.1 rfl (Nat.le_of_ble_eq_true rfl) dL_stageIn_277 ⟨Nat.zero_le _, Nat.zero_le _⟩ (fun H locs hP hD hS => ?_)
    refine lv_iload hx hb dL_stageIn_280 (lv_at hl 3 rfl) ?_
    refine xr_ne_n (tgt := 289) hx hb (by omega) (by omega) dL_stageIn_282 (by decide) (fun c_33 => False.elim (by exact c_33 rfl)) (fun c_33 => ?_)
    refine lv_iconst (v := nI 1) hx hb dL_stageIn_285 (by decide) ?_
    refine lv_goto (tgt := 290) hx hb dL_stageIn_286 (by decide) ?_
    have hS9 : va_S (va_B (cw z M)) s.heap H locs := by rw [← hA]; exact hS
    exact W.zret (v := nI 1) hx hb hr rfl (fun t ht hW => ⟨⟨_, _, rfl, ⟨M6, rfl, ⟨rfl, e6, H6⟩⟩, by rw [ht]; exact hP⟩, hS9.X ht⟩) hS9.2.2 dL_stageIn_290
  refine lv_iconst (v := nI 1) hx hb dL_stageIn_89 (by decide) ?_
  refine lv_goto (tgt := 94) hx hb dL_stageIn_90 (by decide) ?_
  refine lv_aload_n hx hb dL_stageIn_94 rfl (lv_at hl 2 rfl) ?_
  refine lv_iload_n hx hb dL_stageIn_95 rfl (lv_at hl 3 rfl) ?_
  refine lv_bipush (v := nI 10) hx hb dL_stageIn_96 (by decide) ?_
  refine zrV (M := M) (M' := M) (x := nI (f9 0)) (As := [.int (nI b), .int (nI 10)]) (rest := [.int (nI 1)]) hx hb hml hown hts hN hK (zX.r (t_batch10 l dC dI z eT hI (by omega)) (congrArg nI hst)) 2 gL_stageIn_X9_batch rfl hdV_X9_batch ⟨Nat.le_of_ble_eq_true rfl, Nat.le_of_ble_eq_true rfl⟩ hP hD hS rfl hl.1 rfl (Nat.le_of_ble_eq_true rfl) dL_stageIn_98 ⟨Nat.zero_le _, Nat.zero_le _⟩ (fun H locs hP hD hS => ?_)
  refine lv_iload_n hx hb dL_stageIn_101 rfl (lv_at hl 4 rfl) ?_
  refine xr_lt_n (tgt := 109) hx hb (by omega) (by omega) dL_stageIn_102 (by decide) (fun c_34 => False.elim (by have z9 := w3; rw [c_11] at z9; omega)) (fun c_34 => ?_)
  refine lv_iconst (v := nI 1) hx hb dL_stageIn_105 (by decide) ?_
  refine lv_goto (tgt := 110) hx hb dL_stageIn_106 (by decide) ?_
  refine xr_ne_n (a := 1) (b := 1) (tgt := 117) hx hb (by decide) (by decide) dL_stageIn_110 (by decide) (fun c9 => absurd c9 (by decide)) (fun _ => ?_)
  refine lv_iconst (v := nI 1) hx hb dL_stageIn_113 (by decide) ?_
  refine lv_goto (tgt := 118) hx hb dL_stageIn_114 (by decide) ?_
  refine lv_istore (lv' := [(5, .int (nI 1)), (4, .int (nI dl)), (3, .int (nI j9)), (0, .ref (zo z)), (1, .int (nI b)), (2, .int (nI sn))]) hx hb dL_stageIn_118 hl (by decide) rfl (fun ls hl => ?_)
  refine lv_iload_n hx hb dL_stageIn_120 rfl (lv_at hl 2 rfl) ?_
  refine xr_zeq_n (tgt := 129) hx hb (by omega) dL_stageIn_121 (by decide) (fun c_35 => ?_) (fun c_35 => False.elim (by omega))
  refine lv_iload hx hb dL_stageIn_129 (lv_at hl 0 rfl) ?_
  have hS9 : va_S (va_B (cw z M)) s.heap H locs := by rw [← hA]; exact hS
  exact W.zret (v := nI 1) hx hb hr rfl (fun t ht hW => ⟨⟨_, _, rfl, ⟨M, rfl, ⟨rfl, eT, hH⟩⟩, by rw [ht]; exact hP⟩, hS9.X ht⟩) hS9.2.2 dL_stageIn_131
