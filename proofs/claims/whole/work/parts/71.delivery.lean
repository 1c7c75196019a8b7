theorem xhas_idx {v : Int32} {n : Nat} (h : xhas v n) (hn : n < 2 ^ 31) : v.toNatClampNeg < n ∧ v = nI v.toNatClampNeg := by
  obtain ⟨k, hk, rfl⟩ := xhas_nI h
  rw [nI_clamp (by omega)]
  exact ⟨hk, rfl⟩
def xleft (r lf : Nat → Int32) (e g : Nat) : Int32 := if r e = (-1) then lf g else r e
/-- an entry that can come -/
def xsup (R : Nat → Nat → Int32) (lf : Nat → Int32) (e : Nat) : Prop := (nI 1 ≤ R 1 e ∧ R 1 e ≤ nI 999) ∧ nI 1 ≤ xleft (R 2) lf e (R 0 e).toNatClampNeg ∧ xleft (R 2) lf e (R 0 e).toNatClampNeg ≤ lf (R 0 e).toNatClampNeg
theorem xdRn_I {text : Nat → Int32} {D0 : XD} (h : xdI D0) : ∀ k, xdI (xdRn text D0 k).2
  | 0 => h
  | k + 1 => by
    have ih := xdRn_I (text := text) h k
    show xdI (match xdRn text D0 k with
      | (none, D) => xdNext k (xdAcc D (text k))
      | (some f, D) => (some f, D)).2
    cases hq : xdRn text D0 k with
    | mk a D =>
      rw [hq] at ih
      cases a with
      | none =>
        show xdI (xdNext k (xdAcc D (text k))).2
        unfold xdNext
        split <;> exact xdI_step ih _
      | some f => exact ih
/-- batches that come: their number, good, came, left, shelf, the log -/
abbrev XR : Type := Nat × (Nat → Int32) × (Nat → Int32) × (Nat → Int32) × (Nat → Int32) × XL
def xrcv1 (day : Int32) (q : XR) (g un dl : Int32) : XR := (q.1 + 1, upd q.2.1 q.1 g, upd q.2.2.1 q.1 un, upd q.2.2.2.1 q.1 dl, upd q.2.2.2.2.1 q.1 un, xlog q.2.2.2.2.2 (nI 0) (nI q.1) un day)
def xrcv (R : Nat → Nat → Int32) (lf : Nat → Int32) (day : Int32) (q0 : XR) : Nat → XR
  | 0 => q0
  | k + 1 => xrcv1 day (xrcv R lf day q0 k) (nI (R 0 k).toNatClampNeg) (R 1 k) (xleft (R 2) lf k (R 0 k).toNatClampNeg)
theorem hdV_X9_leftIn : yX9_leftIn.cls = RX9 ∧ yX9_leftIn.cls ≠ "java/lang/invoke/MethodHandle" ∧ yX9_leftIn.cls ≠ "java/lang/invoke/VarHandle" ∧ (parseMethodDescriptor yX9_leftIn.desc).map (fun d => d.parameters.length) = some 2 := by decide +kernel
set_option maxHeartbeats 4000000 in
set_option maxRecDepth 100000 in
theorem c_X9_leftIn (l : Launch) (dC : Nat → ClassId) (dI : Nat → Nat → Nat) (cI cF cC cZ cQ cS : ClassId) (x0 : Nat) (o : Nat → Nat) (x0_snapshot : Value) (x0_trial : Value) (x0_history : Value) (x0_filling : Value) (de : Nat) (x0_text : Value) (x0_textLength : Value) (x0_hasSnapshot : Value) (nq : Nat) (R : Nat → Nat → Int32) (nr0 : Nat) (nr1 : Nat) (nr2 : Nat) (dz : Nat) (dp : Nat) (dd : Nat) (o0_orders : Value) (o0_stages : Value) (o0_log : Value) (o0_settings : Value) (o0_rebate : Value) (o0_day : Value) (o1_price : Value) (o1_listed : Value) (o1_list : Value) (o6_good : Value) (o6_came : Value) (o6_left : Value) (o6_shelf : Value) (o6_sold : Value) (o6_given : Value) (o6_cents : Value) (o6_wasted : Value) (gz : Nat) (bz : Nat) (T : Nat → Nat → Int32) (en : Nat) (gd : Nat) (hen : en < 16) (hgd : gd < 12) : Met l yX9_leftIn wsX9_leftIn ({ frames := 1, cells := 0, slots := 0, locals := 21 }) (xPre (dC, dI) vwCl [.ref x0, .int (nI en), .int (nI gd)] (xtys cI cF cC cZ cQ cS) [(x0, .inr (9, [.ref (o 0), x0_snapshot, x0_trial, x0_history, x0_filling, .ref de, x0_text, x0_textLength, x0_hasSnapshot])), (de, .inr (1, [.int (nI dz), .int (nI dp), .int (nI dd), .ref nq])), (nq, .inl (cQ, 3, .inr (.inr (.inr (.inr (xrow [nr0, nr1, nr2])))))), (nr0, .inl (cI, 16, .inl (R 0))), (nr1, .inl (cI, 16, .inl (R 1))), (nr2, .inl (cI, 16, .inl (R 2))), (o 0, .inr (8, [.ref (o 1), .ref (o 6), o0_orders, o0_stages, o0_log, o0_settings, o0_rebate, o0_day])), (o 1, .inr (3, [.int (nI gz), o1_price, .ref (o 3), o1_listed, o1_list])), (o 3, .inl (cI, 12, .inl (T 2))), (o 6, .inr (0, [.int (nI bz), o6_good, o6_came, o6_left, o6_shelf, o6_sold, o6_given, o6_cents, o6_wasted]))]) (vp_Si (fun r0 => r0 = xleft (R 2) (T 2) en gd)) 0 0 (fun _ => False) := by
  refine Met.ofW (cc := cX9_leftIn) (maxL := 4) (ret := (some .int)) (by decide) rfl ?_
  intro p e s m args below meth c s₁ B hml hv
  obtain ⟨rfl, hP, hK, hD0, hN⟩ := hv
  have hx := B.exec
  have hb := B.bytes
  have hr := B.returns
  have hts := atoms_spec (ws := wsX9_leftIn) B.pre
  have hown : s.vm.findClass RX9 = some m.cls := findClass_of_methodNamed B.named
  have hlocks := B.notSynchronized
  have k_12 := hts (Cond.fieldLink RX9 12 "ShelfStages" "now" "LShelfStages$State;") (by decide +kernel)
  have k_220 := hts (Cond.fieldLink RX9 220 "ShelfStages$Goods" "life" "[I") (by decide +kernel)
  have k_39 := hts (Cond.fieldLink RX9 39 "ShelfStages" "delivery" "LShelfStages$Delivery;") (by decide +kernel)
  have k_51 := hts (Cond.fieldLink RX9 51 "ShelfStages$State" "goods" "LShelfStages$Goods;") (by decide +kernel)
  have i_X3 : ∀ w ∈ wsX30, w ∈ wsX9_leftIn := by decide +kernel
  have i_X8 : ∀ w ∈ wsX80, w ∈ wsX9_leftIn := by decide +kernel
  have i_X9 : ∀ w ∈ wsX90, w ∈ wsX9_leftIn := by decide +kernel
  have hD := hD0
  have hl := lv_entry ([.ref x0, .int (nI en), .int (nI gd)]) (n := 4) (Nat.le_of_ble_eq_true rfl)
  rw [lg_entry_eq]
  generalize (lg_sl ([.ref x0, .int (nI en), .int (nI gd)]) ++ List.replicate (4 - (lg_sl ([.ref x0, .int (nI en), .int (nI gd)])).length) Slot.unset).toArray = ls at hl ⊢
  have hl : lv_has ls 4 [(0, .ref x0), (1, .int (nI en)), (2, .int (nI gd))] := hl
  refine lv_aload_n hx hb dX9_leftIn_0 rfl (lv_at hl 0 rfl) ?_
  refine va_get (D := (dC, dI)) (ci := 9) (v := .ref de) (C := RX9) (T := TX9) (N := 9) hx hb hts i_X9 hown hK hP 0 rfl rfl 5 (by decide) k_39 (fun _ h9 => h9) rfl dX9_leftIn_1 ?_
  refine lv_iload_n hx hb dX9_leftIn_4 rfl (lv_at hl 1 rfl) ?_
  refine xkRi (xV (As := [.int (nI en)]) (rest := []) (wc := [(de, .inr (1, [.int (nI dz), .int (nI dp), .int (nI dd), .ref nq])), (nq, .inl (cQ, 3, .inr (.inr (.inr (.inr (xrow [nr0, nr1, nr2])))))), (nr2, .inl (cI, 16, .inl (R 2)))]) hx hb hml hown hts (c_X1_leftIn l dC dI cI cF cC cZ cQ cS de (.int (nI dz)) (.int (nI dp)) (.int (nI dd)) nq (xrow [nr0, nr1, nr2]) nr2 (R 2) en (by omega) rfl) 1 gX9_leftIn_X1_leftIn rfl rfl rfl hdV_X1_leftIn ⟨Nat.le_of_ble_eq_true rfl, Nat.le_of_ble_eq_true rfl⟩ hN hK hP hD [1, 2, 5] rfl rfl 1 1 rfl rfl rfl hl.1 rfl (Nat.le_of_ble_eq_true rfl) dX9_leftIn_5 ⟨Nat.zero_le _, Nat.zero_le _⟩) (fun r_1 hr_1 => ?_)
  obtain rfl : r_1 = (R 2) en := hr_1
  refine lv_istore_n (lv' := [(3, .int ((R 2) en)), (0, .ref x0), (1, .int (nI en)), (2, .int (nI gd))]) hx hb dX9_leftIn_8 rfl hl (by decide) rfl (fun ls hl => ?_)
  refine lv_iload_n hx hb dX9_leftIn_9 rfl (lv_at hl 0 rfl) ?_
  refine lv_iconst (v := (-1)) hx hb dX9_leftIn_10 (by decide) ?_
  refine lv_icmp_ne (tgt := 29) hx hb dX9_leftIn_11 (by decide) (fun c_2 => ?_) (fun c_2 => ?_)
  · skip
    refine lv_iload_n hx hb dX9_leftIn_29 rfl (lv_at hl 0 rfl) ?_
    exact W.iret (v := (R 2) en) hx hb hr (fun t ht hW => ⟨_, rfl, (show (R 2) en = xleft (R 2) (T 2) en gd from (if_neg c_2).symm), ht⟩) (fun q h => by cases h) dX9_leftIn_30
  refine lv_aload_n hx hb dX9_leftIn_14 rfl (lv_at hl 1 rfl) ?_
  refine va_get (D := (dC, dI)) (ci := 9) (v := .ref (o 0)) (C := RX9) (T := TX9) (N := 9) hx hb hts i_X9 hown hK hP 0 rfl rfl 0 (by decide) k_12 (fun _ h9 => h9) rfl dX9_leftIn_15 ?_
  refine va_get (D := (dC, dI)) (ci := 8) (v := .ref (o 1)) (C := RX8) (T := TX8) (N := 8) hx hb hts i_X8 hown hK hP 6 rfl rfl 0 (by decide) k_51 (fun _ h9 => h9) rfl dX9_leftIn_18 ?_
  refine va_get (D := (dC, dI)) (ci := 3) (v := .ref (o 3)) (C := RX3) (T := TX3) (N := 5) hx hb hts i_X3 hown hK hP 7 rfl rfl 2 (by decide) k_220 (fun _ h9 => h9) rfl dX9_leftIn_21 ?_
  refine lv_iload_n hx hb dX9_leftIn_24 rfl (lv_at hl 3 rfl) ?_
  refine xr_iald hx hb hK hP 8 0 rfl rfl (i := gd) (by omega) (by decide) dX9_leftIn_25 ?_
  refine lv_goto (tgt := 30) hx hb dX9_leftIn_26 (by decide) ?_
  exact W.iret (v := (T 2) gd) hx hb hr (fun t ht hW => ⟨_, rfl, (show (T 2) gd = xleft (R 2) (T 2) en gd from (if_pos c_2).symm), ht⟩) (fun q h => by cases h) dX9_leftIn_30
theorem hdV_X9_deliveryError : yX9_deliveryError.cls = RX9 ∧ yX9_deliveryError.cls ≠ "java/lang/invoke/MethodHandle" ∧ yX9_deliveryError.cls ≠ "java/lang/invoke/VarHandle" ∧ (parseMethodDescriptor yX9_deliveryError.desc).map (fun d => d.parameters.length) = some 0 := by decide +kernel
set_option maxHeartbeats 4000000 in
set_option maxRecDepth 100000 in
theorem c_X9_deliveryErroru (l : Launch) (dC : Nat → ClassId) (dI : Nat → Nat → Nat) (cI cF cC cZ cQ cS : ClassId) (x0 : Nat) (o : Nat → Nat) (x0_snapshot : Value) (x0_trial : Value) (x0_history : Value) (x0_filling : Value) (de : Nat) (x0_text : Value) (x0_textLength : Value) (x0_hasSnapshot : Value) (nq : Nat) (R : Nat → Nat → Int32) (nr0 : Nat) (nr1 : Nat) (nr2 : Nat) (dz : Nat) (dp : Nat) (dd : Nat) (o0_orders : Value) (o0_stages : Value) (o0_log : Value) (o0_settings : Value) (o0_rebate : Value) (o0_day : Value) (o1_price : Value) (o1_listed : Value) (o1_list : Value) (o6_good : Value) (o6_came : Value) (o6_left : Value) (o6_shelf : Value) (o6_sold : Value) (o6_given : Value) (o6_cents : Value) (o6_wasted : Value) (gz : Nat) (bz : Nat) (T : Nat → Nat → Int32) (hgz : gz ≤ 12) (hdz : dz ≤ 16) (hex : ∃ e, e < dz ∧ ¬ xhas ((R 0) e) gz) : Met l yX9_deliveryError wsX9_deliveryError ({ frames := 2, cells := 0, slots := 0, locals := 43 }) (xPre (dC, dI) vwCl [.ref x0] (xtys cI cF cC cZ cQ cS) [(x0, .inr (9, [.ref (o 0), x0_snapshot, x0_trial, x0_history, x0_filling, .ref de, x0_text, x0_textLength, x0_hasSnapshot])), (de, .inr (1, [.int (nI dz), .int (nI dp), .int (nI dd), .ref nq])), (nq, .inl (cQ, 3, .inr (.inr (.inr (.inr (xrow [nr0, nr1, nr2])))))), (nr0, .inl (cI, 16, .inl (R 0))), (nr1, .inl (cI, 16, .inl (R 1))), (nr2, .inl (cI, 16, .inl (R 2))), (o 0, .inr (8, [.ref (o 1), .ref (o 6), o0_orders, o0_stages, o0_log, o0_settings, o0_rebate, o0_day])), (o 1, .inr (3, [.int (nI gz), o1_price, .ref (o 3), o1_listed, o1_list])), (o 3, .inl (cI, 12, .inl (T 2))), (o 6, .inr (0, [.int (nI bz), o6_good, o6_came, o6_left, o6_shelf, o6_sold, o6_given, o6_cents, o6_wasted]))]) (vp_Si (fun r0 => r0 = (-1))) 0 0 (fun _ => False) := by
  refine Met.ofW (cc := cX9_deliveryError) (maxL := 3) (ret := (some .int)) (by decide) rfl ?_
  intro p e s m args below meth c s₁ B hml hv
  obtain ⟨rfl, hP, hK, hD0, hN⟩ := hv
  have hx := B.exec
  have hb := B.bytes
  have hr := B.returns
  have hts := atoms_spec (ws := wsX9_deliveryError) B.pre
  have hown : s.vm.findClass RX9 = some m.cls := findClass_of_methodNamed B.named
  have hlocks := B.notSynchronized
  have k_151 := hts (Cond.fieldLink RX9 151 "ShelfStages$Delivery" "size" "I") (by decide +kernel)
  have k_39 := hts (Cond.fieldLink RX9 39 "ShelfStages" "delivery" "LShelfStages$Delivery;") (by decide +kernel)
  have i_X1 : ∀ w ∈ wsX10, w ∈ wsX9_deliveryError := by decide +kernel
  have i_X9 : ∀ w ∈ wsX90, w ∈ wsX9_deliveryError := by decide +kernel
  have hD := hD0
  have hl := lv_entry ([.ref x0]) (n := 3) (Nat.le_of_ble_eq_true rfl)
  rw [lg_entry_eq]
  generalize (lg_sl ([.ref x0]) ++ List.replicate (3 - (lg_sl ([.ref x0])).length) Slot.unset).toArray = ls at hl ⊢
  have hl : lv_has ls 3 [(0, .ref x0)] := hl
  refine lv_iconst (v := nI 0) hx hb dX9_deliveryError_0 (by decide) ?_
  refine lv_istore_n (lv' := [(1, .int (nI 0)), (0, .ref x0)]) hx hb dX9_deliveryError_1 rfl hl (by decide) rfl (fun ls hl => ?_)
  refine xr_loop (J := Nat) (fun n0 H locs g => ∃ (k : Nat) (ls : Array Slot), H = s.heap ∧ locs = [] ∧ n0 = (dz + 1) - k ∧ g = F0 m 2 ls [] ∧ lv_has ls 3 [(1, .int (nI k)), (0, .ref x0)] ∧ (k ≤ dz) ∧ (∀ e, e < k → xhas ((R 0) e) gz)) (fun n => n) ?_ ((dz + 1) - 0) (g := F0 m 2 ls []) ⟨0, ls, rfl, rfl, rfl, rfl, lv_sub hl [0, 1] rfl, (Nat.zero_le _), (fun e he => absurd he (Nat.not_lt_zero e))⟩
  intro n0 ih_2 H locs g hp
  obtain ⟨k, ls, rfl, rfl, rfl, rfl, hl, hk, hne⟩ := hp
  refine lv_iload_n hx hb dX9_deliveryError_2 rfl (lv_at hl 0 rfl) ?_
  refine lv_aload_n hx hb dX9_deliveryError_3 rfl (lv_at hl 1 rfl) ?_
  refine va_get (D := (dC, dI)) (ci := 9) (v := .ref de) (C := RX9) (T := TX9) (N := 9) hx hb hts i_X9 hown hK hP 0 rfl rfl 5 (by decide) k_39 (fun _ h9 => h9) rfl dX9_deliveryError_4 ?_
  refine va_get (D := (dC, dI)) (ci := 1) (v := .int (nI dz)) (C := RX1) (T := TX1) (N := 4) hx hb hts i_X1 hown hK hP 1 rfl rfl 0 (by decide) k_151 (fun _ h9 => h9) rfl dX9_deliveryError_7 ?_
  refine xr_ge_n (tgt := 36) hx hb (by omega) (by omega) dX9_deliveryError_10 (by decide) (fun c_1 => False.elim (by exact hex.elim (fun e he => he.2 (hne e (by omega))))) (fun c_1 => ?_)
  refine lv_aload_n hx hb dX9_deliveryError_13 rfl (lv_at hl 1 rfl) ?_
  refine lv_aload_n hx hb dX9_deliveryError_14 rfl (lv_at hl 1 rfl) ?_
  refine va_get (D := (dC, dI)) (ci := 9) (v := .ref de) (C := RX9) (T := TX9) (N := 9) hx hb hts i_X9 hown hK hP 0 rfl rfl 5 (by decide) k_39 (fun _ h9 => h9) rfl dX9_deliveryError_15 ?_
  refine lv_iload_n hx hb dX9_deliveryError_18 rfl (lv_at hl 0 rfl) ?_
  refine xkRi (xV (As := [.int (nI k)]) (rest := [.ref x0]) (wc := [(de, .inr (1, [.int (nI dz), .int (nI dp), .int (nI dd), .ref nq])), (nq, .inl (cQ, 3, .inr (.inr (.inr (.inr (xrow [nr0, nr1, nr2])))))), (nr0, .inl (cI, 16, .inl (R 0)))]) hx hb hml hown hts (c_X1_goodIn l dC dI cI cF cC cZ cQ cS de (.int (nI dz)) (.int (nI dp)) (.int (nI dd)) nq (xrow [nr0, nr1, nr2]) nr0 (R 0) k (by omega) rfl) 1 gX9_deliveryError_X1_goodIn rfl rfl rfl hdV_X1_goodIn ⟨Nat.le_of_ble_eq_true rfl, Nat.le_of_ble_eq_true rfl⟩ hN hK hP hD [1, 2, 3] rfl rfl 1 1 rfl rfl rfl hl.1 rfl (Nat.le_of_ble_eq_true rfl) dX9_deliveryError_19 ⟨Nat.zero_le _, Nat.zero_le _⟩) (fun r_2 hr_2 => ?_)
  obtain rfl : r_2 = (R 0) k := hr_2
  refine xkRi (xV (As := [.int ((R 0) k)]) (rest := []) (wc := [(x0, .inr (9, [.ref (o 0), x0_snapshot, x0_trial, x0_history, x0_filling, .ref de, x0_text, x0_textLength, x0_hasSnapshot])), (o 0, .inr (8, [.ref (o 1), .ref (o 6), o0_orders, o0_stages, o0_log, o0_settings, o0_rebate, o0_day])), (o 1, .inr (3, [.int (nI gz), o1_price, .ref (o 3), o1_listed, o1_list]))]) hx hb hml hown hts (c_X9_hasGood l dC dI cI cF cC cZ cQ cS x0 (o 0) x0_snapshot x0_trial x0_history x0_filling (.ref de) x0_text x0_textLength x0_hasSnapshot (o 1) (.ref (o 6)) o0_orders o0_stages o0_log o0_settings o0_rebate o0_day gz o1_price (.ref (o 3)) o1_listed o1_list ((R 0) k) (by omega)) 1 gX9_deliveryError_X9_hasGood rfl rfl rfl hdV_X9_hasGood ⟨Nat.le_of_ble_eq_true rfl, Nat.le_of_ble_eq_true rfl⟩ hN hK hP hD [0, 6, 7] rfl rfl 9 0 rfl rfl rfl hl.1 rfl (Nat.le_of_ble_eq_true rfl) dX9_deliveryError_22 ⟨Nat.zero_le _, Nat.zero_le _⟩) (fun r_3 hr_3 => ?_)
  have hr_3 : r_3 = (if xhas ((R 0) k) gz then nI 1 else nI 0) := hr_3
  rcases xi_ite inferInstance hr_3 with ⟨c_4, hr_3⟩ | ⟨c_4, hr_3⟩
  · subst hr_3
    refine xr_ifn1 (tgt := 30) hx hb (by decide) dX9_deliveryError_25 (by decide) ?_
    refine lv_iinc (v := nI (k + 1)) (lv' := [(1, .int (nI (k + 1))), (0, .ref x0)]) hx hb dX9_deliveryError_30 hl (k := 0) rfl (nI_inc1 k) (by decide) rfl (fun ls hl => ?_)
    refine lv_goto (tgt := 2) hx hb dX9_deliveryError_33 (by decide) ?_
    exact ih_2 ((dz + 1) - (k + 1)) _ _ _ (show (dz + 1) - (k + 1) < (dz + 1) - k from by omega) ⟨(k + 1), ls, rfl, rfl, rfl, rfl, lv_sub hl [0, 1] rfl, (by omega), (fun e he => by rcases (show e < k ∨ e = k by omega) with q | q; exact hne e q; rw [q]; exact c_4)⟩
  subst hr_3
  refine xr_ifn0 (tgt := 30) hx hb (by decide) dX9_deliveryError_25 (by decide) ?_
  refine lv_iconst (v := (-1)) hx hb dX9_deliveryError_28 (by decide) ?_
  exact W.iret (v := (-1)) hx hb hr (fun t ht hW => ⟨_, rfl, (show (-1) = (-1) from rfl), ht⟩) (fun q h => by cases h) dX9_deliveryError_29
set_option maxHeartbeats 4000000 in
set_option maxRecDepth 100000 in
theorem c_X9_deliveryErrorb (l : Launch) (dC : Nat → ClassId) (dI : Nat → Nat → Nat) (cI cF cC cZ cQ cS : ClassId) (x0 : Nat) (o : Nat → Nat) (x0_snapshot : Value) (x0_trial : Value) (x0_history : Value) (x0_filling : Value) (de : Nat) (x0_text : Value) (x0_textLength : Value) (x0_hasSnapshot : Value) (nq : Nat) (R : Nat → Nat → Int32) (nr0 : Nat) (nr1 : Nat) (nr2 : Nat) (dz : Nat) (dp : Nat) (dd : Nat) (o0_orders : Value) (o0_stages : Value) (o0_log : Value) (o0_settings : Value) (o0_rebate : Value) (o0_day : Value) (o1_price : Value) (o1_listed : Value) (o1_list : Value) (o6_good : Value) (o6_came : Value) (o6_left : Value) (o6_shelf : Value) (o6_sold : Value) (o6_given : Value) (o6_cents : Value) (o6_wasted : Value) (gz : Nat) (bz : Nat) (T : Nat → Nat → Int32) (hgz : gz ≤ 12) (hdz : dz ≤ 16) (hall : ∀ e, e < dz → xhas (R 0 e) gz) (hex : ∃ e, e < dz ∧ ¬ xsup R (T 2) e) : Met l yX9_deliveryError wsX9_deliveryError ({ frames := 2, cells := 0, slots := 0, locals := 45 }) (xPre (dC, dI) vwCl [.ref x0] (xtys cI cF cC cZ cQ cS) [(x0, .inr (9, [.ref (o 0), x0_snapshot, x0_trial, x0_history, x0_filling, .ref de, x0_text, x0_textLength, x0_hasSnapshot])), (de, .inr (1, [.int (nI dz), .int (nI dp), .int (nI dd), .ref nq])), (nq, .inl (cQ, 3, .inr (.inr (.inr (.inr (xrow [nr0, nr1, nr2])))))), (nr0, .inl (cI, 16, .inl (R 0))), (nr1, .inl (cI, 16, .inl (R 1))), (nr2, .inl (cI, 16, .inl (R 2))), (o 0, .inr (8, [.ref (o 1), .ref (o 6), o0_orders, o0_stages, o0_log, o0_settings, o0_rebate, o0_day])), (o 1, .inr (3, [.int (nI gz), o1_price, .ref (o 3), o1_listed, o1_list])), (o 3, .inl (cI, 12, .inl (T 2))), (o 6, .inr (0, [.int (nI bz), o6_good, o6_came, o6_left, o6_shelf, o6_sold, o6_given, o6_cents, o6_wasted]))]) (vp_Si (fun r0 => r0 = (-2))) 0 0 (fun _ => False) := by
  refine Met.ofW (cc := cX9_deliveryError) (maxL := 3) (ret := (some .int)) (by decide) rfl ?_
  intro p e s m args below meth c s₁ B hml hv
  obtain ⟨rfl, hP, hK, hD0, hN⟩ := hv
  have hx := B.exec
  have hb := B.bytes
  have hr := B.returns
  have hts := atoms_spec (ws := wsX9_deliveryError) B.pre
  have hown : s.vm.findClass RX9 = some m.cls := findClass_of_methodNamed B.named
  have hlocks := B.notSynchronized
  have k_151 := hts (Cond.fieldLink RX9 151 "ShelfStages$Delivery" "size" "I") (by decide +kernel)
  have k_39 := hts (Cond.fieldLink RX9 39 "ShelfStages" "delivery" "LShelfStages$Delivery;") (by decide +kernel)
  have i_X1 : ∀ w ∈ wsX10, w ∈ wsX9_deliveryError := by decide +kernel
  have i_X9 : ∀ w ∈ wsX90, w ∈ wsX9_deliveryError := by decide +kernel
  have hD := hD0
  have hl := lv_entry ([.ref x0]) (n := 3) (Nat.le_of_ble_eq_true rfl)
  rw [lg_entry_eq]
  generalize (lg_sl ([.ref x0]) ++ List.replicate (3 - (lg_sl ([.ref x0])).length) Slot.unset).toArray = ls at hl ⊢
  have hl : lv_has ls 3 [(0, .ref x0)] := hl
  refine lv_iconst (v := nI 0) hx hb dX9_deliveryError_0 (by decide) ?_
  refine lv_istore_n (lv' := [(1, .int (nI 0)), (0, .ref x0)]) hx hb dX9_deliveryError_1 rfl hl (by decide) rfl (fun ls hl => ?_)
  refine xr_loop (J := Nat) (fun n0 H locs g => ∃ (k : Nat) (ls : Array Slot), H = s.heap ∧ locs = [] ∧ n0 = (dz + 1) - k ∧ g = F0 m 2 ls [] ∧ lv_has ls 3 [(1, .int (nI k)), (0, .ref x0)] ∧ (k ≤ dz)) (fun n => n) ?_ ((dz + 1) - 0) (g := F0 m 2 ls []) ⟨0, ls, rfl, rfl, rfl, rfl, lv_sub hl [0, 1] rfl, (Nat.zero_le _)⟩
  intro n0 ih_2 H locs g hp
  obtain ⟨k, ls, rfl, rfl, rfl, rfl, hl, hk⟩ := hp
  refine lv_iload_n hx hb dX9_deliveryError_2 rfl (lv_at hl 0 rfl) ?_
  refine lv_aload_n hx hb dX9_deliveryError_3 rfl (lv_at hl 1 rfl) ?_
  refine va_get (D := (dC, dI)) (ci := 9) (v := .ref de) (C := RX9) (T := TX9) (N := 9) hx hb hts i_X9 hown hK hP 0 rfl rfl 5 (by decide) k_39 (fun _ h9 => h9) rfl dX9_deliveryError_4 ?_
  refine va_get (D := (dC, dI)) (ci := 1) (v := .int (nI dz)) (C := RX1) (T := TX1) (N := 4) hx hb hts i_X1 hown hK hP 1 rfl rfl 0 (by decide) k_151 (fun _ h9 => h9) rfl dX9_deliveryError_7 ?_
  refine xr_ge_n (tgt := 36) hx hb (by omega) (by omega) dX9_deliveryError_10 (by decide) (fun c_1 => ?_) (fun c_1 => ?_)
  · skip
    refine lv_iconst (v := nI 0) hx hb dX9_deliveryError_36 (by decide) ?_
    refine lv_istore_n (lv' := [(1, .int (nI 0)), (0, .ref x0)]) hx hb dX9_deliveryError_37 rfl hl (by decide) rfl (fun ls hl => ?_)
    refine xr_loop (J := Nat) (fun n0 H locs g => ∃ (m2 : Nat) (ls : Array Slot), H = s.heap ∧ locs = [] ∧ n0 = (dz + 1) - m2 ∧ g = F0 m 38 ls [] ∧ lv_has ls 3 [(1, .int (nI m2)), (0, .ref x0)] ∧ (m2 ≤ dz) ∧ (∀ e, e < m2 → xsup R (T 2) e)) (fun n => n) ?_ ((dz + 1) - 0) (g := F0 m 38 ls []) ⟨0, ls, rfl, rfl, rfl, rfl, lv_sub hl [0, 1] rfl, (Nat.zero_le _), (fun e he => absurd he (Nat.not_lt_zero e))⟩
    intro n0 ih_38 H locs g hp
    obtain ⟨m2, ls, rfl, rfl, rfl, rfl, hl, hm2, hns⟩ := hp
    refine lv_iload_n hx hb dX9_deliveryError_38 rfl (lv_at hl 0 rfl) ?_
    refine lv_aload_n hx hb dX9_deliveryError_39 rfl (lv_at hl 1 rfl) ?_
    refine va_get (D := (dC, dI)) (ci := 9) (v := .ref de) (C := RX9) (T := TX9) (N := 9) hx hb hts i_X9 hown hK hP 0 rfl rfl 5 (by decide) k_39 (fun _ h9 => h9) rfl dX9_deliveryError_40 ?_
    refine va_get (D := (dC, dI)) (ci := 1) (v := .int (nI dz)) (C := RX1) (T := TX1) (N := 4) hx hb hts i_X1 hown hK hP 1 rfl rfl 0 (by decide) k_151 (fun _ h9 => h9) rfl dX9_deliveryError_43 ?_
    refine xr_ge_n (tgt := 89) hx hb (by omega) (by omega) dX9_deliveryError_46 (by decide) (fun c_2 => False.elim (by exact hex.elim (fun e he => he.2 (hns e (by omega))))) (fun c_2 => ?_)
    refine lv_aload_n hx hb dX9_deliveryError_49 rfl (lv_at hl 1 rfl) ?_
    refine va_get (D := (dC, dI)) (ci := 9) (v := .ref de) (C := RX9) (T := TX9) (N := 9) hx hb hts i_X9 hown hK hP 0 rfl rfl 5 (by decide) k_39 (fun _ h9 => h9) rfl dX9_deliveryError_50 ?_
    refine lv_iload_n hx hb dX9_deliveryError_53 rfl (lv_at hl 0 rfl) ?_
    refine xkRi (xV (As := [.int (nI m2)]) (rest := []) (wc := [(de, .inr (1, [.int (nI dz), .int (nI dp), .int (nI dd), .ref nq])), (nq, .inl (cQ, 3, .inr (.inr (.inr (.inr (xrow [nr0, nr1, nr2])))))), (nr0, .inl (cI, 16, .inl (R 0)))]) hx hb hml hown hts (c_X1_goodIn l dC dI cI cF cC cZ cQ cS de (.int (nI dz)) (.int (nI dp)) (.int (nI dd)) nq (xrow [nr0, nr1, nr2]) nr0 (R 0) m2 (by omega) rfl) 1 gX9_deliveryError_X1_goodIn rfl rfl rfl hdV_X1_goodIn ⟨Nat.le_of_ble_eq_true rfl, Nat.le_of_ble_eq_true rfl⟩ hN hK hP hD [1, 2, 3] rfl rfl 1 1 rfl rfl rfl hl.1 rfl (Nat.le_of_ble_eq_true rfl) dX9_deliveryError_54 ⟨Nat.zero_le _, Nat.zero_le _⟩) (fun r_3 hr_3 => ?_)
    obtain rfl : r_3 = (R 0) m2 := hr_3
    refine xr_top (show (R 0) m2 = nI (((R 0) m2).toNatClampNeg) from (xhas_idx (hall m2 (by omega)) (by omega)).2) ?_
    refine lv_istore_n (lv' := [(2, .int (nI (((R 0) m2).toNatClampNeg))), (1, .int (nI m2)), (0, .ref x0)]) hx hb dX9_deliveryError_57 rfl hl (by decide) rfl (fun ls hl => ?_)
    refine lv_aload_n hx hb dX9_deliveryError_58 rfl (lv_at hl 2 rfl) ?_
    refine lv_iload_n hx hb dX9_deliveryError_59 rfl (lv_at hl 0 rfl) ?_
    refine lv_aload_n hx hb dX9_deliveryError_60 rfl (lv_at hl 2 rfl) ?_
    refine va_get (D := (dC, dI)) (ci := 9) (v := .ref de) (C := RX9) (T := TX9) (N := 9) hx hb hts i_X9 hown hK hP 0 rfl rfl 5 (by decide) k_39 (fun _ h9 => h9) rfl dX9_deliveryError_61 ?_
    refine lv_iload_n hx hb dX9_deliveryError_64 rfl (lv_at hl 1 rfl) ?_
    refine xkRi (xV (As := [.int (nI m2)]) (rest := [.int (nI (((R 0) m2).toNatClampNeg)), .ref x0]) (wc := [(de, .inr (1, [.int (nI dz), .int (nI dp), .int (nI dd), .ref nq])), (nq, .inl (cQ, 3, .inr (.inr (.inr (.inr (xrow [nr0, nr1, nr2])))))), (nr1, .inl (cI, 16, .inl (R 1)))]) hx hb hml hown hts (c_X1_unitsIn l dC dI cI cF cC cZ cQ cS de (.int (nI dz)) (.int (nI dp)) (.int (nI dd)) nq (xrow [nr0, nr1, nr2]) nr1 (R 1) m2 (by omega) rfl) 1 gX9_deliveryError_X1_unitsIn rfl rfl rfl hdV_X1_unitsIn ⟨Nat.le_of_ble_eq_true rfl, Nat.le_of_ble_eq_true rfl⟩ hN hK hP hD [1, 2, 4] rfl rfl 1 1 rfl rfl rfl hl.1 rfl (Nat.le_of_ble_eq_true rfl) dX9_deliveryError_65 ⟨Nat.zero_le _, Nat.zero_le _⟩) (fun r_4 hr_4 => ?_)
    obtain rfl : r_4 = (R 1) m2 := hr_4
    refine lv_aload_n hx hb dX9_deliveryError_68 rfl (lv_at hl 2 rfl) ?_
    refine lv_iload_n hx hb dX9_deliveryError_69 rfl (lv_at hl 1 rfl) ?_
    refine lv_iload_n hx hb dX9_deliveryError_70 rfl (lv_at hl 0 rfl) ?_
    refine xkRi (xV (As := [.int (nI m2), .int (nI (((R 0) m2).toNatClampNeg))]) (rest := [.int ((R 1) m2), .int (nI (((R 0) m2).toNatClampNeg)), .ref x0]) (wc := [(x0, .inr (9, [.ref (o 0), x0_snapshot, x0_trial, x0_history, x0_filling, .ref de, x0_text, x0_textLength, x0_hasSnapshot])), (de, .inr (1, [.int (nI dz), .int (nI dp), .int (nI dd), .ref nq])), (nq, .inl (cQ, 3, .inr (.inr (.inr (.inr (xrow [nr0, nr1, nr2])))))), (nr0, .inl (cI, 16, .inl (R 0))), (nr1, .inl (cI, 16, .inl (R 1))), (nr2, .inl (cI, 16, .inl (R 2))), (o 0, .inr (8, [.ref (o 1), .ref (o 6), o0_orders, o0_stages, o0_log, o0_settings, o0_rebate, o0_day])), (o 1, .inr (3, [.int (nI gz), o1_price, .ref (o 3), o1_listed, o1_list])), (o 3, .inl (cI, 12, .inl (T 2))), (o 6, .inr (0, [.int (nI bz), o6_good, o6_came, o6_left, o6_shelf, o6_sold, o6_given, o6_cents, o6_wasted]))]) hx hb hml hown hts (c_X9_leftIn l dC dI cI cF cC cZ cQ cS x0 o x0_snapshot x0_trial x0_history x0_filling de x0_text x0_textLength x0_hasSnapshot nq R nr0 nr1 nr2 dz dp dd o0_orders o0_stages o0_log o0_settings o0_rebate o0_day o1_price o1_listed o1_list o6_good o6_came o6_left o6_shelf o6_sold o6_given o6_cents o6_wasted gz bz T m2 (((R 0) m2).toNatClampNeg) (by omega) (Nat.lt_of_lt_of_le (xhas_idx (hall m2 (by omega)) (by omega)).1 hgz)) 2 gX9_deliveryError_X9_leftIn rfl rfl rfl hdV_X9_leftIn ⟨Nat.le_of_ble_eq_true rfl, Nat.le_of_ble_eq_true rfl⟩ hN hK hP hD [0, 1, 2, 3, 4, 5, 6, 7, 8, 9] rfl rfl 9 0 rfl rfl rfl hl.1 rfl (Nat.le_of_ble_eq_true rfl) dX9_deliveryError_71 ⟨Nat.zero_le _, Nat.zero_le _⟩) (fun r_5 hr_5 => ?_)
    obtain rfl : r_5 = xleft (R 2) (T 2) m2 (((R 0) m2).toNatClampNeg) := hr_5
    refine xkRi (xV (As := [.int (nI (((R 0) m2).toNatClampNeg)), .int ((R 1) m2), .int (xleft (R 2) (T 2) m2 (((R 0) m2).toNatClampNeg))]) (rest := []) (wc := [(x0, .inr (9, [.ref (o 0), x0_snapshot, x0_trial, x0_history, x0_filling, .ref de, x0_text, x0_textLength, x0_hasSnapshot])), (o 0, .inr (8, [.ref (o 1), .ref (o 6), o0_orders, o0_stages, o0_log, o0_settings, o0_rebate, o0_day])), (o 1, .inr (3, [.int (nI gz), o1_price, .ref (o 3), o1_listed, o1_list])), (o 3, .inl (cI, 12, .inl (T 2)))]) hx hb hml hown hts (c_X9_isSupply l dC dI cI cF cC cZ cQ cS x0 (o 0) x0_snapshot x0_trial x0_history x0_filling (.ref de) x0_text x0_textLength x0_hasSnapshot (o 1) (.ref (o 6)) o0_orders o0_stages o0_log o0_settings o0_rebate o0_day (.int (nI gz)) o1_price (o 3) o1_listed o1_list (T 2) (((R 0) m2).toNatClampNeg) ((R 1) m2) (xleft (R 2) (T 2) m2 (((R 0) m2).toNatClampNeg)) (Nat.lt_of_lt_of_le (xhas_idx (hall m2 (by omega)) (by omega)).1 hgz)) 3 gX9_deliveryError_X9_isSupply rfl rfl rfl hdV_X9_isSupply ⟨Nat.le_of_ble_eq_true rfl, Nat.le_of_ble_eq_true rfl⟩ hN hK hP hD [0, 6, 7, 8] rfl rfl 9 0 rfl rfl rfl hl.1 rfl (Nat.le_of_ble_eq_true rfl) dX9_deliveryError_74 ⟨Nat.zero_le _, Nat.zero_le _⟩) (fun r_6 hr_6 => ?_)
    have hr_6 : r_6 = (if (nI 1 ≤ ((R 1) m2) ∧ ((R 1) m2) ≤ nI 999) ∧ nI 1 ≤ (xleft (R 2) (T 2) m2 (((R 0) m2).toNatClampNeg)) ∧ (xleft (R 2) (T 2) m2 (((R 0) m2).toNatClampNeg)) ≤ (T 2) (((R 0) m2).toNatClampNeg) then nI 1 else nI 0) := hr_6
    rcases xi_ite inferInstance hr_6 with ⟨c_7, hr_6⟩ | ⟨c_7, hr_6⟩
    · subst hr_6
      refine xr_ifn1 (tgt := 83) hx hb (by decide) dX9_deliveryError_77 (by decide) ?_
      refine lv_iinc (v := nI (m2 + 1)) (lv' := [(1, .int (nI (m2 + 1))), (2, .int (nI (((R 0) m2).toNatClampNeg))), (0, .ref x0)]) hx hb dX9_deliveryError_83 hl (k := 1) rfl (nI_inc1 m2) (by decide) rfl (fun ls hl => ?_)
      refine lv_goto (tgt := 38) hx hb dX9_deliveryError_86 (by decide) ?_
      exact ih_38 ((dz + 1) - (m2 + 1)) _ _ _ (show (dz + 1) - (m2 + 1) < (dz + 1) - m2 from by omega) ⟨(m2 + 1), ls, rfl, rfl, rfl, rfl, lv_sub hl [0, 2] rfl, (by omega), (fun e he => by rcases (show e < m2 ∨ e = m2 by omega) with q | q; exact hns e q; rw [q]; exact c_7)⟩
    subst hr_6
    refine xr_ifn0 (tgt := 83) hx hb (by decide) dX9_deliveryError_77 (by decide) ?_
    refine lv_bipush (v := (-2)) hx hb dX9_deliveryError_80 (by decide) ?_
    exact W.iret (v := (-2)) hx hb hr (fun t ht hW => ⟨_, rfl, (show (-2) = (-2) from rfl), ht⟩) (fun q h => by cases h) dX9_deliveryError_82
  refine lv_aload_n hx hb dX9_deliveryError_13 rfl (lv_at hl 1 rfl) ?_
  refine lv_aload_n hx hb dX9_deliveryError_14 rfl (lv_at hl 1 rfl) ?_
  refine va_get (D := (dC, dI)) (ci := 9) (v := .ref de) (C := RX9) (T := TX9) (N := 9) hx hb hts i_X9 hown hK hP 0 rfl rfl 5 (by decide) k_39 (fun _ h9 => h9) rfl dX9_deliveryError_15 ?_
  refine lv_iload_n hx hb dX9_deliveryError_18 rfl (lv_at hl 0 rfl) ?_
  refine xkRi (xV (As := [.int (nI k)]) (rest := [.ref x0]) (wc := [(de, .inr (1, [.int (nI dz), .int (nI dp), .int (nI dd), .ref nq])), (nq, .inl (cQ, 3, .inr (.inr (.inr (.inr (xrow [nr0, nr1, nr2])))))), (nr0, .inl (cI, 16, .inl (R 0)))]) hx hb hml hown hts (c_X1_goodIn l dC dI cI cF cC cZ cQ cS de (.int (nI dz)) (.int (nI dp)) (.int (nI dd)) nq (xrow [nr0, nr1, nr2]) nr0 (R 0) k (by omega) rfl) 1 gX9_deliveryError_X1_goodIn rfl rfl rfl hdV_X1_goodIn ⟨Nat.le_of_ble_eq_true rfl, Nat.le_of_ble_eq_true rfl⟩ hN hK hP hD [1, 2, 3] rfl rfl 1 1 rfl rfl rfl hl.1 rfl (Nat.le_of_ble_eq_true rfl) dX9_deliveryError_19 ⟨Nat.zero_le _, Nat.zero_le _⟩) (fun r_8 hr_8 => ?_)
  obtain rfl : r_8 = (R 0) k := hr_8
  refine xkRi (xV (As := [.int ((R 0) k)]) (rest := []) (wc := [(x0, .inr (9, [.ref (o 0), x0_snapshot, x0_trial, x0_history, x0_filling, .ref de, x0_text, x0_textLength, x0_hasSnapshot])), (o 0, .inr (8, [.ref (o 1), .ref (o 6), o0_orders, o0_stages, o0_log, o0_settings, o0_rebate, o0_day])), (o 1, .inr (3, [.int (nI gz), o1_price, .ref (o 3), o1_listed, o1_list]))]) hx hb hml hown hts (c_X9_hasGood l dC dI cI cF cC cZ cQ cS x0 (o 0) x0_snapshot x0_trial x0_history x0_filling (.ref de) x0_text x0_textLength x0_hasSnapshot (o 1) (.ref (o 6)) o0_orders o0_stages o0_log o0_settings o0_rebate o0_day gz o1_price (.ref (o 3)) o1_listed o1_list ((R 0) k) (by omega)) 1 gX9_deliveryError_X9_hasGood rfl rfl rfl hdV_X9_hasGood ⟨Nat.le_of_ble_eq_true rfl, Nat.le_of_ble_eq_true rfl⟩ hN hK hP hD [0, 6, 7] rfl rfl 9 0 rfl rfl rfl hl.1 rfl (Nat.le_of_ble_eq_true rfl) dX9_deliveryError_22 ⟨Nat.zero_le _, Nat.zero_le _⟩) (fun r_9 hr_9 => ?_)
  have hr_9 : r_9 = (if xhas ((R 0) k) gz then nI 1 else nI 0) := hr_9
  obtain rfl : r_9 = nI 1 := hr_9.trans (if_pos (hall k (by omega)))
  refine xr_ifn1 (tgt := 30) hx hb (by decide) dX9_deliveryError_25 (by decide) ?_
  refine lv_iinc (v := nI (k + 1)) (lv' := [(1, .int (nI (k + 1))), (0, .ref x0)]) hx hb dX9_deliveryError_30 hl (k := 0) rfl (nI_inc1 k) (by decide) rfl (fun ls hl => ?_)
  refine lv_goto (tgt := 2) hx hb dX9_deliveryError_33 (by decide) ?_
  exact ih_2 ((dz + 1) - (k + 1)) _ _ _ (show (dz + 1) - (k + 1) < (dz + 1) - k from by omega) ⟨(k + 1), ls, rfl, rfl, rfl, rfl, lv_sub hl [0, 1] rfl, (by omega)⟩
set_option maxHeartbeats 4000000 in
set_option maxRecDepth 100000 in
theorem c_X9_deliveryErrorf (l : Launch) (dC : Nat → ClassId) (dI : Nat → Nat → Nat) (cI cF cC cZ cQ cS : ClassId) (x0 : Nat) (o : Nat → Nat) (x0_snapshot : Value) (x0_trial : Value) (x0_history : Value) (x0_filling : Value) (de : Nat) (x0_text : Value) (x0_textLength : Value) (x0_hasSnapshot : Value) (nq : Nat) (R : Nat → Nat → Int32) (nr0 : Nat) (nr1 : Nat) (nr2 : Nat) (dz : Nat) (dp : Nat) (dd : Nat) (o0_orders : Value) (o0_stages : Value) (o0_log : Value) (o0_settings : Value) (o0_rebate : Value) (o0_day : Value) (o1_price : Value) (o1_listed : Value) (o1_list : Value) (o6_good : Value) (o6_came : Value) (o6_left : Value) (o6_shelf : Value) (o6_sold : Value) (o6_given : Value) (o6_cents : Value) (o6_wasted : Value) (gz : Nat) (bz : Nat) (T : Nat → Nat → Int32) (hgz : gz ≤ 12) (hdz : dz ≤ 16) (hall : ∀ e, e < dz → xhas (R 0 e) gz) (hsup : ∀ e, e < dz → xsup R (T 2) e) (hbz : bz ≤ 40) (hf : 40 < bz + dz) : Met l yX9_deliveryError wsX9_deliveryError ({ frames := 2, cells := 0, slots := 0, locals := 45 }) (xPre (dC, dI) vwCl [.ref x0] (xtys cI cF cC cZ cQ cS) [(x0, .inr (9, [.ref (o 0), x0_snapshot, x0_trial, x0_history, x0_filling, .ref de, x0_text, x0_textLength, x0_hasSnapshot])), (de, .inr (1, [.int (nI dz), .int (nI dp), .int (nI dd), .ref nq])), (nq, .inl (cQ, 3, .inr (.inr (.inr (.inr (xrow [nr0, nr1, nr2])))))), (nr0, .inl (cI, 16, .inl (R 0))), (nr1, .inl (cI, 16, .inl (R 1))), (nr2, .inl (cI, 16, .inl (R 2))), (o 0, .inr (8, [.ref (o 1), .ref (o 6), o0_orders, o0_stages, o0_log, o0_settings, o0_rebate, o0_day])), (o 1, .inr (3, [.int (nI gz), o1_price, .ref (o 3), o1_listed, o1_list])), (o 3, .inl (cI, 12, .inl (T 2))), (o 6, .inr (0, [.int (nI bz), o6_good, o6_came, o6_left, o6_shelf, o6_sold, o6_given, o6_cents, o6_wasted]))]) (vp_Si (fun r0 => r0 = (-3))) 0 0 (fun _ => False) := by
  refine Met.ofW (cc := cX9_deliveryError) (maxL := 3) (ret := (some .int)) (by decide) rfl ?_
  intro p e s m args below meth c s₁ B hml hv
  obtain ⟨rfl, hP, hK, hD0, hN⟩ := hv
  have hx := B.exec
  have hb := B.bytes
  have hr := B.returns
  have hts := atoms_spec (ws := wsX9_deliveryError) B.pre
  have hown : s.vm.findClass RX9 = some m.cls := findClass_of_methodNamed B.named
  have hlocks := B.notSynchronized
  have k_12 := hts (Cond.fieldLink RX9 12 "ShelfStages" "now" "LShelfStages$State;") (by decide +kernel)
  have k_129 := hts (Cond.fieldLink RX9 129 "ShelfStages$State" "batches" "LShelfStages$Batches;") (by decide +kernel)
  have k_133 := hts (Cond.fieldLink RX9 133 "ShelfStages$Batches" "size" "I") (by decide +kernel)
  have k_151 := hts (Cond.fieldLink RX9 151 "ShelfStages$Delivery" "size" "I") (by decide +kernel)
  have k_39 := hts (Cond.fieldLink RX9 39 "ShelfStages" "delivery" "LShelfStages$Delivery;") (by decide +kernel)
  have i_X0 : ∀ w ∈ wsX00, w ∈ wsX9_deliveryError := by decide +kernel
  have i_X1 : ∀ w ∈ wsX10, w ∈ wsX9_deliveryError := by decide +kernel
  have i_X8 : ∀ w ∈ wsX80, w ∈ wsX9_deliveryError := by decide +kernel
  have i_X9 : ∀ w ∈ wsX90, w ∈ wsX9_deliveryError := by decide +kernel
  have hD := hD0
  have hl := lv_entry ([.ref x0]) (n := 3) (Nat.le_of_ble_eq_true rfl)
  rw [lg_entry_eq]
  generalize (lg_sl ([.ref x0]) ++ List.replicate (3 - (lg_sl ([.ref x0])).length) Slot.unset).toArray = ls at hl ⊢
  have hl : lv_has ls 3 [(0, .ref x0)] := hl
  refine lv_iconst (v := nI 0) hx hb dX9_deliveryError_0 (by decide) ?_
  refine lv_istore_n (lv' := [(1, .int (nI 0)), (0, .ref x0)]) hx hb dX9_deliveryError_1 rfl hl (by decide) rfl (fun ls hl => ?_)
  refine xr_loop (J := Nat) (fun n0 H locs g => ∃ (k : Nat) (ls : Array Slot), H = s.heap ∧ locs = [] ∧ n0 = (dz + 1) - k ∧ g = F0 m 2 ls [] ∧ lv_has ls 3 [(1, .int (nI k)), (0, .ref x0)] ∧ (k ≤ dz)) (fun n => n) ?_ ((dz + 1) - 0) (g := F0 m 2 ls []) ⟨0, ls, rfl, rfl, rfl, rfl, lv_sub hl [0, 1] rfl, (Nat.zero_le _)⟩
  intro n0 ih_2 H locs g hp
  obtain ⟨k, ls, rfl, rfl, rfl, rfl, hl, hk⟩ := hp
  refine lv_iload_n hx hb dX9_deliveryError_2 rfl (lv_at hl 0 rfl) ?_
  refine lv_aload_n hx hb dX9_deliveryError_3 rfl (lv_at hl 1 rfl) ?_
  refine va_get (D := (dC, dI)) (ci := 9) (v := .ref de) (C := RX9) (T := TX9) (N := 9) hx hb hts i_X9 hown hK hP 0 rfl rfl 5 (by decide) k_39 (fun _ h9 => h9) rfl dX9_deliveryError_4 ?_
  refine va_get (D := (dC, dI)) (ci := 1) (v := .int (nI dz)) (C := RX1) (T := TX1) (N := 4) hx hb hts i_X1 hown hK hP 1 rfl rfl 0 (by decide) k_151 (fun _ h9 => h9) rfl dX9_deliveryError_7 ?_
  refine xr_ge_n (tgt := 36) hx hb (by omega) (by omega) dX9_deliveryError_10 (by decide) (fun c_1 => ?_) (fun c_1 => ?_)
  · skip
    refine lv_iconst (v := nI 0) hx hb dX9_deliveryError_36 (by decide) ?_
    refine lv_istore_n (lv' := [(1, .int (nI 0)), (0, .ref x0)]) hx hb dX9_deliveryError_37 rfl hl (by decide) rfl (fun ls hl => ?_)
    refine xr_loop (J := Nat) (fun n0 H locs g => ∃ (m2 : Nat) (ls : Array Slot), H = s.heap ∧ locs = [] ∧ n0 = (dz + 1) - m2 ∧ g = F0 m 38 ls [] ∧ lv_has ls 3 [(1, .int (nI m2)), (0, .ref x0)] ∧ (m2 ≤ dz)) (fun n => n) ?_ ((dz + 1) - 0) (g := F0 m 38 ls []) ⟨0, ls, rfl, rfl, rfl, rfl, lv_sub hl [0, 1] rfl, (Nat.zero_le _)⟩
    intro n0 ih_38 H locs g hp
    obtain ⟨m2, ls, rfl, rfl, rfl, rfl, hl, hm2⟩ := hp
    refine lv_iload_n hx hb dX9_deliveryError_38 rfl (lv_at hl 0 rfl) ?_
    refine lv_aload_n hx hb dX9_deliveryError_39 rfl (lv_at hl 1 rfl) ?_
    refine va_get (D := (dC, dI)) (ci := 9) (v := .ref de) (C := RX9) (T := TX9) (N := 9) hx hb hts i_X9 hown hK hP 0 rfl rfl 5 (by decide) k_39 (fun _ h9 => h9) rfl dX9_deliveryError_40 ?_
    refine va_get (D := (dC, dI)) (ci := 1) (v := .int (nI dz)) (C := RX1) (T := TX1) (N := 4) hx hb hts i_X1 hown hK hP 1 rfl rfl 0 (by decide) k_151 (fun _ h9 => h9) rfl dX9_deliveryError_43 ?_
    refine xr_ge_n (tgt := 89) hx hb (by omega) (by omega) dX9_deliveryError_46 (by decide) (fun c_2 => ?_) (fun c_2 => ?_)
    · skip
      refine lv_aload_n hx hb dX9_deliveryError_89 rfl (lv_at hl 1 rfl) ?_
      refine va_get (D := (dC, dI)) (ci := 9) (v := .ref (o 0)) (C := RX9) (T := TX9) (N := 9) hx hb hts i_X9 hown hK hP 0 rfl rfl 0 (by decide) k_12 (fun _ h9 => h9) rfl dX9_deliveryError_90 ?_
      refine va_get (D := (dC, dI)) (ci := 8) (v := .ref (o 6)) (C := RX8) (T := TX8) (N := 8) hx hb hts i_X8 hown hK hP 6 rfl rfl 1 (by decide) k_129 (fun _ h9 => h9) rfl dX9_deliveryError_93 ?_
      refine va_get (D := (dC, dI)) (ci := 0) (v := .int (nI bz)) (C := RX0) (T := TX0) (N := 9) hx hb hts i_X0 hown hK hP 9 rfl rfl 0 (by decide) k_133 (fun _ h9 => h9) rfl dX9_deliveryError_96 ?_
      refine lv_aload_n hx hb dX9_deliveryError_99 rfl (lv_at hl 1 rfl) ?_
      refine va_get (D := (dC, dI)) (ci := 9) (v := .ref de) (C := RX9) (T := TX9) (N := 9) hx hb hts i_X9 hown hK hP 0 rfl rfl 5 (by decide) k_39 (fun _ h9 => h9) rfl dX9_deliveryError_100 ?_
      refine va_get (D := (dC, dI)) (ci := 1) (v := .int (nI dz)) (C := RX1) (T := TX1) (N := 4) hx hb hts i_X1 hown hK hP 1 rfl rfl 0 (by decide) k_151 (fun _ h9 => h9) rfl dX9_deliveryError_103 ?_
      refine xr_iadd_n hx hb dX9_deliveryError_106 ?_
      refine lv_bipush (v := nI 40) hx hb dX9_deliveryError_107 (by decide) ?_
      refine xr_le_n (tgt := 117) hx hb (by omega) (by omega) dX9_deliveryError_109 (by decide) (fun c_3 => False.elim (by omega)) (fun c_3 => ?_)
      refine lv_bipush (v := (-3)) hx hb dX9_deliveryError_112 (by decide) ?_
      refine lv_goto (tgt := 118) hx hb dX9_deliveryError_114 (by decide) ?_
      exact W.iret (v := (-3)) hx hb hr (fun t ht hW => ⟨_, rfl, (show (-3) = (-3) from rfl), ht⟩) (fun q h => by cases h) dX9_deliveryError_118
    refine lv_aload_n hx hb dX9_deliveryError_49 rfl (lv_at hl 1 rfl) ?_
    refine va_get (D := (dC, dI)) (ci := 9) (v := .ref de) (C := RX9) (T := TX9) (N := 9) hx hb hts i_X9 hown hK hP 0 rfl rfl 5 (by decide) k_39 (fun _ h9 => h9) rfl dX9_deliveryError_50 ?_
    refine lv_iload_n hx hb dX9_deliveryError_53 rfl (lv_at hl 0 rfl) ?_
    refine xkRi (xV (As := [.int (nI m2)]) (rest := []) (wc := [(de, .inr (1, [.int (nI dz), .int (nI dp), .int (nI dd), .ref nq])), (nq, .inl (cQ, 3, .inr (.inr (.inr (.inr (xrow [nr0, nr1, nr2])))))), (nr0, .inl (cI, 16, .inl (R 0)))]) hx hb hml hown hts (c_X1_goodIn l dC dI cI cF cC cZ cQ cS de (.int (nI dz)) (.int (nI dp)) (.int (nI dd)) nq (xrow [nr0, nr1, nr2]) nr0 (R 0) m2 (by omega) rfl) 1 gX9_deliveryError_X1_goodIn rfl rfl rfl hdV_X1_goodIn ⟨Nat.le_of_ble_eq_true rfl, Nat.le_of_ble_eq_true rfl⟩ hN hK hP hD [1, 2, 3] rfl rfl 1 1 rfl rfl rfl hl.1 rfl (Nat.le_of_ble_eq_true rfl) dX9_deliveryError_54 ⟨Nat.zero_le _, Nat.zero_le _⟩) (fun r_4 hr_4 => ?_)
    obtain rfl : r_4 = (R 0) m2 := hr_4
    refine xr_top (show (R 0) m2 = nI (((R 0) m2).toNatClampNeg) from (xhas_idx (hall m2 (by omega)) (by omega)).2) ?_
    refine lv_istore_n (lv' := [(2, .int (nI (((R 0) m2).toNatClampNeg))), (1, .int (nI m2)), (0, .ref x0)]) hx hb dX9_deliveryError_57 rfl hl (by decide) rfl (fun ls hl => ?_)
    refine lv_aload_n hx hb dX9_deliveryError_58 rfl (lv_at hl 2 rfl) ?_
    refine lv_iload_n hx hb dX9_deliveryError_59 rfl (lv_at hl 0 rfl) ?_
    refine lv_aload_n hx hb dX9_deliveryError_60 rfl (lv_at hl 2 rfl) ?_
    refine va_get (D := (dC, dI)) (ci := 9) (v := .ref de) (C := RX9) (T := TX9) (N := 9) hx hb hts i_X9 hown hK hP 0 rfl rfl 5 (by decide) k_39 (fun _ h9 => h9) rfl dX9_deliveryError_61 ?_
    refine lv_iload_n hx hb dX9_deliveryError_64 rfl (lv_at hl 1 rfl) ?_
    refine xkRi (xV (As := [.int (nI m2)]) (rest := [.int (nI (((R 0) m2).toNatClampNeg)), .ref x0]) (wc := [(de, .inr (1, [.int (nI dz), .int (nI dp), .int (nI dd), .ref nq])), (nq, .inl (cQ, 3, .inr (.inr (.inr (.inr (xrow [nr0, nr1, nr2])))))), (nr1, .inl (cI, 16, .inl (R 1)))]) hx hb hml hown hts (c_X1_unitsIn l dC dI cI cF cC cZ cQ cS de (.int (nI dz)) (.int (nI dp)) (.int (nI dd)) nq (xrow [nr0, nr1, nr2]) nr1 (R 1) m2 (by omega) rfl) 1 gX9_deliveryError_X1_unitsIn rfl rfl rfl hdV_X1_unitsIn ⟨Nat.le_of_ble_eq_true rfl, Nat.le_of_ble_eq_true rfl⟩ hN hK hP hD [1, 2, 4] rfl rfl 1 1 rfl rfl rfl hl.1 rfl (Nat.le_of_ble_eq_true rfl) dX9_deliveryError_65 ⟨Nat.zero_le _, Nat.zero_le _⟩) (fun r_5 hr_5 => ?_)
    obtain rfl : r_5 = (R 1) m2 := hr_5
    refine lv_aload_n hx hb dX9_deliveryError_68 rfl (lv_at hl 2 rfl) ?_
    refine lv_iload_n hx hb dX9_deliveryError_69 rfl (lv_at hl 1 rfl) ?_
    refine lv_iload_n hx hb dX9_deliveryError_70 rfl (lv_at hl 0 rfl) ?_
    refine xkRi (xV (As := [.int (nI m2), .int (nI (((R 0) m2).toNatClampNeg))]) (rest := [.int ((R 1) m2), .int (nI (((R 0) m2).toNatClampNeg)), .ref x0]) (wc := [(x0, .inr (9, [.ref (o 0), x0_snapshot, x0_trial, x0_history, x0_filling, .ref de, x0_text, x0_textLength, x0_hasSnapshot])), (de, .inr (1, [.int (nI dz), .int (nI dp), .int (nI dd), .ref nq])), (nq, .inl (cQ, 3, .inr (.inr (.inr (.inr (xrow [nr0, nr1, nr2])))))), (nr0, .inl (cI, 16, .inl (R 0))), (nr1, .inl (cI, 16, .inl (R 1))), (nr2, .inl (cI, 16, .inl (R 2))), (o 0, .inr (8, [.ref (o 1), .ref (o 6), o0_orders, o0_stages, o0_log, o0_settings, o0_rebate, o0_day])), (o 1, .inr (3, [.int (nI gz), o1_price, .ref (o 3), o1_listed, o1_list])), (o 3, .inl (cI, 12, .inl (T 2))), (o 6, .inr (0, [.int (nI bz), o6_good, o6_came, o6_left, o6_shelf, o6_sold, o6_given, o6_cents, o6_wasted]))]) hx hb hml hown hts (c_X9_leftIn l dC dI cI cF cC cZ cQ cS x0 o x0_snapshot x0_trial x0_history x0_filling de x0_text x0_textLength x0_hasSnapshot nq R nr0 nr1 nr2 dz dp dd o0_orders o0_stages o0_log o0_settings o0_rebate o0_day o1_price o1_listed o1_list o6_good o6_came o6_left o6_shelf o6_sold o6_given o6_cents o6_wasted gz bz T m2 (((R 0) m2).toNatClampNeg) (by omega) (Nat.lt_of_lt_of_le (xhas_idx (hall m2 (by omega)) (by omega)).1 hgz)) 2 gX9_deliveryError_X9_leftIn rfl rfl rfl hdV_X9_leftIn ⟨Nat.le_of_ble_eq_true rfl, Nat.le_of_ble_eq_true rfl⟩ hN hK hP hD [0, 1, 2, 3, 4, 5, 6, 7, 8, 9] rfl rfl 9 0 rfl rfl rfl hl.1 rfl (Nat.le_of_ble_eq_true rfl) dX9_deliveryError_71 ⟨Nat.zero_le _, Nat.zero_le _⟩) (fun r_6 hr_6 => ?_)
    obtain rfl : r_6 = xleft (R 2) (T 2) m2 (((R 0) m2).toNatClampNeg) := hr_6
    refine xkRi (xV (As := [.int (nI (((R 0) m2).toNatClampNeg)), .int ((R 1) m2), .int (xleft (R 2) (T 2) m2 (((R 0) m2).toNatClampNeg))]) (rest := []) (wc := [(x0, .inr (9, [.ref (o 0), x0_snapshot, x0_trial, x0_history, x0_filling, .ref de, x0_text, x0_textLength, x0_hasSnapshot])), (o 0, .inr (8, [.ref (o 1), .ref (o 6), o0_orders, o0_stages, o0_log, o0_settings, o0_rebate, o0_day])), (o 1, .inr (3, [.int (nI gz), o1_price, .ref (o 3), o1_listed, o1_list])), (o 3, .inl (cI, 12, .inl (T 2)))]) hx hb hml hown hts (c_X9_isSupply l dC dI cI cF cC cZ cQ cS x0 (o 0) x0_snapshot x0_trial x0_history x0_filling (.ref de) x0_text x0_textLength x0_hasSnapshot (o 1) (.ref (o 6)) o0_orders o0_stages o0_log o0_settings o0_rebate o0_day (.int (nI gz)) o1_price (o 3) o1_listed o1_list (T 2) (((R 0) m2).toNatClampNeg) ((R 1) m2) (xleft (R 2) (T 2) m2 (((R 0) m2).toNatClampNeg)) (Nat.lt_of_lt_of_le (xhas_idx (hall m2 (by omega)) (by omega)).1 hgz)) 3 gX9_deliveryError_X9_isSupply rfl rfl rfl hdV_X9_isSupply ⟨Nat.le_of_ble_eq_true rfl, Nat.le_of_ble_eq_true rfl⟩ hN hK hP hD [0, 6, 7, 8] rfl rfl 9 0 rfl rfl rfl hl.1 rfl (Nat.le_of_ble_eq_true rfl) dX9_deliveryError_74 ⟨Nat.zero_le _, Nat.zero_le _⟩) (fun r_7 hr_7 => ?_)
    have hr_7 : r_7 = (if (nI 1 ≤ ((R 1) m2) ∧ ((R 1) m2) ≤ nI 999) ∧ nI 1 ≤ (xleft (R 2) (T 2) m2 (((R 0) m2).toNatClampNeg)) ∧ (xleft (R 2) (T 2) m2 (((R 0) m2).toNatClampNeg)) ≤ (T 2) (((R 0) m2).toNatClampNeg) then nI 1 else nI 0) := hr_7
    obtain rfl : r_7 = nI 1 := hr_7.trans (if_pos (hsup m2 (by omega)))
    refine xr_ifn1 (tgt := 83) hx hb (by decide) dX9_deliveryError_77 (by decide) ?_
    refine lv_iinc (v := nI (m2 + 1)) (lv' := [(1, .int (nI (m2 + 1))), (2, .int (nI (((R 0) m2).toNatClampNeg))), (0, .ref x0)]) hx hb dX9_deliveryError_83 hl (k := 1) rfl (nI_inc1 m2) (by decide) rfl (fun ls hl => ?_)
    refine lv_goto (tgt := 38) hx hb dX9_deliveryError_86 (by decide) ?_
    exact ih_38 ((dz + 1) - (m2 + 1)) _ _ _ (show (dz + 1) - (m2 + 1) < (dz + 1) - m2 from by omega) ⟨(m2 + 1), ls, rfl, rfl, rfl, rfl, lv_sub hl [0, 2] rfl, (by omega)⟩
  refine lv_aload_n hx hb dX9_deliveryError_13 rfl (lv_at hl 1 rfl) ?_
  refine lv_aload_n hx hb dX9_deliveryError_14 rfl (lv_at hl 1 rfl) ?_
  refine va_get (D := (dC, dI)) (ci := 9) (v := .ref de) (C := RX9) (T := TX9) (N := 9) hx hb hts i_X9 hown hK hP 0 rfl rfl 5 (by decide) k_39 (fun _ h9 => h9) rfl dX9_deliveryError_15 ?_
  refine lv_iload_n hx hb dX9_deliveryError_18 rfl (lv_at hl 0 rfl) ?_
  refine xkRi (xV (As := [.int (nI k)]) (rest := [.ref x0]) (wc := [(de, .inr (1, [.int (nI dz), .int (nI dp), .int (nI dd), .ref nq])), (nq, .inl (cQ, 3, .inr (.inr (.inr (.inr (xrow [nr0, nr1, nr2])))))), (nr0, .inl (cI, 16, .inl (R 0)))]) hx hb hml hown hts (c_X1_goodIn l dC dI cI cF cC cZ cQ cS de (.int (nI dz)) (.int (nI dp)) (.int (nI dd)) nq (xrow [nr0, nr1, nr2]) nr0 (R 0) k (by omega) rfl) 1 gX9_deliveryError_X1_goodIn rfl rfl rfl hdV_X1_goodIn ⟨Nat.le_of_ble_eq_true rfl, Nat.le_of_ble_eq_true rfl⟩ hN hK hP hD [1, 2, 3] rfl rfl 1 1 rfl rfl rfl hl.1 rfl (Nat.le_of_ble_eq_true rfl) dX9_deliveryError_19 ⟨Nat.zero_le _, Nat.zero_le _⟩) (fun r_8 hr_8 => ?_)
  obtain rfl : r_8 = (R 0) k := hr_8
  refine xkRi (xV (As := [.int ((R 0) k)]) (rest := []) (wc := [(x0, .inr (9, [.ref (o 0), x0_snapshot, x0_trial, x0_history, x0_filling, .ref de, x0_text, x0_textLength, x0_hasSnapshot])), (o 0, .inr (8, [.ref (o 1), .ref (o 6), o0_orders, o0_stages, o0_log, o0_settings, o0_rebate, o0_day])), (o 1, .inr (3, [.int (nI gz), o1_price, .ref (o 3), o1_listed, o1_list]))]) hx hb hml hown hts (c_X9_hasGood l dC dI cI cF cC cZ cQ cS x0 (o 0) x0_snapshot x0_trial x0_history x0_filling (.ref de) x0_text x0_textLength x0_hasSnapshot (o 1) (.ref (o 6)) o0_orders o0_stages o0_log o0_settings o0_rebate o0_day gz o1_price (.ref (o 3)) o1_listed o1_list ((R 0) k) (by omega)) 1 gX9_deliveryError_X9_hasGood rfl rfl rfl hdV_X9_hasGood ⟨Nat.le_of_ble_eq_true rfl, Nat.le_of_ble_eq_true rfl⟩ hN hK hP hD [0, 6, 7] rfl rfl 9 0 rfl rfl rfl hl.1 rfl (Nat.le_of_ble_eq_true rfl) dX9_deliveryError_22 ⟨Nat.zero_le _, Nat.zero_le _⟩) (fun r_9 hr_9 => ?_)
  have hr_9 : r_9 = (if xhas ((R 0) k) gz then nI 1 else nI 0) := hr_9
  obtain rfl : r_9 = nI 1 := hr_9.trans (if_pos (hall k (by omega)))
  refine xr_ifn1 (tgt := 30) hx hb (by decide) dX9_deliveryError_25 (by decide) ?_
  refine lv_iinc (v := nI (k + 1)) (lv' := [(1, .int (nI (k + 1))), (0, .ref x0)]) hx hb dX9_deliveryError_30 hl (k := 0) rfl (nI_inc1 k) (by decide) rfl (fun ls hl => ?_)
  refine lv_goto (tgt := 2) hx hb dX9_deliveryError_33 (by decide) ?_
  exact ih_2 ((dz + 1) - (k + 1)) _ _ _ (show (dz + 1) - (k + 1) < (dz + 1) - k from by omega) ⟨(k + 1), ls, rfl, rfl, rfl, rfl, lv_sub hl [0, 1] rfl, (by omega)⟩
set_option maxHeartbeats 4000000 in
set_option maxRecDepth 100000 in
theorem c_X9_deliveryErroro (l : Launch) (dC : Nat → ClassId) (dI : Nat → Nat → Nat) (cI cF cC cZ cQ cS : ClassId) (x0 : Nat) (o : Nat → Nat) (x0_snapshot : Value) (x0_trial : Value) (x0_history : Value) (x0_filling : Value) (de : Nat) (x0_text : Value) (x0_textLength : Value) (x0_hasSnapshot : Value) (nq : Nat) (R : Nat → Nat → Int32) (nr0 : Nat) (nr1 : Nat) (nr2 : Nat) (dz : Nat) (dp : Nat) (dd : Nat) (o0_orders : Value) (o0_stages : Value) (o0_log : Value) (o0_settings : Value) (o0_rebate : Value) (o0_day : Value) (o1_price : Value) (o1_listed : Value) (o1_list : Value) (o6_good : Value) (o6_came : Value) (o6_left : Value) (o6_shelf : Value) (o6_sold : Value) (o6_given : Value) (o6_cents : Value) (o6_wasted : Value) (gz : Nat) (bz : Nat) (T : Nat → Nat → Int32) (hgz : gz ≤ 12) (hdz : dz ≤ 16) (hall : ∀ e, e < dz → xhas (R 0 e) gz) (hsup : ∀ e, e < dz → xsup R (T 2) e) (hf : bz + dz ≤ 40) : Met l yX9_deliveryError wsX9_deliveryError ({ frames := 2, cells := 0, slots := 0, locals := 45 }) (xPre (dC, dI) vwCl [.ref x0] (xtys cI cF cC cZ cQ cS) [(x0, .inr (9, [.ref (o 0), x0_snapshot, x0_trial, x0_history, x0_filling, .ref de, x0_text, x0_textLength, x0_hasSnapshot])), (de, .inr (1, [.int (nI dz), .int (nI dp), .int (nI dd), .ref nq])), (nq, .inl (cQ, 3, .inr (.inr (.inr (.inr (xrow [nr0, nr1, nr2])))))), (nr0, .inl (cI, 16, .inl (R 0))), (nr1, .inl (cI, 16, .inl (R 1))), (nr2, .inl (cI, 16, .inl (R 2))), (o 0, .inr (8, [.ref (o 1), .ref (o 6), o0_orders, o0_stages, o0_log, o0_settings, o0_rebate, o0_day])), (o 1, .inr (3, [.int (nI gz), o1_price, .ref (o 3), o1_listed, o1_list])), (o 3, .inl (cI, 12, .inl (T 2))), (o 6, .inr (0, [.int (nI bz), o6_good, o6_came, o6_left, o6_shelf, o6_sold, o6_given, o6_cents, o6_wasted]))]) (vp_Si (fun r0 => r0 = nI 0)) 0 0 (fun _ => False) := by
  refine Met.ofW (cc := cX9_deliveryError) (maxL := 3) (ret := (some .int)) (by decide) rfl ?_
  intro p e s m args below meth c s₁ B hml hv
  obtain ⟨rfl, hP, hK, hD0, hN⟩ := hv
  have hx := B.exec
  have hb := B.bytes
  have hr := B.returns
  have hts := atoms_spec (ws := wsX9_deliveryError) B.pre
  have hown : s.vm.findClass RX9 = some m.cls := findClass_of_methodNamed B.named
  have hlocks := B.notSynchronized
  have k_12 := hts (Cond.fieldLink RX9 12 "ShelfStages" "now" "LShelfStages$State;") (by decide +kernel)
  have k_129 := hts (Cond.fieldLink RX9 129 "ShelfStages$State" "batches" "LShelfStages$Batches;") (by decide +kernel)
  have k_133 := hts (Cond.fieldLink RX9 133 "ShelfStages$Batches" "size" "I") (by decide +kernel)
  have k_151 := hts (Cond.fieldLink RX9 151 "ShelfStages$Delivery" "size" "I") (by decide +kernel)
  have k_39 := hts (Cond.fieldLink RX9 39 "ShelfStages" "delivery" "LShelfStages$Delivery;") (by decide +kernel)
  have i_X0 : ∀ w ∈ wsX00, w ∈ wsX9_deliveryError := by decide +kernel
  have i_X1 : ∀ w ∈ wsX10, w ∈ wsX9_deliveryError := by decide +kernel
  have i_X8 : ∀ w ∈ wsX80, w ∈ wsX9_deliveryError := by decide +kernel
  have i_X9 : ∀ w ∈ wsX90, w ∈ wsX9_deliveryError := by decide +kernel
  have hD := hD0
  have hl := lv_entry ([.ref x0]) (n := 3) (Nat.le_of_ble_eq_true rfl)
  rw [lg_entry_eq]
  generalize (lg_sl ([.ref x0]) ++ List.replicate (3 - (lg_sl ([.ref x0])).length) Slot.unset).toArray = ls at hl ⊢
  have hl : lv_has ls 3 [(0, .ref x0)] := hl
  refine lv_iconst (v := nI 0) hx hb dX9_deliveryError_0 (by decide) ?_
  refine lv_istore_n (lv' := [(1, .int (nI 0)), (0, .ref x0)]) hx hb dX9_deliveryError_1 rfl hl (by decide) rfl (fun ls hl => ?_)
  refine xr_loop (J := Nat) (fun n0 H locs g => ∃ (k : Nat) (ls : Array Slot), H = s.heap ∧ locs = [] ∧ n0 = (dz + 1) - k ∧ g = F0 m 2 ls [] ∧ lv_has ls 3 [(1, .int (nI k)), (0, .ref x0)] ∧ (k ≤ dz)) (fun n => n) ?_ ((dz + 1) - 0) (g := F0 m 2 ls []) ⟨0, ls, rfl, rfl, rfl, rfl, lv_sub hl [0, 1] rfl, (Nat.zero_le _)⟩
  intro n0 ih_2 H locs g hp
  obtain ⟨k, ls, rfl, rfl, rfl, rfl, hl, hk⟩ := hp
  refine lv_iload_n hx hb dX9_deliveryError_2 rfl (lv_at hl 0 rfl) ?_
  refine lv_aload_n hx hb dX9_deliveryError_3 rfl (lv_at hl 1 rfl) ?_
  refine va_get (D := (dC, dI)) (ci := 9) (v := .ref de) (C := RX9) (T := TX9) (N := 9) hx hb hts i_X9 hown hK hP 0 rfl rfl 5 (by decide) k_39 (fun _ h9 => h9) rfl dX9_deliveryError_4 ?_
  refine va_get (D := (dC, dI)) (ci := 1) (v := .int (nI dz)) (C := RX1) (T := TX1) (N := 4) hx hb hts i_X1 hown hK hP 1 rfl rfl 0 (by decide) k_151 (fun _ h9 => h9) rfl dX9_deliveryError_7 ?_
  refine xr_ge_n (tgt := 36) hx hb (by omega) (by omega) dX9_deliveryError_10 (by decide) (fun c_1 => ?_) (fun c_1 => ?_)
  · skip
    refine lv_iconst (v := nI 0) hx hb dX9_deliveryError_36 (by decide) ?_
    refine lv_istore_n (lv' := [(1, .int (nI 0)), (0, .ref x0)]) hx hb dX9_deliveryError_37 rfl hl (by decide) rfl (fun ls hl => ?_)
    refine xr_loop (J := Nat) (fun n0 H locs g => ∃ (m2 : Nat) (ls : Array Slot), H = s.heap ∧ locs = [] ∧ n0 = (dz + 1) - m2 ∧ g = F0 m 38 ls [] ∧ lv_has ls 3 [(1, .int (nI m2)), (0, .ref x0)] ∧ (m2 ≤ dz)) (fun n => n) ?_ ((dz + 1) - 0) (g := F0 m 38 ls []) ⟨0, ls, rfl, rfl, rfl, rfl, lv_sub hl [0, 1] rfl, (Nat.zero_le _)⟩
    intro n0 ih_38 H locs g hp
    obtain ⟨m2, ls, rfl, rfl, rfl, rfl, hl, hm2⟩ := hp
    refine lv_iload_n hx hb dX9_deliveryError_38 rfl (lv_at hl 0 rfl) ?_
    refine lv_aload_n hx hb dX9_deliveryError_39 rfl (lv_at hl 1 rfl) ?_
    refine va_get (D := (dC, dI)) (ci := 9) (v := .ref de) (C := RX9) (T := TX9) (N := 9) hx hb hts i_X9 hown hK hP 0 rfl rfl 5 (by decide) k_39 (fun _ h9 => h9) rfl dX9_deliveryError_40 ?_
    refine va_get (D := (dC, dI)) (ci := 1) (v := .int (nI dz)) (C := RX1) (T := TX1) (N := 4) hx hb hts i_X1 hown hK hP 1 rfl rfl 0 (by decide) k_151 (fun _ h9 => h9) rfl dX9_deliveryError_43 ?_
    refine xr_ge_n (tgt := 89) hx hb (by omega) (by omega) dX9_deliveryError_46 (by decide) (fun c_2 => ?_) (fun c_2 => ?_)
    · skip
      refine lv_aload_n hx hb dX9_deliveryError_89 rfl (lv_at hl 1 rfl) ?_
      refine va_get (D := (dC, dI)) (ci := 9) (v := .ref (o 0)) (C := RX9) (T := TX9) (N := 9) hx hb hts i_X9 hown hK hP 0 rfl rfl 0 (by decide) k_12 (fun _ h9 => h9) rfl dX9_deliveryError_90 ?_
      refine va_get (D := (dC, dI)) (ci := 8) (v := .ref (o 6)) (C := RX8) (T := TX8) (N := 8) hx hb hts i_X8 hown hK hP 6 rfl rfl 1 (by decide) k_129 (fun _ h9 => h9) rfl dX9_deliveryError_93 ?_
      refine va_get (D := (dC, dI)) (ci := 0) (v := .int (nI bz)) (C := RX0) (T := TX0) (N := 9) hx hb hts i_X0 hown hK hP 9 rfl rfl 0 (by decide) k_133 (fun _ h9 => h9) rfl dX9_deliveryError_96 ?_
      refine lv_aload_n hx hb dX9_deliveryError_99 rfl (lv_at hl 1 rfl) ?_
      refine va_get (D := (dC, dI)) (ci := 9) (v := .ref de) (C := RX9) (T := TX9) (N := 9) hx hb hts i_X9 hown hK hP 0 rfl rfl 5 (by decide) k_39 (fun _ h9 => h9) rfl dX9_deliveryError_100 ?_
      refine va_get (D := (dC, dI)) (ci := 1) (v := .int (nI dz)) (C := RX1) (T := TX1) (N := 4) hx hb hts i_X1 hown hK hP 1 rfl rfl 0 (by decide) k_151 (fun _ h9 => h9) rfl dX9_deliveryError_103 ?_
      refine xr_iadd_n hx hb dX9_deliveryError_106 ?_
      refine lv_bipush (v := nI 40) hx hb dX9_deliveryError_107 (by decide) ?_
      refine xr_le_n (tgt := 117) hx hb (by omega) (by omega) dX9_deliveryError_109 (by decide) (fun c_3 => ?_) (fun c_3 => False.elim (by omega))
      refine lv_iconst (v := nI 0) hx hb dX9_deliveryError_117 (by decide) ?_
      exact W.iret (v := nI 0) hx hb hr (fun t ht hW => ⟨_, rfl, (show nI 0 = nI 0 from rfl), ht⟩) (fun q h => by cases h) dX9_deliveryError_118
    refine lv_aload_n hx hb dX9_deliveryError_49 rfl (lv_at hl 1 rfl) ?_
    refine va_get (D := (dC, dI)) (ci := 9) (v := .ref de) (C := RX9) (T := TX9) (N := 9) hx hb hts i_X9 hown hK hP 0 rfl rfl 5 (by decide) k_39 (fun _ h9 => h9) rfl dX9_deliveryError_50 ?_
    refine lv_iload_n hx hb dX9_deliveryError_53 rfl (lv_at hl 0 rfl) ?_
    refine xkRi (xV (As := [.int (nI m2)]) (rest := []) (wc := [(de, .inr (1, [.int (nI dz), .int (nI dp), .int (nI dd), .ref nq])), (nq, .inl (cQ, 3, .inr (.inr (.inr (.inr (xrow [nr0, nr1, nr2])))))), (nr0, .inl (cI, 16, .inl (R 0)))]) hx hb hml hown hts (c_X1_goodIn l dC dI cI cF cC cZ cQ cS de (.int (nI dz)) (.int (nI dp)) (.int (nI dd)) nq (xrow [nr0, nr1, nr2]) nr0 (R 0) m2 (by omega) rfl) 1 gX9_deliveryError_X1_goodIn rfl rfl rfl hdV_X1_goodIn ⟨Nat.le_of_ble_eq_true rfl, Nat.le_of_ble_eq_true rfl⟩ hN hK hP hD [1, 2, 3] rfl rfl 1 1 rfl rfl rfl hl.1 rfl (Nat.le_of_ble_eq_true rfl) dX9_deliveryError_54 ⟨Nat.zero_le _, Nat.zero_le _⟩) (fun r_4 hr_4 => ?_)
    obtain rfl : r_4 = (R 0) m2 := hr_4
    refine xr_top (show (R 0) m2 = nI (((R 0) m2).toNatClampNeg) from (xhas_idx (hall m2 (by omega)) (by omega)).2) ?_
    refine lv_istore_n (lv' := [(2, .int (nI (((R 0) m2).toNatClampNeg))), (1, .int (nI m2)), (0, .ref x0)]) hx hb dX9_deliveryError_57 rfl hl (by decide) rfl (fun ls hl => ?_)
    refine lv_aload_n hx hb dX9_deliveryError_58 rfl (lv_at hl 2 rfl) ?_
    refine lv_iload_n hx hb dX9_deliveryError_59 rfl (lv_at hl 0 rfl) ?_
    refine lv_aload_n hx hb dX9_deliveryError_60 rfl (lv_at hl 2 rfl) ?_
    refine va_get (D := (dC, dI)) (ci := 9) (v := .ref de) (C := RX9) (T := TX9) (N := 9) hx hb hts i_X9 hown hK hP 0 rfl rfl 5 (by decide) k_39 (fun _ h9 => h9) rfl dX9_deliveryError_61 ?_
    refine lv_iload_n hx hb dX9_deliveryError_64 rfl (lv_at hl 1 rfl) ?_
    refine xkRi (xV (As := [.int (nI m2)]) (rest := [.int (nI (((R 0) m2).toNatClampNeg)), .ref x0]) (wc := [(de, .inr (1, [.int (nI dz), .int (nI dp), .int (nI dd), .ref nq])), (nq, .inl (cQ, 3, .inr (.inr (.inr (.inr (xrow [nr0, nr1, nr2])))))), (nr1, .inl (cI, 16, .inl (R 1)))]) hx hb hml hown hts (c_X1_unitsIn l dC dI cI cF cC cZ cQ cS de (.int (nI dz)) (.int (nI dp)) (.int (nI dd)) nq (xrow [nr0, nr1, nr2]) nr1 (R 1) m2 (by omega) rfl) 1 gX9_deliveryError_X1_unitsIn rfl rfl rfl hdV_X1_unitsIn ⟨Nat.le_of_ble_eq_true rfl, Nat.le_of_ble_eq_true rfl⟩ hN hK hP hD [1, 2, 4] rfl rfl 1 1 rfl rfl rfl hl.1 rfl (Nat.le_of_ble_eq_true rfl) dX9_deliveryError_65 ⟨Nat.zero_le _, Nat.zero_le _⟩) (fun r_5 hr_5 => ?_)
    obtain rfl : r_5 = (R 1) m2 := hr_5
    refine lv_aload_n hx hb dX9_deliveryError_68 rfl (lv_at hl 2 rfl) ?_
    refine lv_iload_n hx hb dX9_deliveryError_69 rfl (lv_at hl 1 rfl) ?_
    refine lv_iload_n hx hb dX9_deliveryError_70 rfl (lv_at hl 0 rfl) ?_
    refine xkRi (xV (As := [.int (nI m2), .int (nI (((R 0) m2).toNatClampNeg))]) (rest := [.int ((R 1) m2), .int (nI (((R 0) m2).toNatClampNeg)), .ref x0]) (wc := [(x0, .inr (9, [.ref (o 0), x0_snapshot, x0_trial, x0_history, x0_filling, .ref de, x0_text, x0_textLength, x0_hasSnapshot])), (de, .inr (1, [.int (nI dz), .int (nI dp), .int (nI dd), .ref nq])), (nq, .inl (cQ, 3, .inr (.inr (.inr (.inr (xrow [nr0, nr1, nr2])))))), (nr0, .inl (cI, 16, .inl (R 0))), (nr1, .inl (cI, 16, .inl (R 1))), (nr2, .inl (cI, 16, .inl (R 2))), (o 0, .inr (8, [.ref (o 1), .ref (o 6), o0_orders, o0_stages, o0_log, o0_settings, o0_rebate, o0_day])), (o 1, .inr (3, [.int (nI gz), o1_price, .ref (o 3), o1_listed, o1_list])), (o 3, .inl (cI, 12, .inl (T 2))), (o 6, .inr (0, [.int (nI bz), o6_good, o6_came, o6_left, o6_shelf, o6_sold, o6_given, o6_cents, o6_wasted]))]) hx hb hml hown hts (c_X9_leftIn l dC dI cI cF cC cZ cQ cS x0 o x0_snapshot x0_trial x0_history x0_filling de x0_text x0_textLength x0_hasSnapshot nq R nr0 nr1 nr2 dz dp dd o0_orders o0_stages o0_log o0_settings o0_rebate o0_day o1_price o1_listed o1_list o6_good o6_came o6_left o6_shelf o6_sold o6_given o6_cents o6_wasted gz bz T m2 (((R 0) m2).toNatClampNeg) (by omega) (Nat.lt_of_lt_of_le (xhas_idx (hall m2 (by omega)) (by omega)).1 hgz)) 2 gX9_deliveryError_X9_leftIn rfl rfl rfl hdV_X9_leftIn ⟨Nat.le_of_ble_eq_true rfl, Nat.le_of_ble_eq_true rfl⟩ hN hK hP hD [0, 1, 2, 3, 4, 5, 6, 7, 8, 9] rfl rfl 9 0 rfl rfl rfl hl.1 rfl (Nat.le_of_ble_eq_true rfl) dX9_deliveryError_71 ⟨Nat.zero_le _, Nat.zero_le _⟩) (fun r_6 hr_6 => ?_)
    obtain rfl : r_6 = xleft (R 2) (T 2) m2 (((R 0) m2).toNatClampNeg) := hr_6
    refine xkRi (xV (As := [.int (nI (((R 0) m2).toNatClampNeg)), .int ((R 1) m2), .int (xleft (R 2) (T 2) m2 (((R 0) m2).toNatClampNeg))]) (rest := []) (wc := [(x0, .inr (9, [.ref (o 0), x0_snapshot, x0_trial, x0_history, x0_filling, .ref de, x0_text, x0_textLength, x0_hasSnapshot])), (o 0, .inr (8, [.ref (o 1), .ref (o 6), o0_orders, o0_stages, o0_log, o0_settings, o0_rebate, o0_day])), (o 1, .inr (3, [.int (nI gz), o1_price, .ref (o 3), o1_listed, o1_list])), (o 3, .inl (cI, 12, .inl (T 2)))]) hx hb hml hown hts (c_X9_isSupply l dC dI cI cF cC cZ cQ cS x0 (o 0) x0_snapshot x0_trial x0_history x0_filling (.ref de) x0_text x0_textLength x0_hasSnapshot (o 1) (.ref (o 6)) o0_orders o0_stages o0_log o0_settings o0_rebate o0_day (.int (nI gz)) o1_price (o 3) o1_listed o1_list (T 2) (((R 0) m2).toNatClampNeg) ((R 1) m2) (xleft (R 2) (T 2) m2 (((R 0) m2).toNatClampNeg)) (Nat.lt_of_lt_of_le (xhas_idx (hall m2 (by omega)) (by omega)).1 hgz)) 3 gX9_deliveryError_X9_isSupply rfl rfl rfl hdV_X9_isSupply ⟨Nat.le_of_ble_eq_true rfl, Nat.le_of_ble_eq_true rfl⟩ hN hK hP hD [0, 6, 7, 8] rfl rfl 9 0 rfl rfl rfl hl.1 rfl (Nat.le_of_ble_eq_true rfl) dX9_deliveryError_74 ⟨Nat.zero_le _, Nat.zero_le _⟩) (fun r_7 hr_7 => ?_)
    have hr_7 : r_7 = (if (nI 1 ≤ ((R 1) m2) ∧ ((R 1) m2) ≤ nI 999) ∧ nI 1 ≤ (xleft (R 2) (T 2) m2 (((R 0) m2).toNatClampNeg)) ∧ (xleft (R 2) (T 2) m2 (((R 0) m2).toNatClampNeg)) ≤ (T 2) (((R 0) m2).toNatClampNeg) then nI 1 else nI 0) := hr_7
    obtain rfl : r_7 = nI 1 := hr_7.trans (if_pos (hsup m2 (by omega)))
    refine xr_ifn1 (tgt := 83) hx hb (by decide) dX9_deliveryError_77 (by decide) ?_
    refine lv_iinc (v := nI (m2 + 1)) (lv' := [(1, .int (nI (m2 + 1))), (2, .int (nI (((R 0) m2).toNatClampNeg))), (0, .ref x0)]) hx hb dX9_deliveryError_83 hl (k := 1) rfl (nI_inc1 m2) (by decide) rfl (fun ls hl => ?_)
    refine lv_goto (tgt := 38) hx hb dX9_deliveryError_86 (by decide) ?_
    exact ih_38 ((dz + 1) - (m2 + 1)) _ _ _ (show (dz + 1) - (m2 + 1) < (dz + 1) - m2 from by omega) ⟨(m2 + 1), ls, rfl, rfl, rfl, rfl, lv_sub hl [0, 2] rfl, (by omega)⟩
  refine lv_aload_n hx hb dX9_deliveryError_13 rfl (lv_at hl 1 rfl) ?_
  refine lv_aload_n hx hb dX9_deliveryError_14 rfl (lv_at hl 1 rfl) ?_
  refine va_get (D := (dC, dI)) (ci := 9) (v := .ref de) (C := RX9) (T := TX9) (N := 9) hx hb hts i_X9 hown hK hP 0 rfl rfl 5 (by decide) k_39 (fun _ h9 => h9) rfl dX9_deliveryError_15 ?_
  refine lv_iload_n hx hb dX9_deliveryError_18 rfl (lv_at hl 0 rfl) ?_
  refine xkRi (xV (As := [.int (nI k)]) (rest := [.ref x0]) (wc := [(de, .inr (1, [.int (nI dz), .int (nI dp), .int (nI dd), .ref nq])), (nq, .inl (cQ, 3, .inr (.inr (.inr (.inr (xrow [nr0, nr1, nr2])))))), (nr0, .inl (cI, 16, .inl (R 0)))]) hx hb hml hown hts (c_X1_goodIn l dC dI cI cF cC cZ cQ cS de (.int (nI dz)) (.int (nI dp)) (.int (nI dd)) nq (xrow [nr0, nr1, nr2]) nr0 (R 0) k (by omega) rfl) 1 gX9_deliveryError_X1_goodIn rfl rfl rfl hdV_X1_goodIn ⟨Nat.le_of_ble_eq_true rfl, Nat.le_of_ble_eq_true rfl⟩ hN hK hP hD [1, 2, 3] rfl rfl 1 1 rfl rfl rfl hl.1 rfl (Nat.le_of_ble_eq_true rfl) dX9_deliveryError_19 ⟨Nat.zero_le _, Nat.zero_le _⟩) (fun r_8 hr_8 => ?_)
  obtain rfl : r_8 = (R 0) k := hr_8
  refine xkRi (xV (As := [.int ((R 0) k)]) (rest := []) (wc := [(x0, .inr (9, [.ref (o 0), x0_snapshot, x0_trial, x0_history, x0_filling, .ref de, x0_text, x0_textLength, x0_hasSnapshot])), (o 0, .inr (8, [.ref (o 1), .ref (o 6), o0_orders, o0_stages, o0_log, o0_settings, o0_rebate, o0_day])), (o 1, .inr (3, [.int (nI gz), o1_price, .ref (o 3), o1_listed, o1_list]))]) hx hb hml hown hts (c_X9_hasGood l dC dI cI cF cC cZ cQ cS x0 (o 0) x0_snapshot x0_trial x0_history x0_filling (.ref de) x0_text x0_textLength x0_hasSnapshot (o 1) (.ref (o 6)) o0_orders o0_stages o0_log o0_settings o0_rebate o0_day gz o1_price (.ref (o 3)) o1_listed o1_list ((R 0) k) (by omega)) 1 gX9_deliveryError_X9_hasGood rfl rfl rfl hdV_X9_hasGood ⟨Nat.le_of_ble_eq_true rfl, Nat.le_of_ble_eq_true rfl⟩ hN hK hP hD [0, 6, 7] rfl rfl 9 0 rfl rfl rfl hl.1 rfl (Nat.le_of_ble_eq_true rfl) dX9_deliveryError_22 ⟨Nat.zero_le _, Nat.zero_le _⟩) (fun r_9 hr_9 => ?_)
  have hr_9 : r_9 = (if xhas ((R 0) k) gz then nI 1 else nI 0) := hr_9
  obtain rfl : r_9 = nI 1 := hr_9.trans (if_pos (hall k (by omega)))
  refine xr_ifn1 (tgt := 30) hx hb (by decide) dX9_deliveryError_25 (by decide) ?_
  refine lv_iinc (v := nI (k + 1)) (lv' := [(1, .int (nI (k + 1))), (0, .ref x0)]) hx hb dX9_deliveryError_30 hl (k := 0) rfl (nI_inc1 k) (by decide) rfl (fun ls hl => ?_)
  refine lv_goto (tgt := 2) hx hb dX9_deliveryError_33 (by decide) ?_
  exact ih_2 ((dz + 1) - (k + 1)) _ _ _ (show (dz + 1) - (k + 1) < (dz + 1) - k from by omega) ⟨(k + 1), ls, rfl, rfl, rfl, rfl, lv_sub hl [0, 1] rfl, (by omega)⟩
