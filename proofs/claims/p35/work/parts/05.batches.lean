theorem hdN_J9_floorMod_7cf53 : yJ9_floorMod_7cf53.cls ≠ "java/lang/invoke/MethodHandle" ∧ yJ9_floorMod_7cf53.cls ≠ "java/lang/invoke/VarHandle" ∧ (parseMethodDescriptor yJ9_floorMod_7cf53.desc).map (fun d => d.parameters.length) = some 2 := by decide +kernel
theorem hdS_J9_floorMod_7cf53 : yJ9_floorMod_7cf53.cls = RJ9 ∧ yJ9_floorMod_7cf53.cls ≠ "java/lang/invoke/MethodHandle" ∧ yJ9_floorMod_7cf53.cls ≠ "java/lang/invoke/VarHandle" ∧ (parseMethodDescriptor yJ9_floorMod_7cf53.desc).map (fun d => d.parameters.length) = some 2 := by decide +kernel
set_option maxHeartbeats 4000000 in
set_option maxRecDepth 100000 in
theorem c_J9_floorMod_7cf53 (l : Launch) (dC : Nat → ClassId) (dI : Nat → Nat → Nat) (cI cF cC cZ cQ cS : ClassId) (a : Int32) (b : Int32) (hb0 : ¬ b = 0) : Met l yJ9_floorMod_7cf53 wsJ9_floorMod_7cf53 ({ frames := 0, cells := 0, slots := 0, locals := 0 }) (xPre (dC, dI) vwCl [.int a, .int b] (xtys cI cF cC cZ cQ cS) []) (vp_Si (fun r0 => r0 = xfmod a b)) 0 0 (fun _ => False) := by
  refine xofWF (cc := cJ9_floorMod_7cf53) (maxL := 3) (ret := (some .int)) (by decide +kernel) rfl ?_
  intro p e s m args below meth c s₁ B hml hv
  obtain ⟨rfl, hP, hK, hD0, hN⟩ := hv
  have hx := B.exec
  have hb := B.bytes
  have hr := B.returns
  have hts := atoms_spec (ws := wsJ9_floorMod_7cf53) B.pre
  have hown : s.vm.findClass RJ9 = some m.cls := findClass_of_methodNamed B.named
  have hlocks := B.notSynchronized
  have hD := hD0
  have hl := lv_entry ([.int a, .int b]) (n := 3) (Nat.le_of_ble_eq_true rfl)
  rw [lg_entry_eq]
  generalize (lg_sl ([.int a, .int b]) ++ List.replicate (3 - (lg_sl ([.int a, .int b])).length) Slot.unset).toArray = ls at hl ⊢
  have hl : lv_has ls 3 [(0, .int a), (1, .int b)] := hl
  refine lv_iload_n hx hb dJ9_floorMod_7cf53_0 rfl (lv_at hl 0 rfl) ?_
  refine lv_iload_n hx hb dJ9_floorMod_7cf53_1 rfl (lv_at hl 1 rfl) ?_
  refine lv_irem hx hb dJ9_floorMod_7cf53_2 (by first | assumption | decide) ?_
  refine lv_istore_n (lv' := [(2, .int (a - a / b * b)), (0, .int a), (1, .int b)]) hx hb dJ9_floorMod_7cf53_3 rfl hl (by decide) rfl (fun ls hl => ?_)
  refine lv_iload_n hx hb dJ9_floorMod_7cf53_4 rfl (lv_at hl 1 rfl) ?_
  refine lv_iload_n hx hb dJ9_floorMod_7cf53_5 rfl (lv_at hl 2 rfl) ?_
  refine lv_ixor hx hb dJ9_floorMod_7cf53_6 ?_
  refine lv_if_ge (tgt := 18) hx hb dJ9_floorMod_7cf53_7 (by decide) (fun c_1 => ?_) (fun c_1 => ?_)
  · skip
    refine lv_iload_n hx hb dJ9_floorMod_7cf53_18 rfl (lv_at hl 0 rfl) ?_
    exact W.iret (v := a - a / b * b) hx hb hr (fun t ht hW => ⟨_, rfl, (show a - a / b * b = xfmod a b from (by unfold xfmod; rw [if_neg (Int32.not_lt.mpr c_1)])), ht⟩) (fun q h => by cases h) dJ9_floorMod_7cf53_19
  refine lv_iload_n hx hb dJ9_floorMod_7cf53_10 rfl (lv_at hl 0 rfl) ?_
  refine lv_if_eq (tgt := 18) hx hb dJ9_floorMod_7cf53_11 (by decide) (fun c_2 => ?_) (fun c_2 => ?_)
  · skip
    refine lv_iload_n hx hb dJ9_floorMod_7cf53_18 rfl (lv_at hl 0 rfl) ?_
    exact W.iret (v := a - a / b * b) hx hb hr (fun t ht hW => ⟨_, rfl, (show a - a / b * b = xfmod a b from (by unfold xfmod; rw [if_pos (Int32.not_le.mp c_1), if_pos c_2])), ht⟩) (fun q h => by cases h) dJ9_floorMod_7cf53_19
  refine lv_iload_n hx hb dJ9_floorMod_7cf53_14 rfl (lv_at hl 0 rfl) ?_
  refine lv_iload_n hx hb dJ9_floorMod_7cf53_15 rfl (lv_at hl 2 rfl) ?_
  refine lv_iadd hx hb dJ9_floorMod_7cf53_16 ?_
  exact W.iret (v := (a - a / b * b) + b) hx hb hr (fun t ht hW => ⟨_, rfl, (show (a - a / b * b) + b = xfmod a b from (by unfold xfmod; rw [if_pos (Int32.not_le.mp c_1), if_neg c_2])), ht⟩) (fun q h => by cases h) dJ9_floorMod_7cf53_17
theorem hdN_X9_within : yX9_within.cls ≠ "java/lang/invoke/MethodHandle" ∧ yX9_within.cls ≠ "java/lang/invoke/VarHandle" ∧ (parseMethodDescriptor yX9_within.desc).map (fun d => d.parameters.length) = some 3 := by decide +kernel
theorem hdS_X9_within : yX9_within.cls = RX9 ∧ yX9_within.cls ≠ "java/lang/invoke/MethodHandle" ∧ yX9_within.cls ≠ "java/lang/invoke/VarHandle" ∧ (parseMethodDescriptor yX9_within.desc).map (fun d => d.parameters.length) = some 3 := by decide +kernel
set_option maxHeartbeats 4000000 in
set_option maxRecDepth 100000 in
theorem c_X9_within (l : Launch) (dC : Nat → ClassId) (dI : Nat → Nat → Nat) (cI cF cC cZ cQ cS : ClassId) (v : Int32) (a : Int32) (b : Int32) : Met l yX9_within wsX9_within ({ frames := 0, cells := 0, slots := 0, locals := 0 }) (xPre (dC, dI) vwCl [.int v, .int a, .int b] (xtys cI cF cC cZ cQ cS) []) (vp_Si (fun r0 => r0 = (if a ≤ v ∧ v ≤ b then nI 1 else nI 0))) 0 0 (fun _ => False) := by
  refine Met.ofW (cc := cX9_within) (maxL := 3) (ret := (some .boolean)) (by decide) rfl ?_
  intro p e s m args below meth c s₁ B hml hv
  obtain ⟨rfl, hP, hK, hD0, hN⟩ := hv
  have hx := B.exec
  have hb := B.bytes
  have hr := B.returns
  have hts := atoms_spec (ws := wsX9_within) B.pre
  have hown : s.vm.findClass RX9 = some m.cls := findClass_of_methodNamed B.named
  have hlocks := B.notSynchronized
  have hD := hD0
  have hl := lv_entry ([.int v, .int a, .int b]) (n := 3) (Nat.le_of_ble_eq_true rfl)
  rw [lg_entry_eq]
  generalize (lg_sl ([.int v, .int a, .int b]) ++ List.replicate (3 - (lg_sl ([.int v, .int a, .int b])).length) Slot.unset).toArray = ls at hl ⊢
  have hl : lv_has ls 3 [(0, .int v), (1, .int a), (2, .int b)] := hl
  refine lv_iload_n hx hb dX9_within_0 rfl (lv_at hl 0 rfl) ?_
  refine lv_iload_n hx hb dX9_within_1 rfl (lv_at hl 1 rfl) ?_
  refine lv_icmp_lt (tgt := 14) hx hb dX9_within_2 (by decide) (fun c_1 => ?_) (fun c_1 => ?_)
  · skip
    refine lv_iconst (v := nI 0) hx hb dX9_within_14 (by decide) ?_
    exact W.zret (v := nI 0) hx hb hr rfl (fun t ht hW => ⟨_, rfl, (show nI 0 = (if a ≤ v ∧ v ≤ b then nI 1 else nI 0) from (by rw [if_neg]; simp only [Int32.lt_iff_toInt_lt, Int32.le_iff_toInt_le] at c_1 ⊢; omega)), ht⟩) (fun q h => by cases h) dX9_within_15
  refine lv_iload_n hx hb dX9_within_5 rfl (lv_at hl 0 rfl) ?_
  refine lv_iload_n hx hb dX9_within_6 rfl (lv_at hl 2 rfl) ?_
  refine lv_icmp_gt (tgt := 14) hx hb dX9_within_7 (by decide) (fun c_2 => ?_) (fun c_2 => ?_)
  · skip
    refine lv_iconst (v := nI 0) hx hb dX9_within_14 (by decide) ?_
    exact W.zret (v := nI 0) hx hb hr rfl (fun t ht hW => ⟨_, rfl, (show nI 0 = (if a ≤ v ∧ v ≤ b then nI 1 else nI 0) from (by rw [if_neg]; simp only [Int32.lt_iff_toInt_lt, Int32.le_iff_toInt_le] at c_1 c_2 ⊢; omega)), ht⟩) (fun q h => by cases h) dX9_within_15
  refine lv_iconst (v := nI 1) hx hb dX9_within_10 (by decide) ?_
  refine lv_goto (tgt := 15) hx hb dX9_within_11 (by decide) ?_
  exact W.zret (v := nI 1) hx hb hr rfl (fun t ht hW => ⟨_, rfl, (show nI 1 = (if a ≤ v ∧ v ≤ b then nI 1 else nI 0) from (by rw [if_pos]; simp only [Int32.lt_iff_toInt_lt, Int32.le_iff_toInt_le] at c_1 c_2 ⊢; omega)), ht⟩) (fun q h => by cases h) dX9_within_15
theorem hdN_X9_copyRow : yX9_copyRow.cls ≠ "java/lang/invoke/MethodHandle" ∧ yX9_copyRow.cls ≠ "java/lang/invoke/VarHandle" ∧ (parseMethodDescriptor yX9_copyRow.desc).map (fun d => d.parameters.length) = some 2 := by decide +kernel
theorem hdS_X9_copyRow : yX9_copyRow.cls = RX9 ∧ yX9_copyRow.cls ≠ "java/lang/invoke/MethodHandle" ∧ yX9_copyRow.cls ≠ "java/lang/invoke/VarHandle" ∧ (parseMethodDescriptor yX9_copyRow.desc).map (fun d => d.parameters.length) = some 2 := by decide +kernel
set_option maxHeartbeats 4000000 in
set_option maxRecDepth 100000 in
theorem c_X9_copyRow (l : Launch) (dC : Nat → ClassId) (dI : Nat → Nat → Nat) (cI cF cC cZ cQ cS : ClassId) (fa : Nat) (f : Nat → Int32) (ta : Nat) (g : Nat → Int32) (N : Nat) (hNb : N < 2 ^ 31) : Met l yX9_copyRow wsX9_copyRow ({ frames := 1, cells := 0, slots := 0, locals := 40 }) (xPre (dC, dI) vwCl [.ref fa, .ref ta] (xtys cI cF cC cZ cQ cS) [(fa, .inl (cI, N, .inl f)), (ta, .inl (cI, N, .inl g))]) (xWv (dC, dI) vwCl [(fa, .inl (cI, N, .inl f)), (ta, .inl (cI, N, .inl g))] (fun w0 => w0 = [(fa, .inl (cI, N, .inl f)), (ta, .inl (cI, N, .inl f))])) 0 0 (va_B [(fa, .inl (cI, N, .inl f)), (ta, .inl (cI, N, .inl g))]) := by
  refine Met.ofW (cc := cX9_copyRow) (maxL := 2) (ret := none) (by decide) rfl ?_
  intro p e s m args below meth c s₁ B hml hv
  obtain ⟨rfl, hP, hK, hD0, hN⟩ := hv
  have hx := B.exec
  have hb := B.bytes
  have hr := B.returns
  have hts := atoms_spec (ws := wsX9_copyRow) B.pre
  have hown : s.vm.findClass RX9 = some m.cls := findClass_of_methodNamed B.named
  have hlocks := B.notSynchronized
  have ka := hts (Cond.methodLink RX9 362 arraycopyName) (by decide +kernel)
  have kaI := hts (Cond.initialized "java/lang/System") (by decide +kernel)
  have kaN := hts (Cond.native arraycopyName) (by decide +kernel)
  have kaS := hts (Cond.static arraycopyName) (by decide +kernel)
  have kmC := hts (Cond.code Lib.Math.min.name Lib.Math.min.code 2 (some .int)) (by decide +kernel)
  have kmI := hts (Cond.initialized "java/lang/Math") (by decide +kernel)
  have kmS := hts (Cond.static Lib.Math.min.name) (by decide +kernel)
  have km_357 := hts (Cond.methodLink RX9 357 Lib.Math.min.name) (by decide +kernel)
  obtain ⟨A, hA⟩ : ∃ A, A = va_B [(fa, .inl (cI, N, .inl f)), (ta, .inl (cI, N, .inl g))] := ⟨_, rfl⟩
  have hD : va_D A [(fa, .inl (cI, N, .inl f)), (ta, .inl (cI, N, .inl g))] := hA ▸ hD0.own
  have hS : va_S A s.heap s.heap [] := va_S.rf
  have hl := lv_entry ([.ref fa, .ref ta]) (n := 2) (Nat.le_of_ble_eq_true rfl)
  rw [lg_entry_eq]
  generalize (lg_sl ([.ref fa, .ref ta]) ++ List.replicate (2 - (lg_sl ([.ref fa, .ref ta])).length) Slot.unset).toArray = ls at hl ⊢
  have hl : lv_has ls 2 [(0, .ref fa), (1, .ref ta)] := hl
  refine lv_aload_n hx hb dX9_copyRow_0 rfl (lv_at hl 0 rfl) ?_
  refine lv_iconst (v := nI 0) hx hb dX9_copyRow_1 (by decide) ?_
  refine lv_aload_n hx hb dX9_copyRow_2 rfl (lv_at hl 1 rfl) ?_
  refine lv_iconst (v := nI 0) hx hb dX9_copyRow_3 (by decide) ?_
  refine lv_aload_n hx hb dX9_copyRow_4 rfl (lv_at hl 0 rfl) ?_
  refine va_alen hx hb hK hP 0 0 rfl rfl (v := nI N) rfl dX9_copyRow_5 ?_
  refine lv_aload_n hx hb dX9_copyRow_6 rfl (lv_at hl 1 rfl) ?_
  refine va_alen hx hb hK hP 1 0 rfl rfl (v := nI N) rfl dX9_copyRow_7 ?_
  refine va_mmin hx hb (by rw [hml]; exact hl.1.symm) hown km_357 kmS kmI kmC (Nat.le_of_ble_eq_true rfl) (Nat.le_of_ble_eq_true rfl) (Nat.zero_le _) (Nat.zero_le _) dX9_copyRow_8 ?_
  refine xr_top (nI_min (by omega) (by omega)) ?_
  refine va_copyi hx hb (by rw [hml]; exact hl.1.symm) hown ka kaN kaS kaI hK hP hD hS 0 1 0 0 rfl rfl rfl rfl rfl (by decide) (by decide) (nI_pos (by omega)) (by rw [show (nI 0).toNatClampNeg = 0 from rfl, nI_clamp (by omega)]; omega) (by rw [show (nI 0).toNatClampNeg = 0 from rfl, nI_clamp (by omega)]; omega) (fun i _ => rfl) (Nat.le_of_ble_eq_true rfl) (Nat.le_of_ble_eq_true rfl) dX9_copyRow_11 (fun H locs hP hD hS => ?_)
  rw [show (nI 0).toNatClampNeg = 0 from rfl, nI_clamp (by omega)] at hP hD
  have hP : va_P (dC, dI) vwCl [(fa, .inl (cI, N, .inl f)), (ta, .inl (cI, N, .inl (va_cpy f g 0 0 (min N N))))] H := hP
  have hD : va_D A [(fa, .inl (cI, N, .inl f)), (ta, .inl (cI, N, .inl (va_cpy f g 0 0 (min N N))))] := hD
  have hP := xP_arr hP 1 rfl (f := f) (fun k hk => by unfold va_cpy; rw [if_pos (by omega)]; congr 1; omega)
  have hP : va_P (dC, dI) vwCl [(fa, .inl (cI, N, .inl f)), (ta, .inl (cI, N, .inl f))] H := hP
  have hP9 : va_P (dC, dI) vwCl [(fa, .inl (cI, N, .inl f)), (ta, .inl (cI, N, .inl f))] H := hP
  have hS9 : va_S (va_B [(fa, .inl (cI, N, .inl f)), (ta, .inl (cI, N, .inl g))]) s.heap H locs := by rw [← hA]; exact hS
  exact W.vret hx hb hr (fun t ht hW => ⟨⟨_, rfl, rfl, by rw [ht]; exact hP9⟩, hS9.X ht⟩) hS9.2.2 dX9_copyRow_14
theorem hdV_X0_sum : yX0_sum.cls = RX0 ∧ yX0_sum.cls ≠ "java/lang/invoke/MethodHandle" ∧ yX0_sum.cls ≠ "java/lang/invoke/VarHandle" ∧ (parseMethodDescriptor yX0_sum.desc).map (fun d => d.parameters.length) = some 1 := by decide +kernel
set_option maxHeartbeats 4000000 in
set_option maxRecDepth 100000 in
theorem c_X0_sum (l : Launch) (dC : Nat → ClassId) (dI : Nat → Nat → Nat) (cI cF cC cZ cQ cS : ClassId) (h0 : Nat) (h0_good : Value) (h0_came : Value) (h0_left : Value) (h0_shelf : Value) (h0_sold : Value) (h0_given : Value) (h0_cents : Value) (h0_wasted : Value) (ra : Nat) (row : Nat → Int32) (n : Nat) (hn : n ≤ 40) : Met l yX0_sum wsX0_sum ({ frames := 0, cells := 0, slots := 0, locals := 0 }) (xPre (dC, dI) vwCl [.ref h0, .ref ra] (xtys cI cF cC cZ cQ cS) [(h0, .inr (0, [.int (nI n), h0_good, h0_came, h0_left, h0_shelf, h0_sold, h0_given, h0_cents, h0_wasted])), (ra, .inl (cI, 40, .inl row))]) (vp_Si (fun r0 => r0 = xsum row n)) 0 0 (fun _ => False) := by
  refine Met.ofW (cc := cX0_sum) (maxL := 4) (ret := (some .int)) (by decide) rfl ?_
  intro p e s m args below meth c s₁ B hml hv
  obtain ⟨rfl, hP, hK, hD0, hN⟩ := hv
  have hx := B.exec
  have hb := B.bytes
  have hr := B.returns
  have hts := atoms_spec (ws := wsX0_sum) B.pre
  have hown : s.vm.findClass RX0 = some m.cls := findClass_of_methodNamed B.named
  have hlocks := B.notSynchronized
  have k_38 := hts (Cond.fieldLink RX0 38 "ShelfStages$Batches" "size" "I") (by decide +kernel)
  have i_X0 : ∀ w ∈ wsX00, w ∈ wsX0_sum := by decide +kernel
  have hD := hD0
  have hl := lv_entry ([.ref h0, .ref ra]) (n := 4) (Nat.le_of_ble_eq_true rfl)
  rw [lg_entry_eq]
  generalize (lg_sl ([.ref h0, .ref ra]) ++ List.replicate (4 - (lg_sl ([.ref h0, .ref ra])).length) Slot.unset).toArray = ls at hl ⊢
  have hl : lv_has ls 4 [(0, .ref h0), (1, .ref ra)] := hl
  refine lv_iconst (v := nI 0) hx hb dX0_sum_0 (by decide) ?_
  refine lv_istore_n (lv' := [(2, .int (nI 0)), (0, .ref h0), (1, .ref ra)]) hx hb dX0_sum_1 rfl hl (by decide) rfl (fun ls hl => ?_)
  refine lv_iconst (v := nI 0) hx hb dX0_sum_2 (by decide) ?_
  refine lv_istore_n (lv' := [(3, .int (nI 0)), (2, .int (nI 0)), (0, .ref h0), (1, .ref ra)]) hx hb dX0_sum_3 rfl hl (by decide) rfl (fun ls hl => ?_)
  refine xr_loop (J := Nat) (fun n0 H locs g => ∃ (k : Nat) (acc : Int32) (ls : Array Slot), H = s.heap ∧ locs = [] ∧ n0 = n - k ∧ g = F0 m 4 ls [] ∧ lv_has ls 4 [(3, .int (nI k)), (2, .int acc), (0, .ref h0), (1, .ref ra)] ∧ (k ≤ n) ∧ (acc = xsum row k)) (fun n => n) ?_ (n - 0) (g := F0 m 4 ls []) ⟨0, (nI 0), ls, rfl, rfl, rfl, rfl, lv_sub hl [0, 1, 2, 3] rfl, (Nat.zero_le _), rfl⟩
  intro n0 ih_4 H locs g hp
  obtain ⟨k, acc, ls, rfl, rfl, rfl, rfl, hl, hk, hac⟩ := hp
  refine lv_iload_n hx hb dX0_sum_4 rfl (lv_at hl 0 rfl) ?_
  refine lv_aload_n hx hb dX0_sum_5 rfl (lv_at hl 2 rfl) ?_
  refine va_get (D := (dC, dI)) (ci := 0) (v := .int (nI n)) (C := RX0) (T := TX0) (N := 9) hx hb hts i_X0 hown hK hP 0 rfl rfl 0 (by decide) k_38 (fun _ h9 => h9) rfl dX0_sum_6 ?_
  refine xr_ge_n (tgt := 24) hx hb (by omega) (by omega) dX0_sum_9 (by decide) (fun c_1 => ?_) (fun c_1 => ?_)
  · skip
    refine lv_iload_n hx hb dX0_sum_24 rfl (lv_at hl 1 rfl) ?_
    exact W.iret (v := acc) hx hb hr (fun t ht hW => ⟨_, rfl, (show acc = xsum row n from (by rw [hac, show k = n from by omega])), ht⟩) (fun q h => by cases h) dX0_sum_25
  refine lv_iload_n hx hb dX0_sum_12 rfl (lv_at hl 1 rfl) ?_
  refine lv_aload_n hx hb dX0_sum_13 rfl (lv_at hl 3 rfl) ?_
  refine lv_iload_n hx hb dX0_sum_14 rfl (lv_at hl 0 rfl) ?_
  refine xr_iald hx hb hK hP 1 0 rfl rfl (i := k) (by omega) (by decide) dX0_sum_15 ?_
  refine lv_iadd hx hb dX0_sum_16 ?_
  refine lv_istore_n (lv' := [(2, .int (acc + (row k))), (3, .int (nI k)), (0, .ref h0), (1, .ref ra)]) hx hb dX0_sum_17 rfl hl (by decide) rfl (fun ls hl => ?_)
  refine lv_iinc (v := nI (k + 1)) (lv' := [(3, .int (nI (k + 1))), (2, .int (acc + (row k))), (0, .ref h0), (1, .ref ra)]) hx hb dX0_sum_18 hl (k := 1) rfl (nI_inc1 k) (by decide) rfl (fun ls hl => ?_)
  refine lv_goto (tgt := 4) hx hb dX0_sum_21 (by decide) ?_
  exact ih_4 (n - (k + 1)) _ _ _ (show n - (k + 1) < n - k from by omega) ⟨(k + 1), (acc + (row k)), ls, rfl, rfl, rfl, rfl, lv_sub hl [0, 1, 2, 3] rfl, (by omega), (by rw [hac]; rfl)⟩
theorem hdV_X0_sumOfGood : yX0_sumOfGood.cls = RX0 ∧ yX0_sumOfGood.cls ≠ "java/lang/invoke/MethodHandle" ∧ yX0_sumOfGood.cls ≠ "java/lang/invoke/VarHandle" ∧ (parseMethodDescriptor yX0_sumOfGood.desc).map (fun d => d.parameters.length) = some 2 := by decide +kernel
set_option maxHeartbeats 4000000 in
set_option maxRecDepth 100000 in
theorem c_X0_sumOfGood (l : Launch) (dC : Nat → ClassId) (dI : Nat → Nat → Nat) (cI cF cC cZ cQ cS : ClassId) (h0 : Nat) (gq : Nat) (h0_came : Value) (h0_left : Value) (h0_shelf : Value) (h0_sold : Value) (h0_given : Value) (h0_cents : Value) (h0_wasted : Value) (ra : Nat) (row : Nat → Int32) (good : Nat → Int32) (n : Nat) (w : Int32) (hn : n ≤ 40) : Met l yX0_sumOfGood wsX0_sumOfGood ({ frames := 0, cells := 0, slots := 0, locals := 0 }) (xPre (dC, dI) vwCl [.ref h0, .ref ra, .int w] (xtys cI cF cC cZ cQ cS) [(h0, .inr (0, [.int (nI n), .ref gq, h0_came, h0_left, h0_shelf, h0_sold, h0_given, h0_cents, h0_wasted])), (ra, .inl (cI, 40, .inl row)), (gq, .inl (cI, 40, .inl good))]) (vp_Si (fun r0 => r0 = xsumIf good w row n)) 0 0 (fun _ => False) := by
  refine Met.ofW (cc := cX0_sumOfGood) (maxL := 5) (ret := (some .int)) (by decide) rfl ?_
  intro p e s m args below meth c s₁ B hml hv
  obtain ⟨rfl, hP, hK, hD0, hN⟩ := hv
  have hx := B.exec
  have hb := B.bytes
  have hr := B.returns
  have hts := atoms_spec (ws := wsX0_sumOfGood) B.pre
  have hown : s.vm.findClass RX0 = some m.cls := findClass_of_methodNamed B.named
  have hlocks := B.notSynchronized
  have k_38 := hts (Cond.fieldLink RX0 38 "ShelfStages$Batches" "size" "I") (by decide +kernel)
  have k_9 := hts (Cond.fieldLink RX0 9 "ShelfStages$Batches" "good" "[I") (by decide +kernel)
  have i_X0 : ∀ w ∈ wsX00, w ∈ wsX0_sumOfGood := by decide +kernel
  have hD := hD0
  have hl := lv_entry ([.ref h0, .ref ra, .int w]) (n := 5) (Nat.le_of_ble_eq_true rfl)
  rw [lg_entry_eq]
  generalize (lg_sl ([.ref h0, .ref ra, .int w]) ++ List.replicate (5 - (lg_sl ([.ref h0, .ref ra, .int w])).length) Slot.unset).toArray = ls at hl ⊢
  have hl : lv_has ls 5 [(0, .ref h0), (1, .ref ra), (2, .int w)] := hl
  refine lv_iconst (v := nI 0) hx hb dX0_sumOfGood_0 (by decide) ?_
  refine lv_istore_n (lv' := [(3, .int (nI 0)), (0, .ref h0), (1, .ref ra), (2, .int w)]) hx hb dX0_sumOfGood_1 rfl hl (by decide) rfl (fun ls hl => ?_)
  refine lv_iconst (v := nI 0) hx hb dX0_sumOfGood_2 (by decide) ?_
  refine lv_istore (lv' := [(4, .int (nI 0)), (3, .int (nI 0)), (0, .ref h0), (1, .ref ra), (2, .int w)]) hx hb dX0_sumOfGood_3 hl (by decide) rfl (fun ls hl => ?_)
  refine xr_loop (J := Nat) (fun n0 H locs g => ∃ (k : Nat) (acc : Int32) (ls : Array Slot), H = s.heap ∧ locs = [] ∧ n0 = n - k ∧ g = F0 m 5 ls [] ∧ lv_has ls 5 [(4, .int (nI k)), (3, .int acc), (0, .ref h0), (1, .ref ra), (2, .int w)] ∧ (k ≤ n) ∧ (acc = xsumIf good w row k)) (fun n => n) ?_ (n - 0) (g := F0 m 5 ls []) ⟨0, (nI 0), ls, rfl, rfl, rfl, rfl, lv_sub hl [0, 1, 2, 3, 4] rfl, (Nat.zero_le _), rfl⟩
  intro n0 ih_5 H locs g hp
  obtain ⟨k, acc, ls, rfl, rfl, rfl, rfl, hl, hk, hac⟩ := hp
  refine lv_iload hx hb dX0_sumOfGood_5 (lv_at hl 0 rfl) ?_
  refine lv_aload_n hx hb dX0_sumOfGood_7 rfl (lv_at hl 2 rfl) ?_
  refine va_get (D := (dC, dI)) (ci := 0) (v := .int (nI n)) (C := RX0) (T := TX0) (N := 9) hx hb hts i_X0 hown hK hP 0 rfl rfl 0 (by decide) k_38 (fun _ h9 => h9) rfl dX0_sumOfGood_8 ?_
  refine xr_ge_n (tgt := 38) hx hb (by omega) (by omega) dX0_sumOfGood_11 (by decide) (fun c_1 => ?_) (fun c_1 => ?_)
  · skip
    refine lv_iload_n hx hb dX0_sumOfGood_38 rfl (lv_at hl 1 rfl) ?_
    exact W.iret (v := acc) hx hb hr (fun t ht hW => ⟨_, rfl, (show acc = xsumIf good w row n from (by rw [hac, show k = n from by omega])), ht⟩) (fun q h => by cases h) dX0_sumOfGood_39
  refine lv_aload_n hx hb dX0_sumOfGood_14 rfl (lv_at hl 2 rfl) ?_
  refine va_get (D := (dC, dI)) (ci := 0) (v := .ref gq) (C := RX0) (T := TX0) (N := 9) hx hb hts i_X0 hown hK hP 0 rfl rfl 1 (by decide) k_9 (fun _ h9 => h9) rfl dX0_sumOfGood_15 ?_
  refine lv_iload hx hb dX0_sumOfGood_18 (lv_at hl 0 rfl) ?_
  refine xr_iald hx hb hK hP 2 0 rfl rfl (i := k) (by omega) (by decide) dX0_sumOfGood_20 ?_
  refine lv_iload_n hx hb dX0_sumOfGood_21 rfl (lv_at hl 4 rfl) ?_
  refine lv_icmp_ne (tgt := 32) hx hb dX0_sumOfGood_22 (by decide) (fun c_2 => ?_) (fun c_2 => ?_)
  · skip
    refine lv_iinc (v := nI (k + 1)) (lv' := [(4, .int (nI (k + 1))), (3, .int acc), (0, .ref h0), (1, .ref ra), (2, .int w)]) hx hb dX0_sumOfGood_32 hl (k := 0) rfl (nI_inc1 k) (by decide) rfl (fun ls hl => ?_)
    refine lv_goto (tgt := 5) hx hb dX0_sumOfGood_35 (by decide) ?_
    exact ih_5 (n - (k + 1)) _ _ _ (show n - (k + 1) < n - k from by omega) ⟨(k + 1), acc, ls, rfl, rfl, rfl, rfl, lv_sub hl [0, 1, 2, 3, 4] rfl, (by omega), (by rw [hac]; exact (if_neg c_2).symm)⟩
  refine lv_iload_n hx hb dX0_sumOfGood_25 rfl (lv_at hl 1 rfl) ?_
  refine lv_aload_n hx hb dX0_sumOfGood_26 rfl (lv_at hl 3 rfl) ?_
  refine lv_iload hx hb dX0_sumOfGood_27 (lv_at hl 0 rfl) ?_
  refine xr_iald hx hb hK hP 1 0 rfl rfl (i := k) (by omega) (by decide) dX0_sumOfGood_29 ?_
  refine lv_iadd hx hb dX0_sumOfGood_30 ?_
  refine lv_istore_n (lv' := [(3, .int (acc + (row k))), (4, .int (nI k)), (0, .ref h0), (1, .ref ra), (2, .int w)]) hx hb dX0_sumOfGood_31 rfl hl (by decide) rfl (fun ls hl => ?_)
  refine lv_iinc (v := nI (k + 1)) (lv' := [(4, .int (nI (k + 1))), (3, .int (acc + (row k))), (0, .ref h0), (1, .ref ra), (2, .int w)]) hx hb dX0_sumOfGood_32 hl (k := 1) rfl (nI_inc1 k) (by decide) rfl (fun ls hl => ?_)
  refine lv_goto (tgt := 5) hx hb dX0_sumOfGood_35 (by decide) ?_
  exact ih_5 (n - (k + 1)) _ _ _ (show n - (k + 1) < n - k from by omega) ⟨(k + 1), (acc + (row k)), ls, rfl, rfl, rfl, rfl, lv_sub hl [0, 1, 2, 3, 4] rfl, (by omega), (by rw [hac]; exact (if_pos c_2).symm)⟩
theorem hdV_X0_countOfGood : yX0_countOfGood.cls = RX0 ∧ yX0_countOfGood.cls ≠ "java/lang/invoke/MethodHandle" ∧ yX0_countOfGood.cls ≠ "java/lang/invoke/VarHandle" ∧ (parseMethodDescriptor yX0_countOfGood.desc).map (fun d => d.parameters.length) = some 1 := by decide +kernel
set_option maxHeartbeats 4000000 in
set_option maxRecDepth 100000 in
theorem c_X0_countOfGood (l : Launch) (dC : Nat → ClassId) (dI : Nat → Nat → Nat) (cI cF cC cZ cQ cS : ClassId) (h0 : Nat) (gq : Nat) (h0_came : Value) (h0_left : Value) (h0_shelf : Value) (h0_sold : Value) (h0_given : Value) (h0_cents : Value) (h0_wasted : Value) (good : Nat → Int32) (n : Nat) (w : Int32) (hn : n ≤ 40) : Met l yX0_countOfGood wsX0_countOfGood ({ frames := 0, cells := 0, slots := 0, locals := 0 }) (xPre (dC, dI) vwCl [.ref h0, .int w] (xtys cI cF cC cZ cQ cS) [(h0, .inr (0, [.int (nI n), .ref gq, h0_came, h0_left, h0_shelf, h0_sold, h0_given, h0_cents, h0_wasted])), (gq, .inl (cI, 40, .inl good))]) (vp_Si (fun r0 => r0 = xcnt good w n)) 0 0 (fun _ => False) := by
  refine Met.ofW (cc := cX0_countOfGood) (maxL := 4) (ret := (some .int)) (by decide) rfl ?_
  intro p e s m args below meth c s₁ B hml hv
  obtain ⟨rfl, hP, hK, hD0, hN⟩ := hv
  have hx := B.exec
  have hb := B.bytes
  have hr := B.returns
  have hts := atoms_spec (ws := wsX0_countOfGood) B.pre
  have hown : s.vm.findClass RX0 = some m.cls := findClass_of_methodNamed B.named
  have hlocks := B.notSynchronized
  have k_38 := hts (Cond.fieldLink RX0 38 "ShelfStages$Batches" "size" "I") (by decide +kernel)
  have k_9 := hts (Cond.fieldLink RX0 9 "ShelfStages$Batches" "good" "[I") (by decide +kernel)
  have i_X0 : ∀ w ∈ wsX00, w ∈ wsX0_countOfGood := by decide +kernel
  have hD := hD0
  have hl := lv_entry ([.ref h0, .int w]) (n := 4) (Nat.le_of_ble_eq_true rfl)
  rw [lg_entry_eq]
  generalize (lg_sl ([.ref h0, .int w]) ++ List.replicate (4 - (lg_sl ([.ref h0, .int w])).length) Slot.unset).toArray = ls at hl ⊢
  have hl : lv_has ls 4 [(0, .ref h0), (1, .int w)] := hl
  refine lv_iconst (v := nI 0) hx hb dX0_countOfGood_0 (by decide) ?_
  refine lv_istore_n (lv' := [(2, .int (nI 0)), (0, .ref h0), (1, .int w)]) hx hb dX0_countOfGood_1 rfl hl (by decide) rfl (fun ls hl => ?_)
  refine lv_iconst (v := nI 0) hx hb dX0_countOfGood_2 (by decide) ?_
  refine lv_istore_n (lv' := [(3, .int (nI 0)), (2, .int (nI 0)), (0, .ref h0), (1, .int w)]) hx hb dX0_countOfGood_3 rfl hl (by decide) rfl (fun ls hl => ?_)
  refine xr_loop (J := Nat) (fun n0 H locs g => ∃ (k : Nat) (acc : Int32) (ls : Array Slot), H = s.heap ∧ locs = [] ∧ n0 = n - k ∧ g = F0 m 4 ls [] ∧ lv_has ls 4 [(3, .int (nI k)), (2, .int acc), (0, .ref h0), (1, .int w)] ∧ (k ≤ n) ∧ (acc = xcnt good w k)) (fun n => n) ?_ (n - 0) (g := F0 m 4 ls []) ⟨0, (nI 0), ls, rfl, rfl, rfl, rfl, lv_sub hl [0, 1, 2, 3] rfl, (Nat.zero_le _), rfl⟩
  intro n0 ih_4 H locs g hp
  obtain ⟨k, acc, ls, rfl, rfl, rfl, rfl, hl, hk, hac⟩ := hp
  refine lv_iload_n hx hb dX0_countOfGood_4 rfl (lv_at hl 0 rfl) ?_
  refine lv_aload_n hx hb dX0_countOfGood_5 rfl (lv_at hl 2 rfl) ?_
  refine va_get (D := (dC, dI)) (ci := 0) (v := .int (nI n)) (C := RX0) (T := TX0) (N := 9) hx hb hts i_X0 hown hK hP 0 rfl rfl 0 (by decide) k_38 (fun _ h9 => h9) rfl dX0_countOfGood_6 ?_
  refine xr_ge_n (tgt := 31) hx hb (by omega) (by omega) dX0_countOfGood_9 (by decide) (fun c_1 => ?_) (fun c_1 => ?_)
  · skip
    refine lv_iload_n hx hb dX0_countOfGood_31 rfl (lv_at hl 1 rfl) ?_
    exact W.iret (v := acc) hx hb hr (fun t ht hW => ⟨_, rfl, (show acc = xcnt good w n from (by rw [hac, show k = n from by omega])), ht⟩) (fun q h => by cases h) dX0_countOfGood_32
  refine lv_aload_n hx hb dX0_countOfGood_12 rfl (lv_at hl 2 rfl) ?_
  refine va_get (D := (dC, dI)) (ci := 0) (v := .ref gq) (C := RX0) (T := TX0) (N := 9) hx hb hts i_X0 hown hK hP 0 rfl rfl 1 (by decide) k_9 (fun _ h9 => h9) rfl dX0_countOfGood_13 ?_
  refine lv_iload_n hx hb dX0_countOfGood_16 rfl (lv_at hl 0 rfl) ?_
  refine xr_iald hx hb hK hP 1 0 rfl rfl (i := k) (by omega) (by decide) dX0_countOfGood_17 ?_
  refine lv_iload_n hx hb dX0_countOfGood_18 rfl (lv_at hl 3 rfl) ?_
  refine lv_icmp_ne (tgt := 25) hx hb dX0_countOfGood_19 (by decide) (fun c_2 => ?_) (fun c_2 => ?_)
  · skip
    refine lv_iinc (v := nI (k + 1)) (lv' := [(3, .int (nI (k + 1))), (2, .int acc), (0, .ref h0), (1, .int w)]) hx hb dX0_countOfGood_25 hl (k := 0) rfl (nI_inc1 k) (by decide) rfl (fun ls hl => ?_)
    refine lv_goto (tgt := 4) hx hb dX0_countOfGood_28 (by decide) ?_
    exact ih_4 (n - (k + 1)) _ _ _ (show n - (k + 1) < n - k from by omega) ⟨(k + 1), acc, ls, rfl, rfl, rfl, rfl, lv_sub hl [0, 1, 2, 3] rfl, (by omega), (by rw [hac]; exact (if_neg c_2).symm)⟩
  refine lv_iinc (v := acc + nI 1) (lv' := [(2, .int (acc + nI 1)), (3, .int (nI k)), (0, .ref h0), (1, .int w)]) hx hb dX0_countOfGood_22 hl (k := 1) rfl (xi_inc acc) (by decide) rfl (fun ls hl => ?_)
  refine lv_iinc (v := nI (k + 1)) (lv' := [(3, .int (nI (k + 1))), (2, .int (acc + nI 1)), (0, .ref h0), (1, .int w)]) hx hb dX0_countOfGood_25 hl (k := 1) rfl (nI_inc1 k) (by decide) rfl (fun ls hl => ?_)
  refine lv_goto (tgt := 4) hx hb dX0_countOfGood_28 (by decide) ?_
  exact ih_4 (n - (k + 1)) _ _ _ (show n - (k + 1) < n - k from by omega) ⟨(k + 1), (acc + nI 1), ls, rfl, rfl, rfl, rfl, lv_sub hl [0, 1, 2, 3] rfl, (by omega), (by rw [hac]; exact (if_pos c_2).symm)⟩
theorem hdV_X0_append : yX0_append.cls = RX0 ∧ yX0_append.cls ≠ "java/lang/invoke/MethodHandle" ∧ yX0_append.cls ≠ "java/lang/invoke/VarHandle" ∧ (parseMethodDescriptor yX0_append.desc).map (fun d => d.parameters.length) = some 3 := by decide +kernel
set_option maxHeartbeats 4000000 in
set_option maxRecDepth 100000 in
theorem c_X0_append (l : Launch) (dC : Nat → ClassId) (dI : Nat → Nat → Nat) (cI cF cC cZ cQ cS : ClassId) (h0 : Nat) (gq : Nat) (cq : Nat) (lq : Nat) (sq : Nat) (h0_sold : Value) (h0_given : Value) (h0_cents : Value) (h0_wasted : Value) (good : Nat → Int32) (came : Nat → Int32) (left : Nat → Int32) (shelf : Nat → Int32) (n : Nat) (og : Int32) (un : Int32) (dl : Int32) (hn : n < 40) : Met l yX0_append wsX0_append ({ frames := 0, cells := 0, slots := 0, locals := 0 }) (xPre (dC, dI) vwCl [.ref h0, .int og, .int un, .int dl] (xtys cI cF cC cZ cQ cS) [(h0, .inr (0, [.int (nI n), .ref gq, .ref cq, .ref lq, .ref sq, h0_sold, h0_given, h0_cents, h0_wasted])), (gq, .inl (cI, 40, .inl good)), (cq, .inl (cI, 40, .inl came)), (lq, .inl (cI, 40, .inl left)), (sq, .inl (cI, 40, .inl shelf))]) (xWi (dC, dI) vwCl [(h0, .inr (0, [.int (nI n), .ref gq, .ref cq, .ref lq, .ref sq, h0_sold, h0_given, h0_cents, h0_wasted])), (gq, .inl (cI, 40, .inl good)), (cq, .inl (cI, 40, .inl came)), (lq, .inl (cI, 40, .inl left)), (sq, .inl (cI, 40, .inl shelf))] (fun r0 w0 => r0 = nI n ∧ w0 = [(h0, .inr (0, [.int (nI (n + 1)), .ref gq, .ref cq, .ref lq, .ref sq, h0_sold, h0_given, h0_cents, h0_wasted])), (gq, .inl (cI, 40, .inl (upd good n og))), (cq, .inl (cI, 40, .inl (upd came n un))), (lq, .inl (cI, 40, .inl (upd left n dl))), (sq, .inl (cI, 40, .inl (upd shelf n un)))])) 0 0 (va_B [(h0, .inr (0, [.int (nI n), .ref gq, .ref cq, .ref lq, .ref sq, h0_sold, h0_given, h0_cents, h0_wasted])), (gq, .inl (cI, 40, .inl good)), (cq, .inl (cI, 40, .inl came)), (lq, .inl (cI, 40, .inl left)), (sq, .inl (cI, 40, .inl shelf))]) := by
  refine Met.ofW (cc := cX0_append) (maxL := 5) (ret := (some .int)) (by decide) rfl ?_
  intro p e s m args below meth c s₁ B hml hv
  obtain ⟨rfl, hP, hK, hD0, hN⟩ := hv
  have hx := B.exec
  have hb := B.bytes
  have hr := B.returns
  have hts := atoms_spec (ws := wsX0_append) B.pre
  have hown : s.vm.findClass RX0 = some m.cls := findClass_of_methodNamed B.named
  have hlocks := B.notSynchronized
  have k_15 := hts (Cond.fieldLink RX0 15 "ShelfStages$Batches" "came" "[I") (by decide +kernel)
  have k_18 := hts (Cond.fieldLink RX0 18 "ShelfStages$Batches" "left" "[I") (by decide +kernel)
  have k_21 := hts (Cond.fieldLink RX0 21 "ShelfStages$Batches" "shelf" "[I") (by decide +kernel)
  have k_38 := hts (Cond.fieldLink RX0 38 "ShelfStages$Batches" "size" "I") (by decide +kernel)
  have k_9 := hts (Cond.fieldLink RX0 9 "ShelfStages$Batches" "good" "[I") (by decide +kernel)
  have i_X0 : ∀ w ∈ wsX00, w ∈ wsX0_append := by decide +kernel
  obtain ⟨A, hA⟩ : ∃ A, A = va_B [(h0, .inr (0, [.int (nI n), .ref gq, .ref cq, .ref lq, .ref sq, h0_sold, h0_given, h0_cents, h0_wasted])), (gq, .inl (cI, 40, .inl good)), (cq, .inl (cI, 40, .inl came)), (lq, .inl (cI, 40, .inl left)), (sq, .inl (cI, 40, .inl shelf))] := ⟨_, rfl⟩
  have hD : va_D A [(h0, .inr (0, [.int (nI n), .ref gq, .ref cq, .ref lq, .ref sq, h0_sold, h0_given, h0_cents, h0_wasted])), (gq, .inl (cI, 40, .inl good)), (cq, .inl (cI, 40, .inl came)), (lq, .inl (cI, 40, .inl left)), (sq, .inl (cI, 40, .inl shelf))] := hA ▸ hD0.own
  have hS : va_S A s.heap s.heap [] := va_S.rf
  have hl := lv_entry ([.ref h0, .int og, .int un, .int dl]) (n := 5) (Nat.le_of_ble_eq_true rfl)
  rw [lg_entry_eq]
  generalize (lg_sl ([.ref h0, .int og, .int un, .int dl]) ++ List.replicate (5 - (lg_sl ([.ref h0, .int og, .int un, .int dl])).length) Slot.unset).toArray = ls at hl ⊢
  have hl : lv_has ls 5 [(0, .ref h0), (1, .int og), (2, .int un), (3, .int dl)] := hl
  refine lv_aload_n hx hb dX0_append_0 rfl (lv_at hl 0 rfl) ?_
  refine va_get (D := (dC, dI)) (ci := 0) (v := .int (nI n)) (C := RX0) (T := TX0) (N := 9) hx hb hts i_X0 hown hK hP 0 rfl rfl 0 (by decide) k_38 (fun _ h9 => h9) rfl dX0_append_1 ?_
  refine lv_istore (lv' := [(4, .int (nI n)), (0, .ref h0), (1, .int og), (2, .int un), (3, .int dl)]) hx hb dX0_append_4 hl (by decide) rfl (fun ls hl => ?_)
  refine lv_aload_n hx hb dX0_append_6 rfl (lv_at hl 1 rfl) ?_
  refine va_get (D := (dC, dI)) (ci := 0) (v := .ref gq) (C := RX0) (T := TX0) (N := 9) hx hb hts i_X0 hown hK hP 0 rfl rfl 1 (by decide) k_9 (fun _ h9 => h9) rfl dX0_append_7 ?_
  refine lv_iload hx hb dX0_append_10 (lv_at hl 0 rfl) ?_
  refine lv_iload_n hx hb dX0_append_12 rfl (lv_at hl 2 rfl) ?_
  refine xr_iast hx hb hK hP hD hS 1 0 rfl rfl (i := n) (by omega) (by decide) dX0_append_13 (fun H locs hP hD hS => ?_)
  have hP : va_P (dC, dI) vwCl [(h0, .inr (0, [.int (nI n), .ref gq, .ref cq, .ref lq, .ref sq, h0_sold, h0_given, h0_cents, h0_wasted])), (gq, .inl (cI, 40, .inl (upd good n og))), (cq, .inl (cI, 40, .inl came)), (lq, .inl (cI, 40, .inl left)), (sq, .inl (cI, 40, .inl shelf))] H := hP
  have hD : va_D A [(h0, .inr (0, [.int (nI n), .ref gq, .ref cq, .ref lq, .ref sq, h0_sold, h0_given, h0_cents, h0_wasted])), (gq, .inl (cI, 40, .inl (upd good n og))), (cq, .inl (cI, 40, .inl came)), (lq, .inl (cI, 40, .inl left)), (sq, .inl (cI, 40, .inl shelf))] := hD
  refine lv_aload_n hx hb dX0_append_14 rfl (lv_at hl 1 rfl) ?_
  refine va_get (D := (dC, dI)) (ci := 0) (v := .ref cq) (C := RX0) (T := TX0) (N := 9) hx hb hts i_X0 hown hK hP 0 rfl rfl 2 (by decide) k_15 (fun _ h9 => h9) rfl dX0_append_15 ?_
  refine lv_iload hx hb dX0_append_18 (lv_at hl 0 rfl) ?_
  refine lv_iload_n hx hb dX0_append_20 rfl (lv_at hl 3 rfl) ?_
  refine xr_iast hx hb hK hP hD hS 2 0 rfl rfl (i := n) (by omega) (by decide) dX0_append_21 (fun H locs hP hD hS => ?_)
  have hP : va_P (dC, dI) vwCl [(h0, .inr (0, [.int (nI n), .ref gq, .ref cq, .ref lq, .ref sq, h0_sold, h0_given, h0_cents, h0_wasted])), (gq, .inl (cI, 40, .inl (upd good n og))), (cq, .inl (cI, 40, .inl (upd came n un))), (lq, .inl (cI, 40, .inl left)), (sq, .inl (cI, 40, .inl shelf))] H := hP
  have hD : va_D A [(h0, .inr (0, [.int (nI n), .ref gq, .ref cq, .ref lq, .ref sq, h0_sold, h0_given, h0_cents, h0_wasted])), (gq, .inl (cI, 40, .inl (upd good n og))), (cq, .inl (cI, 40, .inl (upd came n un))), (lq, .inl (cI, 40, .inl left)), (sq, .inl (cI, 40, .inl shelf))] := hD
  refine lv_aload_n hx hb dX0_append_22 rfl (lv_at hl 1 rfl) ?_
  refine va_get (D := (dC, dI)) (ci := 0) (v := .ref lq) (C := RX0) (T := TX0) (N := 9) hx hb hts i_X0 hown hK hP 0 rfl rfl 3 (by decide) k_18 (fun _ h9 => h9) rfl dX0_append_23 ?_
  refine lv_iload hx hb dX0_append_26 (lv_at hl 0 rfl) ?_
  refine lv_iload_n hx hb dX0_append_28 rfl (lv_at hl 4 rfl) ?_
  refine xr_iast hx hb hK hP hD hS 3 0 rfl rfl (i := n) (by omega) (by decide) dX0_append_29 (fun H locs hP hD hS => ?_)
  have hP : va_P (dC, dI) vwCl [(h0, .inr (0, [.int (nI n), .ref gq, .ref cq, .ref lq, .ref sq, h0_sold, h0_given, h0_cents, h0_wasted])), (gq, .inl (cI, 40, .inl (upd good n og))), (cq, .inl (cI, 40, .inl (upd came n un))), (lq, .inl (cI, 40, .inl (upd left n dl))), (sq, .inl (cI, 40, .inl shelf))] H := hP
  have hD : va_D A [(h0, .inr (0, [.int (nI n), .ref gq, .ref cq, .ref lq, .ref sq, h0_sold, h0_given, h0_cents, h0_wasted])), (gq, .inl (cI, 40, .inl (upd good n og))), (cq, .inl (cI, 40, .inl (upd came n un))), (lq, .inl (cI, 40, .inl (upd left n dl))), (sq, .inl (cI, 40, .inl shelf))] := hD
  refine lv_aload_n hx hb dX0_append_30 rfl (lv_at hl 1 rfl) ?_
  refine va_get (D := (dC, dI)) (ci := 0) (v := .ref sq) (C := RX0) (T := TX0) (N := 9) hx hb hts i_X0 hown hK hP 0 rfl rfl 4 (by decide) k_21 (fun _ h9 => h9) rfl dX0_append_31 ?_
  refine lv_iload hx hb dX0_append_34 (lv_at hl 0 rfl) ?_
  refine lv_iload_n hx hb dX0_append_36 rfl (lv_at hl 3 rfl) ?_
  refine xr_iast hx hb hK hP hD hS 4 0 rfl rfl (i := n) (by omega) (by decide) dX0_append_37 (fun H locs hP hD hS => ?_)
  have hP : va_P (dC, dI) vwCl [(h0, .inr (0, [.int (nI n), .ref gq, .ref cq, .ref lq, .ref sq, h0_sold, h0_given, h0_cents, h0_wasted])), (gq, .inl (cI, 40, .inl (upd good n og))), (cq, .inl (cI, 40, .inl (upd came n un))), (lq, .inl (cI, 40, .inl (upd left n dl))), (sq, .inl (cI, 40, .inl (upd shelf n un)))] H := hP
  have hD : va_D A [(h0, .inr (0, [.int (nI n), .ref gq, .ref cq, .ref lq, .ref sq, h0_sold, h0_given, h0_cents, h0_wasted])), (gq, .inl (cI, 40, .inl (upd good n og))), (cq, .inl (cI, 40, .inl (upd came n un))), (lq, .inl (cI, 40, .inl (upd left n dl))), (sq, .inl (cI, 40, .inl (upd shelf n un)))] := hD
  refine lv_aload_n hx hb dX0_append_38 rfl (lv_at hl 1 rfl) ?_
  refine lv_dup hx hb dX0_append_39 rfl ?_
  refine va_get (D := (dC, dI)) (ci := 0) (v := .int (nI n)) (C := RX0) (T := TX0) (N := 9) hx hb hts i_X0 hown hK hP 0 rfl rfl 0 (by decide) k_38 (fun _ h9 => h9) rfl dX0_append_40 ?_
  refine lv_iconst (v := nI 1) hx hb dX0_append_43 (by decide) ?_
  refine xr_iadd_n hx hb dX0_append_44 ?_
  refine va_put (D := (dC, dI)) (ci := 0) (v := .int (nI (n + 1))) (ty := .int) (C := RX0) (T := TX0) (N := 9) hx hb hts i_X0 tyX0 tyX0_ok nmX0 hown hK hP hD hS 0 rfl rfl 0 (by decide) k_38 (fun _ h9 => h9) rfl (by decide +kernel) rfl rfl (Nat.le_of_ble_eq_true rfl) dX0_append_45 (fun H locs hP hD hS => ?_)
  have hP : va_P (dC, dI) vwCl [(h0, .inr (0, [.int (nI (n + 1)), .ref gq, .ref cq, .ref lq, .ref sq, h0_sold, h0_given, h0_cents, h0_wasted])), (gq, .inl (cI, 40, .inl (upd good n og))), (cq, .inl (cI, 40, .inl (upd came n un))), (lq, .inl (cI, 40, .inl (upd left n dl))), (sq, .inl (cI, 40, .inl (upd shelf n un)))] H := hP
  have hD : va_D A [(h0, .inr (0, [.int (nI (n + 1)), .ref gq, .ref cq, .ref lq, .ref sq, h0_sold, h0_given, h0_cents, h0_wasted])), (gq, .inl (cI, 40, .inl (upd good n og))), (cq, .inl (cI, 40, .inl (upd came n un))), (lq, .inl (cI, 40, .inl (upd left n dl))), (sq, .inl (cI, 40, .inl (upd shelf n un)))] := hD
  refine lv_iload hx hb dX0_append_48 (lv_at hl 0 rfl) ?_
  have hP9 : va_P (dC, dI) vwCl [(h0, .inr (0, [.int (nI (n + 1)), .ref gq, .ref cq, .ref lq, .ref sq, h0_sold, h0_given, h0_cents, h0_wasted])), (gq, .inl (cI, 40, .inl (upd good n og))), (cq, .inl (cI, 40, .inl (upd came n un))), (lq, .inl (cI, 40, .inl (upd left n dl))), (sq, .inl (cI, 40, .inl (upd shelf n un)))] H := hP
  have hS9 : va_S (va_B [(h0, .inr (0, [.int (nI n), .ref gq, .ref cq, .ref lq, .ref sq, h0_sold, h0_given, h0_cents, h0_wasted])), (gq, .inl (cI, 40, .inl good)), (cq, .inl (cI, 40, .inl came)), (lq, .inl (cI, 40, .inl left)), (sq, .inl (cI, 40, .inl shelf))]) s.heap H locs := by rw [← hA]; exact hS
  exact W.iret (v := nI n) hx hb hr (fun t ht hW => ⟨⟨_, _, rfl, ⟨(show nI n = nI n from rfl), rfl⟩, by rw [ht]; exact hP9⟩, hS9.X ht⟩) hS9.2.2 dX0_append_50
theorem hdV_X0_age : yX0_age.cls = RX0 ∧ yX0_age.cls ≠ "java/lang/invoke/MethodHandle" ∧ yX0_age.cls ≠ "java/lang/invoke/VarHandle" ∧ (parseMethodDescriptor yX0_age.desc).map (fun d => d.parameters.length) = some 0 := by decide +kernel
set_option maxHeartbeats 4000000 in
set_option maxRecDepth 100000 in
theorem c_X0_age (l : Launch) (dC : Nat → ClassId) (dI : Nat → Nat → Nat) (cI cF cC cZ cQ cS : ClassId) (h0 : Nat) (h0_good : Value) (h0_came : Value) (lq : Nat) (sq : Nat) (h0_sold : Value) (h0_given : Value) (h0_cents : Value) (h0_wasted : Value) (left : Nat → Int32) (shelf : Nat → Int32) (n : Nat) (hn : n ≤ 40) : Met l yX0_age wsX0_age ({ frames := 0, cells := 0, slots := 0, locals := 0 }) (xPre (dC, dI) vwCl [.ref h0] (xtys cI cF cC cZ cQ cS) [(h0, .inr (0, [.int (nI n), h0_good, h0_came, .ref lq, .ref sq, h0_sold, h0_given, h0_cents, h0_wasted])), (lq, .inl (cI, 40, .inl left)), (sq, .inl (cI, 40, .inl shelf))]) (xWv (dC, dI) vwCl [(h0, .inr (0, [.int (nI n), h0_good, h0_came, .ref lq, .ref sq, h0_sold, h0_given, h0_cents, h0_wasted])), (lq, .inl (cI, 40, .inl left)), (sq, .inl (cI, 40, .inl shelf))] (fun w0 => w0 = [(h0, .inr (0, [.int (nI n), h0_good, h0_came, .ref lq, .ref sq, h0_sold, h0_given, h0_cents, h0_wasted])), (lq, .inl (cI, 40, .inl (xage shelf left n))), (sq, .inl (cI, 40, .inl shelf))])) 0 0 (va_B [(h0, .inr (0, [.int (nI n), h0_good, h0_came, .ref lq, .ref sq, h0_sold, h0_given, h0_cents, h0_wasted])), (lq, .inl (cI, 40, .inl left)), (sq, .inl (cI, 40, .inl shelf))]) := by
  refine Met.ofW (cc := cX0_age) (maxL := 2) (ret := none) (by decide) rfl ?_
  intro p e s m args below meth c s₁ B hml hv
  obtain ⟨rfl, hP, hK, hD0, hN⟩ := hv
  have hx := B.exec
  have hb := B.bytes
  have hr := B.returns
  have hts := atoms_spec (ws := wsX0_age) B.pre
  have hown : s.vm.findClass RX0 = some m.cls := findClass_of_methodNamed B.named
  have hlocks := B.notSynchronized
  have k_18 := hts (Cond.fieldLink RX0 18 "ShelfStages$Batches" "left" "[I") (by decide +kernel)
  have k_21 := hts (Cond.fieldLink RX0 21 "ShelfStages$Batches" "shelf" "[I") (by decide +kernel)
  have k_38 := hts (Cond.fieldLink RX0 38 "ShelfStages$Batches" "size" "I") (by decide +kernel)
  have i_X0 : ∀ w ∈ wsX00, w ∈ wsX0_age := by decide +kernel
  obtain ⟨A, hA⟩ : ∃ A, A = va_B [(h0, .inr (0, [.int (nI n), h0_good, h0_came, .ref lq, .ref sq, h0_sold, h0_given, h0_cents, h0_wasted])), (lq, .inl (cI, 40, .inl left)), (sq, .inl (cI, 40, .inl shelf))] := ⟨_, rfl⟩
  have hD : va_D A [(h0, .inr (0, [.int (nI n), h0_good, h0_came, .ref lq, .ref sq, h0_sold, h0_given, h0_cents, h0_wasted])), (lq, .inl (cI, 40, .inl left)), (sq, .inl (cI, 40, .inl shelf))] := hA ▸ hD0.own
  have hS : va_S A s.heap s.heap [] := va_S.rf
  have hl := lv_entry ([.ref h0]) (n := 2) (Nat.le_of_ble_eq_true rfl)
  rw [lg_entry_eq]
  generalize (lg_sl ([.ref h0]) ++ List.replicate (2 - (lg_sl ([.ref h0])).length) Slot.unset).toArray = ls at hl ⊢
  have hl : lv_has ls 2 [(0, .ref h0)] := hl
  refine lv_iconst (v := nI 0) hx hb dX0_age_0 (by decide) ?_
  refine lv_istore_n (lv' := [(1, .int (nI 0)), (0, .ref h0)]) hx hb dX0_age_1 rfl hl (by decide) rfl (fun ls hl => ?_)
  refine xr_loop (J := Nat) (fun n0 H locs g => ∃ (k : Nat) (lf : Nat → Int32) (ls : Array Slot), n0 = n - k ∧ g = F0 m 2 ls [] ∧ lv_has ls 2 [(1, .int (nI k)), (0, .ref h0)] ∧ va_P (dC, dI) vwCl [(h0, .inr (0, [.int (nI n), h0_good, h0_came, .ref lq, .ref sq, h0_sold, h0_given, h0_cents, h0_wasted])), (lq, .inl (cI, 40, .inl lf)), (sq, .inl (cI, 40, .inl shelf))] H ∧ va_D A [(h0, .inr (0, [.int (nI n), h0_good, h0_came, .ref lq, .ref sq, h0_sold, h0_given, h0_cents, h0_wasted])), (lq, .inl (cI, 40, .inl lf)), (sq, .inl (cI, 40, .inl shelf))] ∧ va_S A s.heap H locs ∧ (k ≤ n) ∧ (lf = xage shelf left k)) (fun n => n) ?_ (n - 0) (g := F0 m 2 ls []) ⟨0, left, ls, rfl, rfl, lv_sub hl [0, 1] rfl, hP, hD, hS, (Nat.zero_le _), (xage_0 _ _)⟩
  intro n0 ih_2 H locs g hp
  obtain ⟨k, lf, ls, rfl, rfl, hl, hP, hD, hS, hk, hlf⟩ := hp
  refine lv_iload_n hx hb dX0_age_2 rfl (lv_at hl 0 rfl) ?_
  refine lv_aload_n hx hb dX0_age_3 rfl (lv_at hl 1 rfl) ?_
  refine va_get (D := (dC, dI)) (ci := 0) (v := .int (nI n)) (C := RX0) (T := TX0) (N := 9) hx hb hts i_X0 hown hK hP 0 rfl rfl 0 (by decide) k_38 (fun _ h9 => h9) rfl dX0_age_4 ?_
  refine xr_ge_n (tgt := 35) hx hb (by omega) (by omega) dX0_age_7 (by decide) (fun c_1 => ?_) (fun c_1 => ?_)
  · skip
    have hkn : n = k := by omega
    subst hkn
    subst hlf
    have hP9 : va_P (dC, dI) vwCl [(h0, .inr (0, [.int (nI n), h0_good, h0_came, .ref lq, .ref sq, h0_sold, h0_given, h0_cents, h0_wasted])), (lq, .inl (cI, 40, .inl (xage shelf left n))), (sq, .inl (cI, 40, .inl shelf))] H := hP
    have hS9 : va_S (va_B [(h0, .inr (0, [.int (nI n), h0_good, h0_came, .ref lq, .ref sq, h0_sold, h0_given, h0_cents, h0_wasted])), (lq, .inl (cI, 40, .inl left)), (sq, .inl (cI, 40, .inl shelf))]) s.heap H locs := by rw [← hA]; exact hS
    exact W.vret hx hb hr (fun t ht hW => ⟨⟨_, rfl, rfl, by rw [ht]; exact hP9⟩, hS9.X ht⟩) hS9.2.2 dX0_age_35
  refine lv_aload_n hx hb dX0_age_10 rfl (lv_at hl 1 rfl) ?_
  refine va_get (D := (dC, dI)) (ci := 0) (v := .ref sq) (C := RX0) (T := TX0) (N := 9) hx hb hts i_X0 hown hK hP 0 rfl rfl 4 (by decide) k_21 (fun _ h9 => h9) rfl dX0_age_11 ?_
  refine lv_iload_n hx hb dX0_age_14 rfl (lv_at hl 0 rfl) ?_
  refine xr_iald hx hb hK hP 2 0 rfl rfl (i := k) (by omega) (by decide) dX0_age_15 ?_
  refine lv_if_le (tgt := 29) hx hb dX0_age_16 (by decide) (fun c_2 => ?_) (fun c_2 => ?_)
  · skip
    refine lv_iinc (v := nI (k + 1)) (lv' := [(1, .int (nI (k + 1))), (0, .ref h0)]) hx hb dX0_age_29 hl (k := 0) rfl (nI_inc1 k) (by decide) rfl (fun ls hl => ?_)
    refine lv_goto (tgt := 2) hx hb dX0_age_32 (by decide) ?_
    exact ih_2 (n - (k + 1)) _ _ _ (show n - (k + 1) < n - k from by omega) ⟨(k + 1), lf, ls, rfl, rfl, lv_sub hl [0, 1] rfl, hP, hD, hS, (by omega), (by rw [hlf]; exact xage_2 c_2)⟩
  refine lv_aload_n hx hb dX0_age_19 rfl (lv_at hl 1 rfl) ?_
  refine va_get (D := (dC, dI)) (ci := 0) (v := .ref lq) (C := RX0) (T := TX0) (N := 9) hx hb hts i_X0 hown hK hP 0 rfl rfl 3 (by decide) k_18 (fun _ h9 => h9) rfl dX0_age_20 ?_
  refine lv_iload_n hx hb dX0_age_23 rfl (lv_at hl 0 rfl) ?_
  refine lv_dup2_11 hx hb dX0_age_24 rfl rfl ?_
  refine xr_iald hx hb hK hP 1 0 rfl rfl (i := k) (by omega) (by decide) dX0_age_25 ?_
  refine lv_iconst (v := nI 1) hx hb dX0_age_26 (by decide) ?_
  refine lv_isub hx hb dX0_age_27 ?_
  refine xr_iast hx hb hK hP hD hS 1 0 rfl rfl (i := k) (by omega) (by decide) dX0_age_28 (fun H locs hP hD hS => ?_)
  have hP : va_P (dC, dI) vwCl [(h0, .inr (0, [.int (nI n), h0_good, h0_came, .ref lq, .ref sq, h0_sold, h0_given, h0_cents, h0_wasted])), (lq, .inl (cI, 40, .inl (upd lf k ((lf k) - (nI 1))))), (sq, .inl (cI, 40, .inl shelf))] H := hP
  have hD : va_D A [(h0, .inr (0, [.int (nI n), h0_good, h0_came, .ref lq, .ref sq, h0_sold, h0_given, h0_cents, h0_wasted])), (lq, .inl (cI, 40, .inl (upd lf k ((lf k) - (nI 1))))), (sq, .inl (cI, 40, .inl shelf))] := hD
  refine lv_iinc (v := nI (k + 1)) (lv' := [(1, .int (nI (k + 1))), (0, .ref h0)]) hx hb dX0_age_29 hl (k := 0) rfl (nI_inc1 k) (by decide) rfl (fun ls hl => ?_)
  refine lv_goto (tgt := 2) hx hb dX0_age_32 (by decide) ?_
  exact ih_2 (n - (k + 1)) _ _ _ (show n - (k + 1) < n - k from by omega) ⟨(k + 1), (upd lf k ((lf k) - (nI 1))), ls, rfl, rfl, lv_sub hl [0, 1] rfl, hP, hD, hS, (by omega), (by rw [hlf]; exact xage_1 c_2)⟩
theorem hdV_X0_wastedOf : yX0_wastedOf.cls = RX0 ∧ yX0_wastedOf.cls ≠ "java/lang/invoke/MethodHandle" ∧ yX0_wastedOf.cls ≠ "java/lang/invoke/VarHandle" ∧ (parseMethodDescriptor yX0_wastedOf.desc).map (fun d => d.parameters.length) = some 1 := by decide +kernel
set_option maxHeartbeats 4000000 in
set_option maxRecDepth 100000 in
theorem c_X0_wastedOf (l : Launch) (dC : Nat → ClassId) (dI : Nat → Nat → Nat) (cI cF cC cZ cQ cS : ClassId) (h0 : Nat) (h0_size : Value) (h0_good : Value) (h0_came : Value) (h0_left : Value) (h0_shelf : Value) (h0_sold : Value) (h0_given : Value) (h0_cents : Value) (wq : Nat) (w0 : Nat) (wa : Nat → Int32) (w1 : Nat) (wb : Nat → Int32) (w2 : Nat) (wc : Nat → Int32) (bt : Nat) (hbt : bt < 40) : Met l yX0_wastedOf wsX0_wastedOf ({ frames := 0, cells := 0, slots := 0, locals := 0 }) (xPre (dC, dI) vwCl [.ref h0, .int (nI bt)] (xtys cI cF cC cZ cQ cS) [(h0, .inr (0, [h0_size, h0_good, h0_came, h0_left, h0_shelf, h0_sold, h0_given, h0_cents, .ref wq])), (wq, .inl (cQ, 3, .inr (.inr (.inr (.inr (xrow [w0, w1, w2])))))), (w0, .inl (cI, 40, .inl wa)), (w1, .inl (cI, 40, .inl wb)), (w2, .inl (cI, 40, .inl wc))]) (vp_Si (fun r0 => r0 = (wa bt + wb bt) + wc bt)) 0 0 (fun _ => False) := by
  refine Met.ofW (cc := cX0_wastedOf) (maxL := 2) (ret := (some .int)) (by decide) rfl ?_
  intro p e s m args below meth c s₁ B hml hv
  obtain ⟨rfl, hP, hK, hD0, hN⟩ := hv
  have hx := B.exec
  have hb := B.bytes
  have hr := B.returns
  have hts := atoms_spec (ws := wsX0_wastedOf) B.pre
  have hown : s.vm.findClass RX0 = some m.cls := findClass_of_methodNamed B.named
  have hlocks := B.notSynchronized
  have k_35 := hts (Cond.fieldLink RX0 35 "ShelfStages$Batches" "wasted" "[[I") (by decide +kernel)
  have i_X0 : ∀ w ∈ wsX00, w ∈ wsX0_wastedOf := by decide +kernel
  have hD := hD0
  have hl := lv_entry ([.ref h0, .int (nI bt)]) (n := 2) (Nat.le_of_ble_eq_true rfl)
  rw [lg_entry_eq]
  generalize (lg_sl ([.ref h0, .int (nI bt)]) ++ List.replicate (2 - (lg_sl ([.ref h0, .int (nI bt)])).length) Slot.unset).toArray = ls at hl ⊢
  have hl : lv_has ls 2 [(0, .ref h0), (1, .int (nI bt))] := hl
  refine lv_aload_n hx hb dX0_wastedOf_0 rfl (lv_at hl 0 rfl) ?_
  refine va_get (D := (dC, dI)) (ci := 0) (v := .ref wq) (C := RX0) (T := TX0) (N := 9) hx hb hts i_X0 hown hK hP 0 rfl rfl 8 (by decide) k_35 (fun _ h9 => h9) rfl dX0_wastedOf_1 ?_
  refine lv_iconst (v := nI 0) hx hb dX0_wastedOf_4 (by decide) ?_
  refine xr_aald hx hb hK hP 1 4 rfl rfl rfl (i := 0) (v := w0) (by omega) (by decide) rfl dX0_wastedOf_5 ?_
  refine lv_iload_n hx hb dX0_wastedOf_6 rfl (lv_at hl 1 rfl) ?_
  refine xr_iald hx hb hK hP 2 0 rfl rfl (i := bt) (by omega) (by decide) dX0_wastedOf_7 ?_
  refine lv_aload_n hx hb dX0_wastedOf_8 rfl (lv_at hl 0 rfl) ?_
  refine va_get (D := (dC, dI)) (ci := 0) (v := .ref wq) (C := RX0) (T := TX0) (N := 9) hx hb hts i_X0 hown hK hP 0 rfl rfl 8 (by decide) k_35 (fun _ h9 => h9) rfl dX0_wastedOf_9 ?_
  refine lv_iconst (v := nI 1) hx hb dX0_wastedOf_12 (by decide) ?_
  refine xr_aald hx hb hK hP 1 4 rfl rfl rfl (i := 1) (v := w1) (by omega) (by decide) rfl dX0_wastedOf_13 ?_
  refine lv_iload_n hx hb dX0_wastedOf_14 rfl (lv_at hl 1 rfl) ?_
  refine xr_iald hx hb hK hP 3 0 rfl rfl (i := bt) (by omega) (by decide) dX0_wastedOf_15 ?_
  refine lv_iadd hx hb dX0_wastedOf_16 ?_
  refine lv_aload_n hx hb dX0_wastedOf_17 rfl (lv_at hl 0 rfl) ?_
  refine va_get (D := (dC, dI)) (ci := 0) (v := .ref wq) (C := RX0) (T := TX0) (N := 9) hx hb hts i_X0 hown hK hP 0 rfl rfl 8 (by decide) k_35 (fun _ h9 => h9) rfl dX0_wastedOf_18 ?_
  refine lv_iconst (v := nI 2) hx hb dX0_wastedOf_21 (by decide) ?_
  refine xr_aald hx hb hK hP 1 4 rfl rfl rfl (i := 2) (v := w2) (by omega) (by decide) rfl dX0_wastedOf_22 ?_
  refine lv_iload_n hx hb dX0_wastedOf_23 rfl (lv_at hl 1 rfl) ?_
  refine xr_iald hx hb hK hP 4 0 rfl rfl (i := bt) (by omega) (by decide) dX0_wastedOf_24 ?_
  refine lv_iadd hx hb dX0_wastedOf_25 ?_
  exact W.iret (v := ((wa bt) + (wb bt)) + (wc bt)) hx hb hr (fun t ht hW => ⟨_, rfl, (show ((wa bt) + (wb bt)) + (wc bt) = (wa bt + wb bt) + wc bt from rfl), ht⟩) (fun q h => by cases h) dX0_wastedOf_26
theorem hdV_X0_wastedOfAll : yX0_wastedOfAll.cls = RX0 ∧ yX0_wastedOfAll.cls ≠ "java/lang/invoke/MethodHandle" ∧ yX0_wastedOfAll.cls ≠ "java/lang/invoke/VarHandle" ∧ (parseMethodDescriptor yX0_wastedOfAll.desc).map (fun d => d.parameters.length) = some 0 := by decide +kernel
set_option maxHeartbeats 4000000 in
set_option maxRecDepth 100000 in
theorem c_X0_wastedOfAll (l : Launch) (dC : Nat → ClassId) (dI : Nat → Nat → Nat) (cI cF cC cZ cQ cS : ClassId) (h0 : Nat) (h0_good : Value) (h0_came : Value) (h0_left : Value) (h0_shelf : Value) (h0_sold : Value) (h0_given : Value) (h0_cents : Value) (wq : Nat) (n : Nat) (w0 : Nat) (wa : Nat → Int32) (w1 : Nat) (wb : Nat → Int32) (w2 : Nat) (wc : Nat → Int32) (hn : n ≤ 40) : Met l yX0_wastedOfAll wsX0_wastedOfAll ({ frames := 1, cells := 0, slots := 0, locals := 23 }) (xPre (dC, dI) vwCl [.ref h0] (xtys cI cF cC cZ cQ cS) [(h0, .inr (0, [.int (nI n), h0_good, h0_came, h0_left, h0_shelf, h0_sold, h0_given, h0_cents, .ref wq])), (wq, .inl (cQ, 3, .inr (.inr (.inr (.inr (xrow [w0, w1, w2])))))), (w0, .inl (cI, 40, .inl wa)), (w1, .inl (cI, 40, .inl wb)), (w2, .inl (cI, 40, .inl wc))]) (vp_Si (fun r0 => r0 = (xsum wa n + xsum wb n) + xsum wc n)) 0 0 (fun _ => False) := by
  refine Met.ofW (cc := cX0_wastedOfAll) (maxL := 1) (ret := (some .int)) (by decide) rfl ?_
  intro p e s m args below meth c s₁ B hml hv
  obtain ⟨rfl, hP, hK, hD0, hN⟩ := hv
  have hx := B.exec
  have hb := B.bytes
  have hr := B.returns
  have hts := atoms_spec (ws := wsX0_wastedOfAll) B.pre
  have hown : s.vm.findClass RX0 = some m.cls := findClass_of_methodNamed B.named
  have hlocks := B.notSynchronized
  have k_35 := hts (Cond.fieldLink RX0 35 "ShelfStages$Batches" "wasted" "[[I") (by decide +kernel)
  have i_X0 : ∀ w ∈ wsX00, w ∈ wsX0_wastedOfAll := by decide +kernel
  have hD := hD0
  have hl := lv_entry ([.ref h0]) (n := 1) (Nat.le_of_ble_eq_true rfl)
  rw [lg_entry_eq]
  generalize (lg_sl ([.ref h0]) ++ List.replicate (1 - (lg_sl ([.ref h0])).length) Slot.unset).toArray = ls at hl ⊢
  have hl : lv_has ls 1 [(0, .ref h0)] := hl
  refine lv_aload_n hx hb dX0_wastedOfAll_0 rfl (lv_at hl 0 rfl) ?_
  refine lv_aload_n hx hb dX0_wastedOfAll_1 rfl (lv_at hl 0 rfl) ?_
  refine va_get (D := (dC, dI)) (ci := 0) (v := .ref wq) (C := RX0) (T := TX0) (N := 9) hx hb hts i_X0 hown hK hP 0 rfl rfl 8 (by decide) k_35 (fun _ h9 => h9) rfl dX0_wastedOfAll_2 ?_
  refine lv_iconst (v := nI 0) hx hb dX0_wastedOfAll_5 (by decide) ?_
  refine xr_aald hx hb hK hP 1 4 rfl rfl rfl (i := 0) (v := w0) (by omega) (by decide) rfl dX0_wastedOfAll_6 ?_
  refine xkRi (xV (As := [.ref w0]) (rest := []) (wc := [(h0, .inr (0, [.int (nI n), h0_good, h0_came, h0_left, h0_shelf, h0_sold, h0_given, h0_cents, .ref wq])), (w0, .inl (cI, 40, .inl wa))]) hx hb hml hown hts (c_X0_sum l dC dI cI cF cC cZ cQ cS h0 h0_good h0_came h0_left h0_shelf h0_sold h0_given h0_cents (.ref wq) w0 wa n (by omega)) 1 gX0_wastedOfAll_X0_sum rfl rfl rfl hdV_X0_sum ⟨Nat.le_of_ble_eq_true rfl, Nat.le_of_ble_eq_true rfl⟩ hN hK hP hD [0, 2] rfl rfl 0 0 rfl rfl rfl hl.1 rfl (Nat.le_of_ble_eq_true rfl) dX0_wastedOfAll_7 ⟨Nat.zero_le _, Nat.zero_le _⟩) (fun r_1 hr_1 => ?_)
  obtain rfl : r_1 = xsum wa n := hr_1
  refine lv_aload_n hx hb dX0_wastedOfAll_10 rfl (lv_at hl 0 rfl) ?_
  refine lv_aload_n hx hb dX0_wastedOfAll_11 rfl (lv_at hl 0 rfl) ?_
  refine va_get (D := (dC, dI)) (ci := 0) (v := .ref wq) (C := RX0) (T := TX0) (N := 9) hx hb hts i_X0 hown hK hP 0 rfl rfl 8 (by decide) k_35 (fun _ h9 => h9) rfl dX0_wastedOfAll_12 ?_
  refine lv_iconst (v := nI 1) hx hb dX0_wastedOfAll_15 (by decide) ?_
  refine xr_aald hx hb hK hP 1 4 rfl rfl rfl (i := 1) (v := w1) (by omega) (by decide) rfl dX0_wastedOfAll_16 ?_
  refine xkRi (xV (As := [.ref w1]) (rest := [.int (xsum wa n)]) (wc := [(h0, .inr (0, [.int (nI n), h0_good, h0_came, h0_left, h0_shelf, h0_sold, h0_given, h0_cents, .ref wq])), (w1, .inl (cI, 40, .inl wb))]) hx hb hml hown hts (c_X0_sum l dC dI cI cF cC cZ cQ cS h0 h0_good h0_came h0_left h0_shelf h0_sold h0_given h0_cents (.ref wq) w1 wb n (by omega)) 1 gX0_wastedOfAll_X0_sum rfl rfl rfl hdV_X0_sum ⟨Nat.le_of_ble_eq_true rfl, Nat.le_of_ble_eq_true rfl⟩ hN hK hP hD [0, 3] rfl rfl 0 0 rfl rfl rfl hl.1 rfl (Nat.le_of_ble_eq_true rfl) dX0_wastedOfAll_17 ⟨Nat.zero_le _, Nat.zero_le _⟩) (fun r_2 hr_2 => ?_)
  obtain rfl : r_2 = xsum wb n := hr_2
  refine lv_iadd hx hb dX0_wastedOfAll_20 ?_
  refine lv_aload_n hx hb dX0_wastedOfAll_21 rfl (lv_at hl 0 rfl) ?_
  refine lv_aload_n hx hb dX0_wastedOfAll_22 rfl (lv_at hl 0 rfl) ?_
  refine va_get (D := (dC, dI)) (ci := 0) (v := .ref wq) (C := RX0) (T := TX0) (N := 9) hx hb hts i_X0 hown hK hP 0 rfl rfl 8 (by decide) k_35 (fun _ h9 => h9) rfl dX0_wastedOfAll_23 ?_
  refine lv_iconst (v := nI 2) hx hb dX0_wastedOfAll_26 (by decide) ?_
  refine xr_aald hx hb hK hP 1 4 rfl rfl rfl (i := 2) (v := w2) (by omega) (by decide) rfl dX0_wastedOfAll_27 ?_
  refine xkRi (xV (As := [.ref w2]) (rest := [.int ((xsum wa n) + (xsum wb n))]) (wc := [(h0, .inr (0, [.int (nI n), h0_good, h0_came, h0_left, h0_shelf, h0_sold, h0_given, h0_cents, .ref wq])), (w2, .inl (cI, 40, .inl wc))]) hx hb hml hown hts (c_X0_sum l dC dI cI cF cC cZ cQ cS h0 h0_good h0_came h0_left h0_shelf h0_sold h0_given h0_cents (.ref wq) w2 wc n (by omega)) 1 gX0_wastedOfAll_X0_sum rfl rfl rfl hdV_X0_sum ⟨Nat.le_of_ble_eq_true rfl, Nat.le_of_ble_eq_true rfl⟩ hN hK hP hD [0, 4] rfl rfl 0 0 rfl rfl rfl hl.1 rfl (Nat.le_of_ble_eq_true rfl) dX0_wastedOfAll_28 ⟨Nat.zero_le _, Nat.zero_le _⟩) (fun r_3 hr_3 => ?_)
  obtain rfl : r_3 = xsum wc n := hr_3
  refine lv_iadd hx hb dX0_wastedOfAll_31 ?_
  exact W.iret (v := ((xsum wa n) + (xsum wb n)) + (xsum wc n)) hx hb hr (fun t ht hW => ⟨_, rfl, (show ((xsum wa n) + (xsum wb n)) + (xsum wc n) = (xsum wa n + xsum wb n) + xsum wc n from rfl), ht⟩) (fun q h => by cases h) dX0_wastedOfAll_32
