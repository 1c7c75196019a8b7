/-! The law's small helpers. -/
theorem zmask (v : Int32) : ∃ j : Nat, j < 2 ^ 31 ∧ v &&& nI 2147483647 = nI j := by
  refine ⟨(v &&& nI 2147483647).toBitVec.toNat, ?_, Int32.toBitVec_inj.mp (by
    show (v &&& nI 2147483647).toBitVec = BitVec.ofNat 32 (v &&& nI 2147483647).toBitVec.toNat
    simp)⟩
  rw [Int32.toBitVec_and, BitVec.toNat_and]
  have h : (nI 2147483647).toBitVec.toNat = 2147483647 := by decide
  rw [h]
  exact Nat.lt_of_le_of_lt Nat.and_le_right (by decide)
def zlw (v : Int32) (k : Nat) : Nat := (v &&& nI 2147483647).toNatClampNeg % k
theorem zlw_lt (v : Int32) {k : Nat} (h : 1 ≤ k) : zlw v k < k := Nat.mod_lt _ h
theorem hdL_cell : yL_cell.cls ≠ "java/lang/invoke/MethodHandle" ∧ yL_cell.cls ≠ "java/lang/invoke/VarHandle" ∧ (parseMethodDescriptor yL_cell.desc).map (fun d => d.parameters.length) = some 2 := by decide +kernel
theorem hdL_low : yL_low.cls ≠ "java/lang/invoke/MethodHandle" ∧ yL_low.cls ≠ "java/lang/invoke/VarHandle" ∧ (parseMethodDescriptor yL_low.desc).map (fun d => d.parameters.length) = some 2 := by decide +kernel
theorem hdL_goods : yL_goods.cls ≠ "java/lang/invoke/MethodHandle" ∧ yL_goods.cls ≠ "java/lang/invoke/VarHandle" ∧ (parseMethodDescriptor yL_goods.desc).map (fun d => d.parameters.length) = some 3 := by decide +kernel
theorem hdL_stage : yL_stage.cls ≠ "java/lang/invoke/MethodHandle" ∧ yL_stage.cls ≠ "java/lang/invoke/VarHandle" ∧ (parseMethodDescriptor yL_stage.desc).map (fun d => d.parameters.length) = some 2 := by decide +kernel
theorem hdL_byGoods : yL_byGoods.cls ≠ "java/lang/invoke/MethodHandle" ∧ yL_byGoods.cls ≠ "java/lang/invoke/VarHandle" ∧ (parseMethodDescriptor yL_byGoods.desc).map (fun d => d.parameters.length) = some 4 := by decide +kernel
theorem hdL_addUp : yL_addUp.cls ≠ "java/lang/invoke/MethodHandle" ∧ yL_addUp.cls ≠ "java/lang/invoke/VarHandle" ∧ (parseMethodDescriptor yL_addUp.desc).map (fun d => d.parameters.length) = some 2 := by decide +kernel
theorem hdL_order : yL_order.cls ≠ "java/lang/invoke/MethodHandle" ∧ yL_order.cls ≠ "java/lang/invoke/VarHandle" ∧ (parseMethodDescriptor yL_order.desc).map (fun d => d.parameters.length) = some 3 := by decide +kernel
theorem hdL_pass : yL_pass.cls ≠ "java/lang/invoke/MethodHandle" ∧ yL_pass.cls ≠ "java/lang/invoke/VarHandle" ∧ (parseMethodDescriptor yL_pass.desc).map (fun d => d.parameters.length) = some 2 := by decide +kernel
theorem hdL_stageIn : yL_stageIn.cls ≠ "java/lang/invoke/MethodHandle" ∧ yL_stageIn.cls ≠ "java/lang/invoke/VarHandle" ∧ (parseMethodDescriptor yL_stageIn.desc).map (fun d => d.parameters.length) = some 3 := by decide +kernel
set_option maxHeartbeats 4000000 in
set_option maxRecDepth 100000 in
theorem c_L_low (l : Launch) (v : Int32) (k : Nat) (hk : 1 ≤ k ∧ k < 2 ^ 31) : Met l yL_low wsL_low { frames := 0, cells := 0, slots := 0, locals := 0 } (va_Pc [.int v, .int (nI k)] (fun _ => True)) (vp_Si (fun r => r = nI (zlw v k))) 0 0 (fun _ => False) := by
  refine Met.ofW (cc := cL_low) (maxL := 2) (ret := (some .int)) (by decide) rfl ?_
  intro p e s m args below meth c s₁ B hml hv
  obtain ⟨rfl, hX⟩ := hv
  have hx := B.exec
  have hb := B.bytes
  have hr := B.returns
  have hts := atoms_spec (ws := wsL_low) B.pre
  have hown : s.vm.findClass RL = some m.cls := findClass_of_methodNamed B.named
  have hl := lv_entry ([.int v, .int (nI k)]) (n := 2) (Nat.le_of_ble_eq_true rfl)
  rw [lg_entry_eq]
  generalize (lg_sl ([.int v, .int (nI k)]) ++ List.replicate (2 - (lg_sl ([.int v, .int (nI k)])).length) Slot.unset).toArray = ls at hl ⊢
  have hl : lv_has ls 2 [(0, .int v), (1, .int (nI k))] := hl
  have kc_9 := hts (Cond.constant RL 9 (2147483647)) (by decide +kernel)
  refine lv_iload_n hx hb dL_low_0 rfl (lv_at hl 0 rfl) ?_
  refine lv_ldc hx hb hown kc_9 dL_low_1 ?_
  refine xr_top (show (2147483647 : Int32) = nI 2147483647 from rfl) ?_
  refine lv_iand hx hb dL_low_3 ?_
  obtain ⟨j, hj, ej⟩ := zmask v
  have hz : zlw v k = j % k := by
    unfold zlw
    rw [ej, nI_clamp hj]
  refine xr_top ej ?_
  refine lv_iload_n hx hb dL_low_4 rfl (lv_at hl 1 rfl) ?_
  refine lv_irem hx hb dL_low_5 (nI_ne0 (by omega) (by omega)) ?_
  refine xr_top (nI_rem (by omega) (by omega) (by omega)) ?_
  exact W.iret (v := nI (j % k)) hx hb hr (fun t ht hW => ⟨_, rfl, congrArg nI hz.symm, ht⟩) (fun q h => by cases h) dL_low_6
set_option maxHeartbeats 4000000 in
set_option maxRecDepth 100000 in
theorem c_L_cell (l : Launch) (a L : Nat) (xs : Nat → Int32) (k : Nat) (hk : k < 2 ^ 31) (hL : L < 2 ^ 31) : Met l yL_cell wsL_cell { frames := 0, cells := 0, slots := 0, locals := 0 } (zPx [.ref a, .int (nI k)] a L xs) (vp_Si (fun _ => True)) 0 0 (fun _ => False) := by
  refine Met.ofW (cc := cL_cell) (maxL := 2) (ret := (some .int)) (by decide) rfl ?_
  intro p e s m args below meth c s₁ B hml hv
  obtain ⟨rfl, hX⟩ := hv
  have hx := B.exec
  have hb := B.bytes
  have hr := B.returns
  have hts := atoms_spec (ws := wsL_cell) B.pre
  have hown : s.vm.findClass RL = some m.cls := findClass_of_methodNamed B.named
  have hl := lv_entry ([.ref a, .int (nI k)]) (n := 2) (Nat.le_of_ble_eq_true rfl)
  rw [lg_entry_eq]
  generalize (lg_sl ([.ref a, .int (nI k)]) ++ List.replicate (2 - (lg_sl ([.ref a, .int (nI k)])).length) Slot.unset).toArray = ls at hl ⊢
  have hl : lv_has ls 2 [(0, .ref a), (1, .int (nI k))] := hl
  have kc_7 := hts (Cond.constant RL 7 (32452867)) (by decide +kernel)
  have kc_8 := hts (Cond.constant RL 8 (86028121)) (by decide +kernel)
  have hbl : a < s.heap.size := (Array.getElem?_eq_some_iff.mp hX.choose_spec.1).1
  have hS : va_S (fun _ => False) s.heap s.heap [] := va_S.rf
  have hbA : ¬ (fun _ : Nat => False) a := fun q => q
  refine lv_iload_n hx hb dL_cell_0 rfl (lv_at hl 1 rfl) ?_
  refine lv_aload_n hx hb dL_cell_1 rfl (lv_at hl 0 rfl) ?_
  refine va_slen hx hb hX hbl hbA hS dL_cell_2 ?_
  refine lv_icmp_ge (tgt := 12) hx hb dL_cell_3 (by decide) (fun c_1 => ?_) (fun c_1 => ?_)
  · refine lv_ldc hx hb hown kc_7 dL_cell_12 ?_
    refine lv_iload_n hx hb dL_cell_14 rfl (lv_at hl 1 rfl) ?_
    refine lv_imul hx hb dL_cell_15 ?_
    refine lv_ldc hx hb hown kc_8 dL_cell_16 ?_
    refine lv_iadd hx hb dL_cell_18 ?_
    exact W.iret hx hb hr (fun t ht hW => ⟨_, rfl, trivial, ht⟩) (fun q h => by cases h) dL_cell_19
  · have c_2 : k < L := Nat.lt_of_not_le fun q => c_1 (nI_le q (by omega))
    refine lv_aload_n hx hb dL_cell_6 rfl (lv_at hl 0 rfl) ?_
    refine lv_iload_n hx hb dL_cell_7 rfl (lv_at hl 1 rfl) ?_
    refine va_sld hx hb hX hbl hbA hS (nI_in c_2 (by omega)) dL_cell_8 ?_
    refine lv_goto (tgt := 19) hx hb dL_cell_9 (by decide) ?_
    exact W.iret hx hb hr (fun t ht hW => ⟨_, rfl, trivial, ht⟩) (fun q h => by cases h) dL_cell_19
section SGS
variable {n bz oz tk lz nx dy : Nat} {T : Nat → Nat → Int32}
theorem Iv.sold (h : Iv n bz oz tk lz nx dy T) : xsum (T 20) oz = xsum (T 10) bz := by
  obtain ⟨X, C, D, -, h1, h2, -⟩ := h.2.2.2.2.2.2.2
  rw [h1, h2]
theorem Iv.sg9 (h : Iv n bz oz tk lz nx dy T) : xsum (fun g => xsumIf (T 6) (nI g) (T 9) bz) n = xsum (T 9) bz := zs_goods (by have := h.n1; omega) bz fun b hb => (h.B hb).1
theorem Iv.sg10 (h : Iv n bz oz tk lz nx dy T) : xsum (fun g => xsumIf (T 6) (nI g) (T 10) bz) n = xsum (T 10) bz := zs_goods (by have := h.n1; omega) bz fun b hb => (h.B hb).1
theorem Iv.sg20 (h : Iv n bz oz tk lz nx dy T) : xsum (fun g => xsumIf (T 18) (nI g) (T 20) oz) n = xsum (T 10) bz := (zs_goods (by have := h.n1; omega) oz fun o ho => (h.O ho).1).trans h.sold
end SGS
set_option maxHeartbeats 4000000 in
set_option maxRecDepth 100000 in
theorem c_L_stage (l : Launch) (dC : Nat → ClassId) (dI : Nat → Nat → Nat) (z : XK) {n bz oz tk lz nx dy : Nat} {T : Nat → Nat → Int32} {M : XM} {b : Nat} (eT : mT M = T) (hI : Iv n bz oz tk lz nx dy T) (hb1 : b < bz) : zL (fun r M' => r = nI (xstg (T 30) (T 8) (T 2) (T 6) b) ∧ M' = M) l (dC, dI) z yL_stage wsL_stage 7 273 [.ref (zo z), .int (nI b)] M := by
  unfold zL
  refine Met.ofW (cc := cL_stage) (maxL := 4) (ret := (some .int)) (by decide) rfl ?_
  intro p e s m args below meth c s₁ B hml hv
  obtain ⟨rfl, hP, hK, hD0, hN⟩ := hv
  have hx := B.exec
  have hb := B.bytes
  have hr := B.returns
  have hts := atoms_spec (ws := wsL_stage) B.pre
  have hown : s.vm.findClass RL = some m.cls := findClass_of_methodNamed B.named
  have hlocks := B.notSynchronized
  obtain ⟨A, hA⟩ : ∃ A, A = va_B (cw z M) := ⟨_, rfl⟩
  have hD : va_D A (cw z M) := hA ▸ hD0.own
  have hS : va_S A s.heap s.heap [] := va_S.rf
  have hl := lv_entry ([.ref (zo z), .int (nI b)]) (n := 4) (Nat.le_of_ble_eq_true rfl)
  rw [lg_entry_eq]
  generalize (lg_sl ([.ref (zo z), .int (nI b)]) ++ List.replicate (4 - (lg_sl ([.ref (zo z), .int (nI b)])).length) Slot.unset).toArray = ls at hl ⊢
  have hl : lv_has ls 4 [(0, .ref (zo z)), (1, .int (nI b))] := hl
  have hn := hI.n1
  refine lv_iconst (v := nI 0) hx hb dL_stage_0 (by decide) ?_
  refine lv_istore_n (lv' := [(2, .int (nI 0)), (0, .ref (zo z)), (1, .int (nI b))]) hx hb dL_stage_1 rfl hl (by decide) rfl (fun ls hl => ?_)
  refine lv_iconst (v := nI 1) hx hb dL_stage_2 (by decide) ?_
  refine lv_istore_n (lv' := [(3, .int (nI 1)), (2, .int (nI 0)), (0, .ref (zo z)), (1, .int (nI b))]) hx hb dL_stage_3 rfl hl (by decide) rfl (fun ls hl => ?_)
  refine lv_iload_n hx hb dL_stage_4 rfl (lv_at hl 0 rfl) ?_
  refine lv_iconst (v := nI 4) hx hb dL_stage_5 (by decide) ?_
  refine xr_ge_n (a := 1) (b := 4) (tgt := 51) hx hb (by decide) (by decide) dL_stage_6 (by decide) (fun c9 => absurd c9 (by decide)) (fun _ => ?_)
  refine lv_aload_n hx hb dL_stage_9 rfl (lv_at hl 2 rfl) ?_
  refine lv_iload_n hx hb dL_stage_10 rfl (lv_at hl 3 rfl) ?_
  refine lv_iconst (v := nI 2) hx hb dL_stage_11 (by decide) ?_
  refine zrV (M := M) (M' := M) (x := T 8 b) (As := [.int (nI b), .int (nI 2)]) (rest := []) hx hb hml hown hts hN hK (t_batch2 l dC dI z eT hI (by omega)) 2 gL_stage_X9_batch rfl hdV_X9_batch ⟨Nat.le_of_ble_eq_true rfl, Nat.le_of_ble_eq_true rfl⟩ hP hD hS rfl hl.1 rfl (Nat.le_of_ble_eq_true rfl) dL_stage_12 ⟨Nat.zero_le _, Nat.zero_le _⟩ (fun H locs hP hD hS => ?_)
  refine lv_bipush (v := nI 100) hx hb dL_stage_15 (by decide) ?_
  refine lv_imul hx hb dL_stage_17 ?_
  refine lv_aload_n hx hb dL_stage_18 rfl (lv_at hl 2 rfl) ?_
  refine lv_iload_n hx hb dL_stage_19 rfl (lv_at hl 0 rfl) ?_
  refine lv_iconst (v := nI 0) hx hb dL_stage_20 (by decide) ?_
  refine zrV (M := M) (M' := M) (x := T 30 1) (As := [.int (nI 1), .int (nI 0)]) (rest := [.int ((T 8 b) * (nI 100))]) hx hb hml hown hts hN hK (t_stage0 l dC dI z eT hI (by omega)) 2 gL_stage_X9_stage rfl hdV_X9_stage ⟨Nat.le_of_ble_eq_true rfl, Nat.le_of_ble_eq_true rfl⟩ hP hD hS rfl hl.1 rfl (Nat.le_of_ble_eq_true rfl) dL_stage_21 ⟨Nat.zero_le _, Nat.zero_le _⟩ (fun H locs hP hD hS => ?_)
  refine lv_aload_n hx hb dL_stage_24 rfl (lv_at hl 2 rfl) ?_
  refine lv_aload_n hx hb dL_stage_25 rfl (lv_at hl 2 rfl) ?_
  refine lv_iload_n hx hb dL_stage_26 rfl (lv_at hl 3 rfl) ?_
  refine lv_iconst (v := nI 0) hx hb dL_stage_27 (by decide) ?_
  refine zrV (M := M) (M' := M) (x := nI ((T 6 b).toNatClampNeg)) (As := [.int (nI b), .int (nI 0)]) (rest := [.ref (zo z), .int (T 30 1), .int ((T 8 b) * (nI 100))]) hx hb hml hown hts hN hK (zX.r (t_batch0 l dC dI z eT hI (by omega)) ((hI).gb (by omega)).2) 2 gL_stage_X9_batch rfl hdV_X9_batch ⟨Nat.le_of_ble_eq_true rfl, Nat.le_of_ble_eq_true rfl⟩ hP hD hS rfl hl.1 rfl (Nat.le_of_ble_eq_true rfl) dL_stage_28 ⟨Nat.zero_le _, Nat.zero_le _⟩ (fun H locs hP hD hS => ?_)
  refine lv_iconst (v := nI 1) hx hb dL_stage_31 (by decide) ?_
  refine zrV (M := M) (M' := M) (x := T 2 ((T 6 b).toNatClampNeg)) (As := [.int (nI ((T 6 b).toNatClampNeg)), .int (nI 1)]) (rest := [.int (T 30 1), .int ((T 8 b) * (nI 100))]) hx hb hml hown hts hN hK (t_good1 l dC dI z eT hI (hI.gb hb1).1) 2 gL_stage_X9_good rfl hdV_X9_good ⟨Nat.le_of_ble_eq_true rfl, Nat.le_of_ble_eq_true rfl⟩ hP hD hS rfl hl.1 rfl (Nat.le_of_ble_eq_true rfl) dL_stage_32 ⟨Nat.zero_le _, Nat.zero_le _⟩ (fun H locs hP hD hS => ?_)
  refine lv_imul hx hb dL_stage_35 ?_
  refine lv_icmp_gt (tgt := 43) hx hb dL_stage_36 (by decide) (fun c_1 => ?_) (fun c_1 => ?_)
  · skip
    refine lv_iload_n hx hb dL_stage_43 rfl (lv_at hl 1 rfl) ?_
    refine lv_istore_n (lv' := [(2, .int (nI 0)), (3, .int (nI 1)), (0, .ref (zo z)), (1, .int (nI b))]) hx hb dL_stage_44 rfl hl (by decide) rfl (fun ls hl => ?_)
    refine lv_iinc (v := nI 2) (lv' := [(3, .int (nI 2)), (2, .int (nI 0)), (0, .ref (zo z)), (1, .int (nI b))]) hx hb dL_stage_45 hl (k := 1) rfl (nI_inc1 1) (by decide) rfl (fun ls hl => ?_)
    refine lv_goto (tgt := 4) hx hb dL_stage_48 (by decide) ?_
    refine lv_iload_n hx hb dL_stage_4 rfl (lv_at hl 0 rfl) ?_
    refine lv_iconst (v := nI 4) hx hb dL_stage_5 (by decide) ?_
    refine xr_ge_n (a := 2) (b := 4) (tgt := 51) hx hb (by decide) (by decide) dL_stage_6 (by decide) (fun c9 => absurd c9 (by decide)) (fun _ => ?_)
    refine lv_aload_n hx hb dL_stage_9 rfl (lv_at hl 2 rfl) ?_
    refine lv_iload_n hx hb dL_stage_10 rfl (lv_at hl 3 rfl) ?_
    refine lv_iconst (v := nI 2) hx hb dL_stage_11 (by decide) ?_
    refine zrV (M := M) (M' := M) (x := T 8 b) (As := [.int (nI b), .int (nI 2)]) (rest := []) hx hb hml hown hts hN hK (t_batch2 l dC dI z eT hI (by omega)) 2 gL_stage_X9_batch rfl hdV_X9_batch ⟨Nat.le_of_ble_eq_true rfl, Nat.le_of_ble_eq_true rfl⟩ hP hD hS rfl hl.1 rfl (Nat.le_of_ble_eq_true rfl) dL_stage_12 ⟨Nat.zero_le _, Nat.zero_le _⟩ (fun H locs hP hD hS => ?_)
    refine lv_bipush (v := nI 100) hx hb dL_stage_15 (by decide) ?_
    refine lv_imul hx hb dL_stage_17 ?_
    refine lv_aload_n hx hb dL_stage_18 rfl (lv_at hl 2 rfl) ?_
    refine lv_iload_n hx hb dL_stage_19 rfl (lv_at hl 0 rfl) ?_
    refine lv_iconst (v := nI 0) hx hb dL_stage_20 (by decide) ?_
    refine zrV (M := M) (M' := M) (x := T 30 2) (As := [.int (nI 2), .int (nI 0)]) (rest := [.int ((T 8 b) * (nI 100))]) hx hb hml hown hts hN hK (t_stage0 l dC dI z eT hI (by omega)) 2 gL_stage_X9_stage rfl hdV_X9_stage ⟨Nat.le_of_ble_eq_true rfl, Nat.le_of_ble_eq_true rfl⟩ hP hD hS rfl hl.1 rfl (Nat.le_of_ble_eq_true rfl) dL_stage_21 ⟨Nat.zero_le _, Nat.zero_le _⟩ (fun H locs hP hD hS => ?_)
    refine lv_aload_n hx hb dL_stage_24 rfl (lv_at hl 2 rfl) ?_
    refine lv_aload_n hx hb dL_stage_25 rfl (lv_at hl 2 rfl) ?_
    refine lv_iload_n hx hb dL_stage_26 rfl (lv_at hl 3 rfl) ?_
    refine lv_iconst (v := nI 0) hx hb dL_stage_27 (by decide) ?_
    refine zrV (M := M) (M' := M) (x := nI ((T 6 b).toNatClampNeg)) (As := [.int (nI b), .int (nI 0)]) (rest := [.ref (zo z), .int (T 30 2), .int ((T 8 b) * (nI 100))]) hx hb hml hown hts hN hK (zX.r (t_batch0 l dC dI z eT hI (by omega)) ((hI).gb (by omega)).2) 2 gL_stage_X9_batch rfl hdV_X9_batch ⟨Nat.le_of_ble_eq_true rfl, Nat.le_of_ble_eq_true rfl⟩ hP hD hS rfl hl.1 rfl (Nat.le_of_ble_eq_true rfl) dL_stage_28 ⟨Nat.zero_le _, Nat.zero_le _⟩ (fun H locs hP hD hS => ?_)
    refine lv_iconst (v := nI 1) hx hb dL_stage_31 (by decide) ?_
    refine zrV (M := M) (M' := M) (x := T 2 ((T 6 b).toNatClampNeg)) (As := [.int (nI ((T 6 b).toNatClampNeg)), .int (nI 1)]) (rest := [.int (T 30 2), .int ((T 8 b) * (nI 100))]) hx hb hml hown hts hN hK (t_good1 l dC dI z eT hI (hI.gb hb1).1) 2 gL_stage_X9_good rfl hdV_X9_good ⟨Nat.le_of_ble_eq_true rfl, Nat.le_of_ble_eq_true rfl⟩ hP hD hS rfl hl.1 rfl (Nat.le_of_ble_eq_true rfl) dL_stage_32 ⟨Nat.zero_le _, Nat.zero_le _⟩ (fun H locs hP hD hS => ?_)
    refine lv_imul hx hb dL_stage_35 ?_
    refine lv_icmp_gt (tgt := 43) hx hb dL_stage_36 (by decide) (fun c_2 => ?_) (fun c_2 => ?_)
    · skip
      refine lv_iload_n hx hb dL_stage_43 rfl (lv_at hl 1 rfl) ?_
      refine lv_istore_n (lv' := [(2, .int (nI 0)), (3, .int (nI 2)), (0, .ref (zo z)), (1, .int (nI b))]) hx hb dL_stage_44 rfl hl (by decide) rfl (fun ls hl => ?_)
      refine lv_iinc (v := nI 3) (lv' := [(3, .int (nI 3)), (2, .int (nI 0)), (0, .ref (zo z)), (1, .int (nI b))]) hx hb dL_stage_45 hl (k := 1) rfl (nI_inc1 2) (by decide) rfl (fun ls hl => ?_)
      refine lv_goto (tgt := 4) hx hb dL_stage_48 (by decide) ?_
      refine lv_iload_n hx hb dL_stage_4 rfl (lv_at hl 0 rfl) ?_
      refine lv_iconst (v := nI 4) hx hb dL_stage_5 (by decide) ?_
      refine xr_ge_n (a := 3) (b := 4) (tgt := 51) hx hb (by decide) (by decide) dL_stage_6 (by decide) (fun c9 => absurd c9 (by decide)) (fun _ => ?_)
      refine lv_aload_n hx hb dL_stage_9 rfl (lv_at hl 2 rfl) ?_
      refine lv_iload_n hx hb dL_stage_10 rfl (lv_at hl 3 rfl) ?_
      refine lv_iconst (v := nI 2) hx hb dL_stage_11 (by decide) ?_
      refine zrV (M := M) (M' := M) (x := T 8 b) (As := [.int (nI b), .int (nI 2)]) (rest := []) hx hb hml hown hts hN hK (t_batch2 l dC dI z eT hI (by omega)) 2 gL_stage_X9_batch rfl hdV_X9_batch ⟨Nat.le_of_ble_eq_true rfl, Nat.le_of_ble_eq_true rfl⟩ hP hD hS rfl hl.1 rfl (Nat.le_of_ble_eq_true rfl) dL_stage_12 ⟨Nat.zero_le _, Nat.zero_le _⟩ (fun H locs hP hD hS => ?_)
      refine lv_bipush (v := nI 100) hx hb dL_stage_15 (by decide) ?_
      refine lv_imul hx hb dL_stage_17 ?_
      refine lv_aload_n hx hb dL_stage_18 rfl (lv_at hl 2 rfl) ?_
      refine lv_iload_n hx hb dL_stage_19 rfl (lv_at hl 0 rfl) ?_
      refine lv_iconst (v := nI 0) hx hb dL_stage_20 (by decide) ?_
      refine zrV (M := M) (M' := M) (x := T 30 3) (As := [.int (nI 3), .int (nI 0)]) (rest := [.int ((T 8 b) * (nI 100))]) hx hb hml hown hts hN hK (t_stage0 l dC dI z eT hI (by omega)) 2 gL_stage_X9_stage rfl hdV_X9_stage ⟨Nat.le_of_ble_eq_true rfl, Nat.le_of_ble_eq_true rfl⟩ hP hD hS rfl hl.1 rfl (Nat.le_of_ble_eq_true rfl) dL_stage_21 ⟨Nat.zero_le _, Nat.zero_le _⟩ (fun H locs hP hD hS => ?_)
      refine lv_aload_n hx hb dL_stage_24 rfl (lv_at hl 2 rfl) ?_
      refine lv_aload_n hx hb dL_stage_25 rfl (lv_at hl 2 rfl) ?_
      refine lv_iload_n hx hb dL_stage_26 rfl (lv_at hl 3 rfl) ?_
      refine lv_iconst (v := nI 0) hx hb dL_stage_27 (by decide) ?_
      refine zrV (M := M) (M' := M) (x := nI ((T 6 b).toNatClampNeg)) (As := [.int (nI b), .int (nI 0)]) (rest := [.ref (zo z), .int (T 30 3), .int ((T 8 b) * (nI 100))]) hx hb hml hown hts hN hK (zX.r (t_batch0 l dC dI z eT hI (by omega)) ((hI).gb (by omega)).2) 2 gL_stage_X9_batch rfl hdV_X9_batch ⟨Nat.le_of_ble_eq_true rfl, Nat.le_of_ble_eq_true rfl⟩ hP hD hS rfl hl.1 rfl (Nat.le_of_ble_eq_true rfl) dL_stage_28 ⟨Nat.zero_le _, Nat.zero_le _⟩ (fun H locs hP hD hS => ?_)
      refine lv_iconst (v := nI 1) hx hb dL_stage_31 (by decide) ?_
      refine zrV (M := M) (M' := M) (x := T 2 ((T 6 b).toNatClampNeg)) (As := [.int (nI ((T 6 b).toNatClampNeg)), .int (nI 1)]) (rest := [.int (T 30 3), .int ((T 8 b) * (nI 100))]) hx hb hml hown hts hN hK (t_good1 l dC dI z eT hI (hI.gb hb1).1) 2 gL_stage_X9_good rfl hdV_X9_good ⟨Nat.le_of_ble_eq_true rfl, Nat.le_of_ble_eq_true rfl⟩ hP hD hS rfl hl.1 rfl (Nat.le_of_ble_eq_true rfl) dL_stage_32 ⟨Nat.zero_le _, Nat.zero_le _⟩ (fun H locs hP hD hS => ?_)
      refine lv_imul hx hb dL_stage_35 ?_
      refine lv_icmp_gt (tgt := 43) hx hb dL_stage_36 (by decide) (fun c_3 => ?_) (fun c_3 => ?_)
      · skip
        refine lv_iload_n hx hb dL_stage_43 rfl (lv_at hl 1 rfl) ?_
        refine lv_istore_n (lv' := [(2, .int (nI 0)), (3, .int (nI 3)), (0, .ref (zo z)), (1, .int (nI b))]) hx hb dL_stage_44 rfl hl (by decide) rfl (fun ls hl => ?_)
        refine lv_iinc (v := nI 4) (lv' := [(3, .int (nI 4)), (2, .int (nI 0)), (0, .ref (zo z)), (1, .int (nI b))]) hx hb dL_stage_45 hl (k := 1) rfl (nI_inc1 3) (by decide) rfl (fun ls hl => ?_)
        refine lv_goto (tgt := 4) hx hb dL_stage_48 (by decide) ?_
        refine lv_iload_n hx hb dL_stage_4 rfl (lv_at hl 0 rfl) ?_
        refine lv_iconst (v := nI 4) hx hb dL_stage_5 (by decide) ?_
        refine xr_ge_n (a := 4) (b := 4) (tgt := 51) hx hb (by decide) (by decide) dL_stage_6 (by decide) (fun _ => ?_) (fun c9 => absurd c9 (by decide))
        refine lv_iload_n hx hb dL_stage_51 rfl (lv_at hl 1 rfl) ?_
        have hS9 : va_S (va_B (cw z M)) s.heap H locs := by rw [← hA]; exact hS
        exact W.iret (v := nI 0) hx hb hr (fun t ht hW => ⟨⟨_, _, rfl, ⟨M, rfl, ⟨by unfold xstg xreach; rw [if_pos c_3, if_pos c_2, if_pos c_1], rfl⟩⟩, by rw [ht]; exact hP⟩, hS9.X ht⟩) hS9.2.2 dL_stage_52
      refine lv_iload_n hx hb dL_stage_39 rfl (lv_at hl 0 rfl) ?_
      refine lv_goto (tgt := 44) hx hb dL_stage_40 (by decide) ?_
      refine lv_istore_n (lv' := [(2, .int (nI 3)), (3, .int (nI 3)), (0, .ref (zo z)), (1, .int (nI b))]) hx hb dL_stage_44 rfl hl (by decide) rfl (fun ls hl => ?_)
      refine lv_iinc (v := nI 4) (lv' := [(3, .int (nI 4)), (2, .int (nI 3)), (0, .ref (zo z)), (1, .int (nI b))]) hx hb dL_stage_45 hl (k := 1) rfl (nI_inc1 3) (by decide) rfl (fun ls hl => ?_)
      refine lv_goto (tgt := 4) hx hb dL_stage_48 (by decide) ?_
      refine lv_iload_n hx hb dL_stage_4 rfl (lv_at hl 0 rfl) ?_
      refine lv_iconst (v := nI 4) hx hb dL_stage_5 (by decide) ?_
      refine xr_ge_n (a := 4) (b := 4) (tgt := 51) hx hb (by decide) (by decide) dL_stage_6 (by decide) (fun _ => ?_) (fun c9 => absurd c9 (by decide))
      refine lv_iload_n hx hb dL_stage_51 rfl (lv_at hl 1 rfl) ?_
      have hS9 : va_S (va_B (cw z M)) s.heap H locs := by rw [← hA]; exact hS
      exact W.iret (v := nI 3) hx hb hr (fun t ht hW => ⟨⟨_, _, rfl, ⟨M, rfl, ⟨by unfold xstg xreach; rw [if_neg c_3], rfl⟩⟩, by rw [ht]; exact hP⟩, hS9.X ht⟩) hS9.2.2 dL_stage_52
    refine lv_iload_n hx hb dL_stage_39 rfl (lv_at hl 0 rfl) ?_
    refine lv_goto (tgt := 44) hx hb dL_stage_40 (by decide) ?_
    refine lv_istore_n (lv' := [(2, .int (nI 2)), (3, .int (nI 2)), (0, .ref (zo z)), (1, .int (nI b))]) hx hb dL_stage_44 rfl hl (by decide) rfl (fun ls hl => ?_)
    refine lv_iinc (v := nI 3) (lv' := [(3, .int (nI 3)), (2, .int (nI 2)), (0, .ref (zo z)), (1, .int (nI b))]) hx hb dL_stage_45 hl (k := 1) rfl (nI_inc1 2) (by decide) rfl (fun ls hl => ?_)
    refine lv_goto (tgt := 4) hx hb dL_stage_48 (by decide) ?_
    refine lv_iload_n hx hb dL_stage_4 rfl (lv_at hl 0 rfl) ?_
    refine lv_iconst (v := nI 4) hx hb dL_stage_5 (by decide) ?_
    refine xr_ge_n (a := 3) (b := 4) (tgt := 51) hx hb (by decide) (by decide) dL_stage_6 (by decide) (fun c9 => absurd c9 (by decide)) (fun _ => ?_)
    refine lv_aload_n hx hb dL_stage_9 rfl (lv_at hl 2 rfl) ?_
    refine lv_iload_n hx hb dL_stage_10 rfl (lv_at hl 3 rfl) ?_
    refine lv_iconst (v := nI 2) hx hb dL_stage_11 (by decide) ?_
    refine zrV (M := M) (M' := M) (x := T 8 b) (As := [.int (nI b), .int (nI 2)]) (rest := []) hx hb hml hown hts hN hK (t_batch2 l dC dI z eT hI (by omega)) 2 gL_stage_X9_batch rfl hdV_X9_batch ⟨Nat.le_of_ble_eq_true rfl, Nat.le_of_ble_eq_true rfl⟩ hP hD hS rfl hl.1 rfl (Nat.le_of_ble_eq_true rfl) dL_stage_12 ⟨Nat.zero_le _, Nat.zero_le _⟩ (fun H locs hP hD hS => ?_)
    refine lv_bipush (v := nI 100) hx hb dL_stage_15 (by decide) ?_
    refine lv_imul hx hb dL_stage_17 ?_
    refine lv_aload_n hx hb dL_stage_18 rfl (lv_at hl 2 rfl) ?_
    refine lv_iload_n hx hb dL_stage_19 rfl (lv_at hl 0 rfl) ?_
    refine lv_iconst (v := nI 0) hx hb dL_stage_20 (by decide) ?_
    refine zrV (M := M) (M' := M) (x := T 30 3) (As := [.int (nI 3), .int (nI 0)]) (rest := [.int ((T 8 b) * (nI 100))]) hx hb hml hown hts hN hK (t_stage0 l dC dI z eT hI (by omega)) 2 gL_stage_X9_stage rfl hdV_X9_stage ⟨Nat.le_of_ble_eq_true rfl, Nat.le_of_ble_eq_true rfl⟩ hP hD hS rfl hl.1 rfl (Nat.le_of_ble_eq_true rfl) dL_stage_21 ⟨Nat.zero_le _, Nat.zero_le _⟩ (fun H locs hP hD hS => ?_)
    refine lv_aload_n hx hb dL_stage_24 rfl (lv_at hl 2 rfl) ?_
    refine lv_aload_n hx hb dL_stage_25 rfl (lv_at hl 2 rfl) ?_
    refine lv_iload_n hx hb dL_stage_26 rfl (lv_at hl 3 rfl) ?_
    refine lv_iconst (v := nI 0) hx hb dL_stage_27 (by decide) ?_
    refine zrV (M := M) (M' := M) (x := nI ((T 6 b).toNatClampNeg)) (As := [.int (nI b), .int (nI 0)]) (rest := [.ref (zo z), .int (T 30 3), .int ((T 8 b) * (nI 100))]) hx hb hml hown hts hN hK (zX.r (t_batch0 l dC dI z eT hI (by omega)) ((hI).gb (by omega)).2) 2 gL_stage_X9_batch rfl hdV_X9_batch ⟨Nat.le_of_ble_eq_true rfl, Nat.le_of_ble_eq_true rfl⟩ hP hD hS rfl hl.1 rfl (Nat.le_of_ble_eq_true rfl) dL_stage_28 ⟨Nat.zero_le _, Nat.zero_le _⟩ (fun H locs hP hD hS => ?_)
    refine lv_iconst (v := nI 1) hx hb dL_stage_31 (by decide) ?_
    refine zrV (M := M) (M' := M) (x := T 2 ((T 6 b).toNatClampNeg)) (As := [.int (nI ((T 6 b).toNatClampNeg)), .int (nI 1)]) (rest := [.int (T 30 3), .int ((T 8 b) * (nI 100))]) hx hb hml hown hts hN hK (t_good1 l dC dI z eT hI (hI.gb hb1).1) 2 gL_stage_X9_good rfl hdV_X9_good ⟨Nat.le_of_ble_eq_true rfl, Nat.le_of_ble_eq_true rfl⟩ hP hD hS rfl hl.1 rfl (Nat.le_of_ble_eq_true rfl) dL_stage_32 ⟨Nat.zero_le _, Nat.zero_le _⟩ (fun H locs hP hD hS => ?_)
    refine lv_imul hx hb dL_stage_35 ?_
    refine lv_icmp_gt (tgt := 43) hx hb dL_stage_36 (by decide) (fun c_4 => ?_) (fun c_4 => ?_)
    · skip
      refine lv_iload_n hx hb dL_stage_43 rfl (lv_at hl 1 rfl) ?_
      refine lv_istore_n (lv' := [(2, .int (nI 2)), (3, .int (nI 3)), (0, .ref (zo z)), (1, .int (nI b))]) hx hb dL_stage_44 rfl hl (by decide) rfl (fun ls hl => ?_)
      refine lv_iinc (v := nI 4) (lv' := [(3, .int (nI 4)), (2, .int (nI 2)), (0, .ref (zo z)), (1, .int (nI b))]) hx hb dL_stage_45 hl (k := 1) rfl (nI_inc1 3) (by decide) rfl (fun ls hl => ?_)
      refine lv_goto (tgt := 4) hx hb dL_stage_48 (by decide) ?_
      refine lv_iload_n hx hb dL_stage_4 rfl (lv_at hl 0 rfl) ?_
      refine lv_iconst (v := nI 4) hx hb dL_stage_5 (by decide) ?_
      refine xr_ge_n (a := 4) (b := 4) (tgt := 51) hx hb (by decide) (by decide) dL_stage_6 (by decide) (fun _ => ?_) (fun c9 => absurd c9 (by decide))
      refine lv_iload_n hx hb dL_stage_51 rfl (lv_at hl 1 rfl) ?_
      have hS9 : va_S (va_B (cw z M)) s.heap H locs := by rw [← hA]; exact hS
      exact W.iret (v := nI 2) hx hb hr (fun t ht hW => ⟨⟨_, _, rfl, ⟨M, rfl, ⟨by unfold xstg xreach; rw [if_pos c_4, if_neg c_2], rfl⟩⟩, by rw [ht]; exact hP⟩, hS9.X ht⟩) hS9.2.2 dL_stage_52
    refine lv_iload_n hx hb dL_stage_39 rfl (lv_at hl 0 rfl) ?_
    refine lv_goto (tgt := 44) hx hb dL_stage_40 (by decide) ?_
    refine lv_istore_n (lv' := [(2, .int (nI 3)), (3, .int (nI 3)), (0, .ref (zo z)), (1, .int (nI b))]) hx hb dL_stage_44 rfl hl (by decide) rfl (fun ls hl => ?_)
    refine lv_iinc (v := nI 4) (lv' := [(3, .int (nI 4)), (2, .int (nI 3)), (0, .ref (zo z)), (1, .int (nI b))]) hx hb dL_stage_45 hl (k := 1) rfl (nI_inc1 3) (by decide) rfl (fun ls hl => ?_)
    refine lv_goto (tgt := 4) hx hb dL_stage_48 (by decide) ?_
    refine lv_iload_n hx hb dL_stage_4 rfl (lv_at hl 0 rfl) ?_
    refine lv_iconst (v := nI 4) hx hb dL_stage_5 (by decide) ?_
    refine xr_ge_n (a := 4) (b := 4) (tgt := 51) hx hb (by decide) (by decide) dL_stage_6 (by decide) (fun _ => ?_) (fun c9 => absurd c9 (by decide))
    refine lv_iload_n hx hb dL_stage_51 rfl (lv_at hl 1 rfl) ?_
    have hS9 : va_S (va_B (cw z M)) s.heap H locs := by rw [← hA]; exact hS
    exact W.iret (v := nI 3) hx hb hr (fun t ht hW => ⟨⟨_, _, rfl, ⟨M, rfl, ⟨by unfold xstg xreach; rw [if_neg c_4], rfl⟩⟩, by rw [ht]; exact hP⟩, hS9.X ht⟩) hS9.2.2 dL_stage_52
  refine lv_iload_n hx hb dL_stage_39 rfl (lv_at hl 0 rfl) ?_
  refine lv_goto (tgt := 44) hx hb dL_stage_40 (by decide) ?_
  refine lv_istore_n (lv' := [(2, .int (nI 1)), (3, .int (nI 1)), (0, .ref (zo z)), (1, .int (nI b))]) hx hb dL_stage_44 rfl hl (by decide) rfl (fun ls hl => ?_)
  refine lv_iinc (v := nI 2) (lv' := [(3, .int (nI 2)), (2, .int (nI 1)), (0, .ref (zo z)), (1, .int (nI b))]) hx hb dL_stage_45 hl (k := 1) rfl (nI_inc1 1) (by decide) rfl (fun ls hl => ?_)
  refine lv_goto (tgt := 4) hx hb dL_stage_48 (by decide) ?_
  refine lv_iload_n hx hb dL_stage_4 rfl (lv_at hl 0 rfl) ?_
  refine lv_iconst (v := nI 4) hx hb dL_stage_5 (by decide) ?_
  refine xr_ge_n (a := 2) (b := 4) (tgt := 51) hx hb (by decide) (by decide) dL_stage_6 (by decide) (fun c9 => absurd c9 (by decide)) (fun _ => ?_)
  refine lv_aload_n hx hb dL_stage_9 rfl (lv_at hl 2 rfl) ?_
  refine lv_iload_n hx hb dL_stage_10 rfl (lv_at hl 3 rfl) ?_
  refine lv_iconst (v := nI 2) hx hb dL_stage_11 (by decide) ?_
  refine zrV (M := M) (M' := M) (x := T 8 b) (As := [.int (nI b), .int (nI 2)]) (rest := []) hx hb hml hown hts hN hK (t_batch2 l dC dI z eT hI (by omega)) 2 gL_stage_X9_batch rfl hdV_X9_batch ⟨Nat.le_of_ble_eq_true rfl, Nat.le_of_ble_eq_true rfl⟩ hP hD hS rfl hl.1 rfl (Nat.le_of_ble_eq_true rfl) dL_stage_12 ⟨Nat.zero_le _, Nat.zero_le _⟩ (fun H locs hP hD hS => ?_)
  refine lv_bipush (v := nI 100) hx hb dL_stage_15 (by decide) ?_
  refine lv_imul hx hb dL_stage_17 ?_
  refine lv_aload_n hx hb dL_stage_18 rfl (lv_at hl 2 rfl) ?_
  refine lv_iload_n hx hb dL_stage_19 rfl (lv_at hl 0 rfl) ?_
  refine lv_iconst (v := nI 0) hx hb dL_stage_20 (by decide) ?_
  refine zrV (M := M) (M' := M) (x := T 30 2) (As := [.int (nI 2), .int (nI 0)]) (rest := [.int ((T 8 b) * (nI 100))]) hx hb hml hown hts hN hK (t_stage0 l dC dI z eT hI (by omega)) 2 gL_stage_X9_stage rfl hdV_X9_stage ⟨Nat.le_of_ble_eq_true rfl, Nat.le_of_ble_eq_true rfl⟩ hP hD hS rfl hl.1 rfl (Nat.le_of_ble_eq_true rfl) dL_stage_21 ⟨Nat.zero_le _, Nat.zero_le _⟩ (fun H locs hP hD hS => ?_)
  refine lv_aload_n hx hb dL_stage_24 rfl (lv_at hl 2 rfl) ?_
  refine lv_aload_n hx hb dL_stage_25 rfl (lv_at hl 2 rfl) ?_
  refine lv_iload_n hx hb dL_stage_26 rfl (lv_at hl 3 rfl) ?_
  refine lv_iconst (v := nI 0) hx hb dL_stage_27 (by decide) ?_
  refine zrV (M := M) (M' := M) (x := nI ((T 6 b).toNatClampNeg)) (As := [.int (nI b), .int (nI 0)]) (rest := [.ref (zo z), .int (T 30 2), .int ((T 8 b) * (nI 100))]) hx hb hml hown hts hN hK (zX.r (t_batch0 l dC dI z eT hI (by omega)) ((hI).gb (by omega)).2) 2 gL_stage_X9_batch rfl hdV_X9_batch ⟨Nat.le_of_ble_eq_true rfl, Nat.le_of_ble_eq_true rfl⟩ hP hD hS rfl hl.1 rfl (Nat.le_of_ble_eq_true rfl) dL_stage_28 ⟨Nat.zero_le _, Nat.zero_le _⟩ (fun H locs hP hD hS => ?_)
  refine lv_iconst (v := nI 1) hx hb dL_stage_31 (by decide) ?_
  refine zrV (M := M) (M' := M) (x := T 2 ((T 6 b).toNatClampNeg)) (As := [.int (nI ((T 6 b).toNatClampNeg)), .int (nI 1)]) (rest := [.int (T 30 2), .int ((T 8 b) * (nI 100))]) hx hb hml hown hts hN hK (t_good1 l dC dI z eT hI (hI.gb hb1).1) 2 gL_stage_X9_good rfl hdV_X9_good ⟨Nat.le_of_ble_eq_true rfl, Nat.le_of_ble_eq_true rfl⟩ hP hD hS rfl hl.1 rfl (Nat.le_of_ble_eq_true rfl) dL_stage_32 ⟨Nat.zero_le _, Nat.zero_le _⟩ (fun H locs hP hD hS => ?_)
  refine lv_imul hx hb dL_stage_35 ?_
  refine lv_icmp_gt (tgt := 43) hx hb dL_stage_36 (by decide) (fun c_5 => ?_) (fun c_5 => ?_)
  · skip
    refine lv_iload_n hx hb dL_stage_43 rfl (lv_at hl 1 rfl) ?_
    refine lv_istore_n (lv' := [(2, .int (nI 1)), (3, .int (nI 2)), (0, .ref (zo z)), (1, .int (nI b))]) hx hb dL_stage_44 rfl hl (by decide) rfl (fun ls hl => ?_)
    refine lv_iinc (v := nI 3) (lv' := [(3, .int (nI 3)), (2, .int (nI 1)), (0, .ref (zo z)), (1, .int (nI b))]) hx hb dL_stage_45 hl (k := 1) rfl (nI_inc1 2) (by decide) rfl (fun ls hl => ?_)
    refine lv_goto (tgt := 4) hx hb dL_stage_48 (by decide) ?_
    refine lv_iload_n hx hb dL_stage_4 rfl (lv_at hl 0 rfl) ?_
    refine lv_iconst (v := nI 4) hx hb dL_stage_5 (by decide) ?_
    refine xr_ge_n (a := 3) (b := 4) (tgt := 51) hx hb (by decide) (by decide) dL_stage_6 (by decide) (fun c9 => absurd c9 (by decide)) (fun _ => ?_)
    refine lv_aload_n hx hb dL_stage_9 rfl (lv_at hl 2 rfl) ?_
    refine lv_iload_n hx hb dL_stage_10 rfl (lv_at hl 3 rfl) ?_
    refine lv_iconst (v := nI 2) hx hb dL_stage_11 (by decide) ?_
    refine zrV (M := M) (M' := M) (x := T 8 b) (As := [.int (nI b), .int (nI 2)]) (rest := []) hx hb hml hown hts hN hK (t_batch2 l dC dI z eT hI (by omega)) 2 gL_stage_X9_batch rfl hdV_X9_batch ⟨Nat.le_of_ble_eq_true rfl, Nat.le_of_ble_eq_true rfl⟩ hP hD hS rfl hl.1 rfl (Nat.le_of_ble_eq_true rfl) dL_stage_12 ⟨Nat.zero_le _, Nat.zero_le _⟩ (fun H locs hP hD hS => ?_)
    refine lv_bipush (v := nI 100) hx hb dL_stage_15 (by decide) ?_
    refine lv_imul hx hb dL_stage_17 ?_
    refine lv_aload_n hx hb dL_stage_18 rfl (lv_at hl 2 rfl) ?_
    refine lv_iload_n hx hb dL_stage_19 rfl (lv_at hl 0 rfl) ?_
    refine lv_iconst (v := nI 0) hx hb dL_stage_20 (by decide) ?_
    refine zrV (M := M) (M' := M) (x := T 30 3) (As := [.int (nI 3), .int (nI 0)]) (rest := [.int ((T 8 b) * (nI 100))]) hx hb hml hown hts hN hK (t_stage0 l dC dI z eT hI (by omega)) 2 gL_stage_X9_stage rfl hdV_X9_stage ⟨Nat.le_of_ble_eq_true rfl, Nat.le_of_ble_eq_true rfl⟩ hP hD hS rfl hl.1 rfl (Nat.le_of_ble_eq_true rfl) dL_stage_21 ⟨Nat.zero_le _, Nat.zero_le _⟩ (fun H locs hP hD hS => ?_)
    refine lv_aload_n hx hb dL_stage_24 rfl (lv_at hl 2 rfl) ?_
    refine lv_aload_n hx hb dL_stage_25 rfl (lv_at hl 2 rfl) ?_
    refine lv_iload_n hx hb dL_stage_26 rfl (lv_at hl 3 rfl) ?_
    refine lv_iconst (v := nI 0) hx hb dL_stage_27 (by decide) ?_
    refine zrV (M := M) (M' := M) (x := nI ((T 6 b).toNatClampNeg)) (As := [.int (nI b), .int (nI 0)]) (rest := [.ref (zo z), .int (T 30 3), .int ((T 8 b) * (nI 100))]) hx hb hml hown hts hN hK (zX.r (t_batch0 l dC dI z eT hI (by omega)) ((hI).gb (by omega)).2) 2 gL_stage_X9_batch rfl hdV_X9_batch ⟨Nat.le_of_ble_eq_true rfl, Nat.le_of_ble_eq_true rfl⟩ hP hD hS rfl hl.1 rfl (Nat.le_of_ble_eq_true rfl) dL_stage_28 ⟨Nat.zero_le _, Nat.zero_le _⟩ (fun H locs hP hD hS => ?_)
    refine lv_iconst (v := nI 1) hx hb dL_stage_31 (by decide) ?_
    refine zrV (M := M) (M' := M) (x := T 2 ((T 6 b).toNatClampNeg)) (As := [.int (nI ((T 6 b).toNatClampNeg)), .int (nI 1)]) (rest := [.int (T 30 3), .int ((T 8 b) * (nI 100))]) hx hb hml hown hts hN hK (t_good1 l dC dI z eT hI (hI.gb hb1).1) 2 gL_stage_X9_good rfl hdV_X9_good ⟨Nat.le_of_ble_eq_true rfl, Nat.le_of_ble_eq_true rfl⟩ hP hD hS rfl hl.1 rfl (Nat.le_of_ble_eq_true rfl) dL_stage_32 ⟨Nat.zero_le _, Nat.zero_le _⟩ (fun H locs hP hD hS => ?_)
    refine lv_imul hx hb dL_stage_35 ?_
    refine lv_icmp_gt (tgt := 43) hx hb dL_stage_36 (by decide) (fun c_6 => ?_) (fun c_6 => ?_)
    · skip
      refine lv_iload_n hx hb dL_stage_43 rfl (lv_at hl 1 rfl) ?_
      refine lv_istore_n (lv' := [(2, .int (nI 1)), (3, .int (nI 3)), (0, .ref (zo z)), (1, .int (nI b))]) hx hb dL_stage_44 rfl hl (by decide) rfl (fun ls hl => ?_)
      refine lv_iinc (v := nI 4) (lv' := [(3, .int (nI 4)), (2, .int (nI 1)), (0, .ref (zo z)), (1, .int (nI b))]) hx hb dL_stage_45 hl (k := 1) rfl (nI_inc1 3) (by decide) rfl (fun ls hl => ?_)
      refine lv_goto (tgt := 4) hx hb dL_stage_48 (by decide) ?_
      refine lv_iload_n hx hb dL_stage_4 rfl (lv_at hl 0 rfl) ?_
      refine lv_iconst (v := nI 4) hx hb dL_stage_5 (by decide) ?_
      refine xr_ge_n (a := 4) (b := 4) (tgt := 51) hx hb (by decide) (by decide) dL_stage_6 (by decide) (fun _ => ?_) (fun c9 => absurd c9 (by decide))
      refine lv_iload_n hx hb dL_stage_51 rfl (lv_at hl 1 rfl) ?_
      have hS9 : va_S (va_B (cw z M)) s.heap H locs := by rw [← hA]; exact hS
      exact W.iret (v := nI 1) hx hb hr (fun t ht hW => ⟨⟨_, _, rfl, ⟨M, rfl, ⟨by unfold xstg xreach; rw [if_pos c_6, if_pos c_5, if_neg c_1], rfl⟩⟩, by rw [ht]; exact hP⟩, hS9.X ht⟩) hS9.2.2 dL_stage_52
    refine lv_iload_n hx hb dL_stage_39 rfl (lv_at hl 0 rfl) ?_
    refine lv_goto (tgt := 44) hx hb dL_stage_40 (by decide) ?_
    refine lv_istore_n (lv' := [(2, .int (nI 3)), (3, .int (nI 3)), (0, .ref (zo z)), (1, .int (nI b))]) hx hb dL_stage_44 rfl hl (by decide) rfl (fun ls hl => ?_)
    refine lv_iinc (v := nI 4) (lv' := [(3, .int (nI 4)), (2, .int (nI 3)), (0, .ref (zo z)), (1, .int (nI b))]) hx hb dL_stage_45 hl (k := 1) rfl (nI_inc1 3) (by decide) rfl (fun ls hl => ?_)
    refine lv_goto (tgt := 4) hx hb dL_stage_48 (by decide) ?_
    refine lv_iload_n hx hb dL_stage_4 rfl (lv_at hl 0 rfl) ?_
    refine lv_iconst (v := nI 4) hx hb dL_stage_5 (by decide) ?_
    refine xr_ge_n (a := 4) (b := 4) (tgt := 51) hx hb (by decide) (by decide) dL_stage_6 (by decide) (fun _ => ?_) (fun c9 => absurd c9 (by decide))
    refine lv_iload_n hx hb dL_stage_51 rfl (lv_at hl 1 rfl) ?_
    have hS9 : va_S (va_B (cw z M)) s.heap H locs := by rw [← hA]; exact hS
    exact W.iret (v := nI 3) hx hb hr (fun t ht hW => ⟨⟨_, _, rfl, ⟨M, rfl, ⟨by unfold xstg xreach; rw [if_neg c_6], rfl⟩⟩, by rw [ht]; exact hP⟩, hS9.X ht⟩) hS9.2.2 dL_stage_52
  refine lv_iload_n hx hb dL_stage_39 rfl (lv_at hl 0 rfl) ?_
  refine lv_goto (tgt := 44) hx hb dL_stage_40 (by decide) ?_
  refine lv_istore_n (lv' := [(2, .int (nI 2)), (3, .int (nI 2)), (0, .ref (zo z)), (1, .int (nI b))]) hx hb dL_stage_44 rfl hl (by decide) rfl (fun ls hl => ?_)
  refine lv_iinc (v := nI 3) (lv' := [(3, .int (nI 3)), (2, .int (nI 2)), (0, .ref (zo z)), (1, .int (nI b))]) hx hb dL_stage_45 hl (k := 1) rfl (nI_inc1 2) (by decide) rfl (fun ls hl => ?_)
  refine lv_goto (tgt := 4) hx hb dL_stage_48 (by decide) ?_
  refine lv_iload_n hx hb dL_stage_4 rfl (lv_at hl 0 rfl) ?_
  refine lv_iconst (v := nI 4) hx hb dL_stage_5 (by decide) ?_
  refine xr_ge_n (a := 3) (b := 4) (tgt := 51) hx hb (by decide) (by decide) dL_stage_6 (by decide) (fun c9 => absurd c9 (by decide)) (fun _ => ?_)
  refine lv_aload_n hx hb dL_stage_9 rfl (lv_at hl 2 rfl) ?_
  refine lv_iload_n hx hb dL_stage_10 rfl (lv_at hl 3 rfl) ?_
  refine lv_iconst (v := nI 2) hx hb dL_stage_11 (by decide) ?_
  refine zrV (M := M) (M' := M) (x := T 8 b) (As := [.int (nI b), .int (nI 2)]) (rest := []) hx hb hml hown hts hN hK (t_batch2 l dC dI z eT hI (by omega)) 2 gL_stage_X9_batch rfl hdV_X9_batch ⟨Nat.le_of_ble_eq_true rfl, Nat.le_of_ble_eq_true rfl⟩ hP hD hS rfl hl.1 rfl (Nat.le_of_ble_eq_true rfl) dL_stage_12 ⟨Nat.zero_le _, Nat.zero_le _⟩ (fun H locs hP hD hS => ?_)
  refine lv_bipush (v := nI 100) hx hb dL_stage_15 (by decide) ?_
  refine lv_imul hx hb dL_stage_17 ?_
  refine lv_aload_n hx hb dL_stage_18 rfl (lv_at hl 2 rfl) ?_
  refine lv_iload_n hx hb dL_stage_19 rfl (lv_at hl 0 rfl) ?_
  refine lv_iconst (v := nI 0) hx hb dL_stage_20 (by decide) ?_
  refine zrV (M := M) (M' := M) (x := T 30 3) (As := [.int (nI 3), .int (nI 0)]) (rest := [.int ((T 8 b) * (nI 100))]) hx hb hml hown hts hN hK (t_stage0 l dC dI z eT hI (by omega)) 2 gL_stage_X9_stage rfl hdV_X9_stage ⟨Nat.le_of_ble_eq_true rfl, Nat.le_of_ble_eq_true rfl⟩ hP hD hS rfl hl.1 rfl (Nat.le_of_ble_eq_true rfl) dL_stage_21 ⟨Nat.zero_le _, Nat.zero_le _⟩ (fun H locs hP hD hS => ?_)
  refine lv_aload_n hx hb dL_stage_24 rfl (lv_at hl 2 rfl) ?_
  refine lv_aload_n hx hb dL_stage_25 rfl (lv_at hl 2 rfl) ?_
  refine lv_iload_n hx hb dL_stage_26 rfl (lv_at hl 3 rfl) ?_
  refine lv_iconst (v := nI 0) hx hb dL_stage_27 (by decide) ?_
  refine zrV (M := M) (M' := M) (x := nI ((T 6 b).toNatClampNeg)) (As := [.int (nI b), .int (nI 0)]) (rest := [.ref (zo z), .int (T 30 3), .int ((T 8 b) * (nI 100))]) hx hb hml hown hts hN hK (zX.r (t_batch0 l dC dI z eT hI (by omega)) ((hI).gb (by omega)).2) 2 gL_stage_X9_batch rfl hdV_X9_batch ⟨Nat.le_of_ble_eq_true rfl, Nat.le_of_ble_eq_true rfl⟩ hP hD hS rfl hl.1 rfl (Nat.le_of_ble_eq_true rfl) dL_stage_28 ⟨Nat.zero_le _, Nat.zero_le _⟩ (fun H locs hP hD hS => ?_)
  refine lv_iconst (v := nI 1) hx hb dL_stage_31 (by decide) ?_
  refine zrV (M := M) (M' := M) (x := T 2 ((T 6 b).toNatClampNeg)) (As := [.int (nI ((T 6 b).toNatClampNeg)), .int (nI 1)]) (rest := [.int (T 30 3), .int ((T 8 b) * (nI 100))]) hx hb hml hown hts hN hK (t_good1 l dC dI z eT hI (hI.gb hb1).1) 2 gL_stage_X9_good rfl hdV_X9_good ⟨Nat.le_of_ble_eq_true rfl, Nat.le_of_ble_eq_true rfl⟩ hP hD hS rfl hl.1 rfl (Nat.le_of_ble_eq_true rfl) dL_stage_32 ⟨Nat.zero_le _, Nat.zero_le _⟩ (fun H locs hP hD hS => ?_)
  refine lv_imul hx hb dL_stage_35 ?_
  refine lv_icmp_gt (tgt := 43) hx hb dL_stage_36 (by decide) (fun c_7 => ?_) (fun c_7 => ?_)
  · skip
    refine lv_iload_n hx hb dL_stage_43 rfl (lv_at hl 1 rfl) ?_
    refine lv_istore_n (lv' := [(2, .int (nI 2)), (3, .int (nI 3)), (0, .ref (zo z)), (1, .int (nI b))]) hx hb dL_stage_44 rfl hl (by decide) rfl (fun ls hl => ?_)
    refine lv_iinc (v := nI 4) (lv' := [(3, .int (nI 4)), (2, .int (nI 2)), (0, .ref (zo z)), (1, .int (nI b))]) hx hb dL_stage_45 hl (k := 1) rfl (nI_inc1 3) (by decide) rfl (fun ls hl => ?_)
    refine lv_goto (tgt := 4) hx hb dL_stage_48 (by decide) ?_
    refine lv_iload_n hx hb dL_stage_4 rfl (lv_at hl 0 rfl) ?_
    refine lv_iconst (v := nI 4) hx hb dL_stage_5 (by decide) ?_
    refine xr_ge_n (a := 4) (b := 4) (tgt := 51) hx hb (by decide) (by decide) dL_stage_6 (by decide) (fun _ => ?_) (fun c9 => absurd c9 (by decide))
    refine lv_iload_n hx hb dL_stage_51 rfl (lv_at hl 1 rfl) ?_
    have hS9 : va_S (va_B (cw z M)) s.heap H locs := by rw [← hA]; exact hS
    exact W.iret (v := nI 2) hx hb hr (fun t ht hW => ⟨⟨_, _, rfl, ⟨M, rfl, ⟨by unfold xstg xreach; rw [if_pos c_7, if_neg c_5], rfl⟩⟩, by rw [ht]; exact hP⟩, hS9.X ht⟩) hS9.2.2 dL_stage_52
  refine lv_iload_n hx hb dL_stage_39 rfl (lv_at hl 0 rfl) ?_
  refine lv_goto (tgt := 44) hx hb dL_stage_40 (by decide) ?_
  refine lv_istore_n (lv' := [(2, .int (nI 3)), (3, .int (nI 3)), (0, .ref (zo z)), (1, .int (nI b))]) hx hb dL_stage_44 rfl hl (by decide) rfl (fun ls hl => ?_)
  refine lv_iinc (v := nI 4) (lv' := [(3, .int (nI 4)), (2, .int (nI 3)), (0, .ref (zo z)), (1, .int (nI b))]) hx hb dL_stage_45 hl (k := 1) rfl (nI_inc1 3) (by decide) rfl (fun ls hl => ?_)
  refine lv_goto (tgt := 4) hx hb dL_stage_48 (by decide) ?_
  refine lv_iload_n hx hb dL_stage_4 rfl (lv_at hl 0 rfl) ?_
  refine lv_iconst (v := nI 4) hx hb dL_stage_5 (by decide) ?_
  refine xr_ge_n (a := 4) (b := 4) (tgt := 51) hx hb (by decide) (by decide) dL_stage_6 (by decide) (fun _ => ?_) (fun c9 => absurd c9 (by decide))
  refine lv_iload_n hx hb dL_stage_51 rfl (lv_at hl 1 rfl) ?_
  have hS9 : va_S (va_B (cw z M)) s.heap H locs := by rw [← hA]; exact hS
  exact W.iret (v := nI 3) hx hb hr (fun t ht hW => ⟨⟨_, _, rfl, ⟨M, rfl, ⟨by unfold xstg xreach; rw [if_neg c_7], rfl⟩⟩, by rw [ht]; exact hP⟩, hS9.X ht⟩) hS9.2.2 dL_stage_52

set_option maxHeartbeats 4000000 in
set_option maxRecDepth 100000 in
theorem c_L_byGoods (l : Launch) (dC : Nat → ClassId) (dI : Nat → Nat → Nat) (z : XK) {n bz oz tk lz nx dy : Nat} {T : Nat → Nat → Int32} {M : XM} (eT : mT M = T) (hI : Iv n bz oz tk lz nx dy T) : zL (fun r M' => r = nI 1 ∧ M' = M) l (dC, dI) z yL_byGoods wsL_byGoods 7 273 [.ref (zo z), .int (nI n), .int (xsum (T 9) bz), .int (xsum (T 10) bz)] M := by
  unfold zL
  refine Met.ofW (cc := cL_byGoods) (maxL := 8) (ret := (some .boolean)) (by decide) rfl ?_
  intro p e s m args below meth c s₁ B hml hv
  obtain ⟨rfl, hP, hK, hD0, hN⟩ := hv
  have hx := B.exec
  have hb := B.bytes
  have hr := B.returns
  have hts := atoms_spec (ws := wsL_byGoods) B.pre
  have hown : s.vm.findClass RL = some m.cls := findClass_of_methodNamed B.named
  have hlocks := B.notSynchronized
  obtain ⟨A, hA⟩ : ∃ A, A = va_B (cw z M) := ⟨_, rfl⟩
  have hD : va_D A (cw z M) := hA ▸ hD0.own
  have hS : va_S A s.heap s.heap [] := va_S.rf
  have hl := lv_entry ([.ref (zo z), .int (nI n), .int (xsum (T 9) bz), .int (xsum (T 10) bz)]) (n := 8) (Nat.le_of_ble_eq_true rfl)
  rw [lg_entry_eq]
  generalize (lg_sl ([.ref (zo z), .int (nI n), .int (xsum (T 9) bz), .int (xsum (T 10) bz)]) ++ List.replicate (8 - (lg_sl ([.ref (zo z), .int (nI n), .int (xsum (T 9) bz), .int (xsum (T 10) bz)])).length) Slot.unset).toArray = ls at hl ⊢
  have hl : lv_has ls 8 [(0, .ref (zo z)), (1, .int (nI n)), (2, .int (xsum (T 9) bz)), (3, .int (xsum (T 10) bz))] := hl
  have hn := hI.n1
  refine lv_iconst (v := nI 0) hx hb dL_byGoods_0 (by decide) ?_
  refine lv_istore (lv' := [(4, .int (nI 0)), (0, .ref (zo z)), (1, .int (nI n)), (2, .int (xsum (T 9) bz)), (3, .int (xsum (T 10) bz))]) hx hb dL_byGoods_1 hl (by decide) rfl (fun ls hl => ?_)
  refine lv_iconst (v := nI 0) hx hb dL_byGoods_3 (by decide) ?_
  refine lv_istore (lv' := [(5, .int (nI 0)), (4, .int (nI 0)), (0, .ref (zo z)), (1, .int (nI n)), (2, .int (xsum (T 9) bz)), (3, .int (xsum (T 10) bz))]) hx hb dL_byGoods_4 hl (by decide) rfl (fun ls hl => ?_)
  refine lv_iconst (v := nI 0) hx hb dL_byGoods_6 (by decide) ?_
  refine lv_istore (lv' := [(6, .int (nI 0)), (5, .int (nI 0)), (4, .int (nI 0)), (0, .ref (zo z)), (1, .int (nI n)), (2, .int (xsum (T 9) bz)), (3, .int (xsum (T 10) bz))]) hx hb dL_byGoods_7 hl (by decide) rfl (fun ls hl => ?_)
  refine lv_iconst (v := nI 0) hx hb dL_byGoods_9 (by decide) ?_
  refine lv_istore (lv' := [(7, .int (nI 0)), (6, .int (nI 0)), (5, .int (nI 0)), (4, .int (nI 0)), (0, .ref (zo z)), (1, .int (nI n)), (2, .int (xsum (T 9) bz)), (3, .int (xsum (T 10) bz))]) hx hb dL_byGoods_10 hl (by decide) rfl (fun ls hl => ?_)
  refine xr_loop (J := Nat) (fun n0 H locs g => ∃ (k : Nat) (ls : Array Slot), n0 = n - k + 1 ∧ g = F0 m 12 ls [] ∧ lv_has ls 8 [(7, .int (nI k)), (6, .int (xsum (fun g => xsumIf (T 18) (nI g) (T 20) oz) k)), (5, .int (xsum (fun g => xsumIf (T 6) (nI g) (T 10) bz) k)), (4, .int (xsum (fun g => xsumIf (T 6) (nI g) (T 9) bz) k)), (0, .ref (zo z)), (1, .int (nI n)), (2, .int (xsum (T 9) bz)), (3, .int (xsum (T 10) bz))] ∧ va_P (dC, dI) vwCl (cw z M) H ∧ va_D A (cw z M) ∧ va_S A s.heap H locs ∧ (k ≤ n)) (fun n => n) ?_ (n - 0 + 1) (g := F0 m 12 ls []) ⟨0, ls, rfl, rfl, lv_sub hl [0, 1, 2, 3, 4, 5, 6, 7] rfl, hP, hD, hS, (Nat.zero_le _)⟩
  intro n0 ih_12 H locs g hp
  obtain ⟨k, ls, rfl, rfl, hl, hP, hD, hS, hkn⟩ := hp
  refine lv_iload hx hb dL_byGoods_12 (lv_at hl 0 rfl) ?_
  refine lv_iload_n hx hb dL_byGoods_14 rfl (lv_at hl 5 rfl) ?_
  refine xr_ge_n (tgt := 61) hx hb (by omega) (by omega) dL_byGoods_15 (by decide) (fun c_1 => ?_) (fun c_1 => ?_)
  · skip
    refine lv_iload hx hb dL_byGoods_61 (lv_at hl 3 rfl) ?_
    refine lv_iload_n hx hb dL_byGoods_63 rfl (lv_at hl 6 rfl) ?_
    refine lv_icmp_ne (tgt := 83) hx hb dL_byGoods_64 (by decide) (fun c_2 => False.elim (by exact c_2 ((show k = n by omega) ▸ hI.sg9))) (fun c_2 => ?_)
    refine lv_iload hx hb dL_byGoods_67 (lv_at hl 2 rfl) ?_
    refine lv_iload_n hx hb dL_byGoods_69 rfl (lv_at hl 7 rfl) ?_
    refine lv_icmp_ne (tgt := 83) hx hb dL_byGoods_70 (by decide) (fun c_3 => False.elim (by exact c_3 ((show k = n by omega) ▸ hI.sg10))) (fun c_3 => ?_)
    refine lv_iload hx hb dL_byGoods_73 (lv_at hl 1 rfl) ?_
    refine lv_iload_n hx hb dL_byGoods_75 rfl (lv_at hl 7 rfl) ?_
    refine lv_icmp_ne (tgt := 83) hx hb dL_byGoods_76 (by decide) (fun c_4 => False.elim (by exact c_4 ((show k = n by omega) ▸ hI.sg20))) (fun c_4 => ?_)
    refine lv_iconst (v := nI 1) hx hb dL_byGoods_79 (by decide) ?_
    refine lv_goto (tgt := 84) hx hb dL_byGoods_80 (by decide) ?_
    have hS9 : va_S (va_B (cw z M)) s.heap H locs := by rw [← hA]; exact hS
    exact W.zret (v := nI 1) hx hb hr rfl (fun t ht hW => ⟨⟨_, _, rfl, ⟨M, rfl, ⟨rfl, rfl⟩⟩, by rw [ht]; exact hP⟩, hS9.X ht⟩) hS9.2.2 dL_byGoods_84
  refine lv_iload hx hb dL_byGoods_18 (lv_at hl 3 rfl) ?_
  refine lv_aload_n hx hb dL_byGoods_20 rfl (lv_at hl 4 rfl) ?_
  refine lv_iload hx hb dL_byGoods_21 (lv_at hl 0 rfl) ?_
  refine lv_iconst (v := nI 3) hx hb dL_byGoods_23 (by decide) ?_
  refine zrV (M := M) (M' := M) (x := xsumIf (T 6) (nI k) (T 9) bz) (As := [.int (nI k), .int (nI 3)]) (rest := [.int (xsum (fun g => xsumIf (T 6) (nI g) (T 9) bz) k)]) hx hb hml hown hts hN hK (t_good3 l dC dI z eT hI (by omega)) 2 gL_byGoods_X9_good rfl hdV_X9_good ⟨Nat.le_of_ble_eq_true rfl, Nat.le_of_ble_eq_true rfl⟩ hP hD hS rfl hl.1 rfl (Nat.le_of_ble_eq_true rfl) dL_byGoods_24 ⟨Nat.zero_le _, Nat.zero_le _⟩ (fun H locs hP hD hS => ?_)
  refine lv_iadd hx hb dL_byGoods_27 ?_
  refine lv_istore (lv' := [(4, .int ((xsum (fun g => xsumIf (T 6) (nI g) (T 9) bz) k) + (xsumIf (T 6) (nI k) (T 9) bz))), (7, .int (nI k)), (6, .int (xsum (fun g => xsumIf (T 18) (nI g) (T 20) oz) k)), (5, .int (xsum (fun g => xsumIf (T 6) (nI g) (T 10) bz) k)), (0, .ref (zo z)), (1, .int (nI n)), (2, .int (xsum (T 9) bz)), (3, .int (xsum (T 10) bz))]) hx hb dL_byGoods_28 hl (by decide) rfl (fun ls hl => ?_)
  refine lv_iload hx hb dL_byGoods_30 (lv_at hl 3 rfl) ?_
  refine lv_aload_n hx hb dL_byGoods_32 rfl (lv_at hl 4 rfl) ?_
  refine lv_iload hx hb dL_byGoods_33 (lv_at hl 1 rfl) ?_
  refine lv_iconst (v := nI 5) hx hb dL_byGoods_35 (by decide) ?_
  refine zrV (M := M) (M' := M) (x := xsumIf (T 6) (nI k) (T 10) bz) (As := [.int (nI k), .int (nI 5)]) (rest := [.int (xsum (fun g => xsumIf (T 6) (nI g) (T 10) bz) k)]) hx hb hml hown hts hN hK (t_good5 l dC dI z eT hI (by omega)) 2 gL_byGoods_X9_good rfl hdV_X9_good ⟨Nat.le_of_ble_eq_true rfl, Nat.le_of_ble_eq_true rfl⟩ hP hD hS rfl hl.1 rfl (Nat.le_of_ble_eq_true rfl) dL_byGoods_36 ⟨Nat.zero_le _, Nat.zero_le _⟩ (fun H locs hP hD hS => ?_)
  refine lv_iadd hx hb dL_byGoods_39 ?_
  refine lv_istore (lv' := [(5, .int ((xsum (fun g => xsumIf (T 6) (nI g) (T 10) bz) k) + (xsumIf (T 6) (nI k) (T 10) bz))), (4, .int ((xsum (fun g => xsumIf (T 6) (nI g) (T 9) bz) k) + (xsumIf (T 6) (nI k) (T 9) bz))), (7, .int (nI k)), (6, .int (xsum (fun g => xsumIf (T 18) (nI g) (T 20) oz) k)), (0, .ref (zo z)), (1, .int (nI n)), (2, .int (xsum (T 9) bz)), (3, .int (xsum (T 10) bz))]) hx hb dL_byGoods_40 hl (by decide) rfl (fun ls hl => ?_)
  refine lv_iload hx hb dL_byGoods_42 (lv_at hl 3 rfl) ?_
  refine lv_aload_n hx hb dL_byGoods_44 rfl (lv_at hl 4 rfl) ?_
  refine lv_iload hx hb dL_byGoods_45 (lv_at hl 2 rfl) ?_
  refine lv_bipush (v := nI 6) hx hb dL_byGoods_47 (by decide) ?_
  refine zrV (M := M) (M' := M) (x := xsumIf (T 18) (nI k) (T 20) oz) (As := [.int (nI k), .int (nI 6)]) (rest := [.int (xsum (fun g => xsumIf (T 18) (nI g) (T 20) oz) k)]) hx hb hml hown hts hN hK (t_good6 l dC dI z eT hI (by omega)) 2 gL_byGoods_X9_good rfl hdV_X9_good ⟨Nat.le_of_ble_eq_true rfl, Nat.le_of_ble_eq_true rfl⟩ hP hD hS rfl hl.1 rfl (Nat.le_of_ble_eq_true rfl) dL_byGoods_49 ⟨Nat.zero_le _, Nat.zero_le _⟩ (fun H locs hP hD hS => ?_)
  refine lv_iadd hx hb dL_byGoods_52 ?_
  refine lv_istore (lv' := [(6, .int ((xsum (fun g => xsumIf (T 18) (nI g) (T 20) oz) k) + (xsumIf (T 18) (nI k) (T 20) oz))), (5, .int ((xsum (fun g => xsumIf (T 6) (nI g) (T 10) bz) k) + (xsumIf (T 6) (nI k) (T 10) bz))), (4, .int ((xsum (fun g => xsumIf (T 6) (nI g) (T 9) bz) k) + (xsumIf (T 6) (nI k) (T 9) bz))), (7, .int (nI k)), (0, .ref (zo z)), (1, .int (nI n)), (2, .int (xsum (T 9) bz)), (3, .int (xsum (T 10) bz))]) hx hb dL_byGoods_53 hl (by decide) rfl (fun ls hl => ?_)
  refine lv_iinc (v := nI (k + 1)) (lv' := [(7, .int (nI (k + 1))), (6, .int ((xsum (fun g => xsumIf (T 18) (nI g) (T 20) oz) k) + (xsumIf (T 18) (nI k) (T 20) oz))), (5, .int ((xsum (fun g => xsumIf (T 6) (nI g) (T 10) bz) k) + (xsumIf (T 6) (nI k) (T 10) bz))), (4, .int ((xsum (fun g => xsumIf (T 6) (nI g) (T 9) bz) k) + (xsumIf (T 6) (nI k) (T 9) bz))), (0, .ref (zo z)), (1, .int (nI n)), (2, .int (xsum (T 9) bz)), (3, .int (xsum (T 10) bz))]) hx hb dL_byGoods_55 hl (k := 3) rfl (nI_inc1 k) (by decide) rfl (fun ls hl => ?_)
  refine lv_goto (tgt := 12) hx hb dL_byGoods_58 (by decide) ?_
  exact ih_12 (n - (k + 1) + 1) _ _ _ (show n - (k + 1) + 1 < n - k + 1 from by omega) ⟨(k + 1), ls, rfl, rfl, lv_sub hl [0, 1, 2, 3, 4, 5, 6, 7] rfl, hP, hD, hS, (by omega)⟩

