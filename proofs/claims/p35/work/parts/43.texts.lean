theorem hdV_X9_undo : yX9_undo.cls = RX9 ∧ yX9_undo.cls ≠ "java/lang/invoke/MethodHandle" ∧ yX9_undo.cls ≠ "java/lang/invoke/VarHandle" ∧ (parseMethodDescriptor yX9_undo.desc).map (fun d => d.parameters.length) = some 0 := by decide +kernel
set_option maxHeartbeats 4000000 in
set_option maxRecDepth 100000 in
theorem c_X9_undoe (l : Launch) (dC : Nat → ClassId) (dI : Nat → Nat → Nat) (cI cF cC cZ cQ cS : ClassId) (x0 : Nat) (x0_now : Value) (x0_snapshot : Value) (x0_trial : Value) (y0 : Nat) (x0_filling : Value) (x0_delivery : Value) (x0_text : Value) (x0_textLength : Value) (x0_hasSnapshot : Value) (y0_states : Value) (y0_oldest : Value) : Met l yX9_undo wsX9_undo ({ frames := 0, cells := 0, slots := 0, locals := 0 }) (xPre (dC, dI) vwCl [.ref x0] (xtys cI cF cC cZ cQ cS) [(x0, .inr (9, [x0_now, x0_snapshot, x0_trial, .ref y0, x0_filling, x0_delivery, x0_text, x0_textLength, x0_hasSnapshot])), (y0, .inr (4, [y0_states, y0_oldest, .int (nI 0)]))]) (vp_Si (fun r0 => r0 = (-5))) 0 0 (fun _ => False) := by
  refine Met.ofW (cc := cX9_undo) (maxL := 1) (ret := (some .int)) (by decide) rfl ?_
  intro p e s m args below meth c s₁ B hml hv
  obtain ⟨rfl, hP, hK, hD0, hN⟩ := hv
  have hx := B.exec
  have hb := B.bytes
  have hr := B.returns
  have hts := atoms_spec (ws := wsX9_undo) B.pre
  have hown : s.vm.findClass RX9 = some m.cls := findClass_of_methodNamed B.named
  have hlocks := B.notSynchronized
  have k_209 := hts (Cond.fieldLink RX9 209 "ShelfStages$History" "size" "I") (by decide +kernel)
  have k_25 := hts (Cond.fieldLink RX9 25 "ShelfStages" "history" "LShelfStages$History;") (by decide +kernel)
  have i_X4 : ∀ w ∈ wsX40, w ∈ wsX9_undo := by decide +kernel
  have i_X9 : ∀ w ∈ wsX90, w ∈ wsX9_undo := by decide +kernel
  have hD := hD0
  have hl := lv_entry ([.ref x0]) (n := 1) (Nat.le_of_ble_eq_true rfl)
  rw [lg_entry_eq]
  generalize (lg_sl ([.ref x0]) ++ List.replicate (1 - (lg_sl ([.ref x0])).length) Slot.unset).toArray = ls at hl ⊢
  have hl : lv_has ls 1 [(0, .ref x0)] := hl
  refine lv_aload_n hx hb dX9_undo_0 rfl (lv_at hl 0 rfl) ?_
  refine va_get (D := (dC, dI)) (ci := 9) (v := .ref y0) (C := RX9) (T := TX9) (N := 9) hx hb hts i_X9 hown hK hP 0 rfl rfl 3 (by decide) k_25 (fun _ h9 => h9) rfl dX9_undo_1 ?_
  refine va_get (D := (dC, dI)) (ci := 4) (v := .int (nI 0)) (C := RX4) (T := TX4) (N := 3) hx hb hts i_X4 hown hK hP 1 rfl rfl 2 (by decide) k_209 (fun _ h9 => h9) rfl dX9_undo_4 ?_
  refine xr_ifn0 (tgt := 13) hx hb (by decide) dX9_undo_7 (by decide) ?_
  refine lv_bipush (v := (-5)) hx hb dX9_undo_10 (by decide) ?_
  exact W.iret (v := (-5)) hx hb hr (fun t ht hW => ⟨_, rfl, (show (-5) = (-5) from rfl), ht⟩) (fun q h => by cases h) dX9_undo_12