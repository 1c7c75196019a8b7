/-! The law: its entry. -/
theorem xdfX9 : ∀ j, j < 9 → defaultValue (tyX9 j) = vp_V [.null, .null, .null, .null, .null, .null, .null, .int (nI 0), .int (nI 0)] j := by
  intro j hj
  rcases (show j = 0 ∨ j = 1 ∨ j = 2 ∨ j = 3 ∨ j = 4 ∨ j = 5 ∨ j = 6 ∨ j = 7 ∨ j = 8 by omega) with rfl | rfl | rfl | rfl | rfl | rfl | rfl | rfl | rfl <;> rfl
theorem xdfX10 : ∀ j, j < 19 → defaultValue (tyX10 j) = vp_V [.null, .null, .null, .null, .int (nI 0), .int (nI 0), .null, .int (nI 0), .null, .null, .null, .null, .int (nI 0), .int (nI 0), .int (nI 0), .int (nI 0), .int (nI 0), .int (nI 0), .null] j := by
  intro j hj
  rcases (show j = 0 ∨ j = 1 ∨ j = 2 ∨ j = 3 ∨ j = 4 ∨ j = 5 ∨ j = 6 ∨ j = 7 ∨ j = 8 ∨ j = 9 ∨ j = 10 ∨ j = 11 ∨ j = 12 ∨ j = 13 ∨ j = 14 ∨ j = 15 ∨ j = 16 ∨ j = 17 ∨ j = 18 by omega) with rfl | rfl | rfl | rfl | rfl | rfl | rfl | rfl | rfl | rfl | rfl | rfl | rfl | rfl | rfl | rfl | rfl | rfl | rfl <;> rfl
theorem xnests_in : ∀ q ∈ xnests, Cond.methodLinkNest q.1 q.2.1 q.2.2 "ShelfStages" ∈ lw_tbl := by decide +kernel
theorem hdI_X9_init : yX9_init.cls ≠ "java/lang/invoke/MethodHandle" ∧ yX9_init.cls ≠ "java/lang/invoke/VarHandle" ∧ (parseMethodDescriptor yX9_init.desc).map (fun d => d.parameters.length) = some 0 := by decide +kernel
theorem hdI_X10_init : yX10_init.cls ≠ "java/lang/invoke/MethodHandle" ∧ yX10_init.cls ≠ "java/lang/invoke/VarHandle" ∧ (parseMethodDescriptor yX10_init.desc).map (fun d => d.parameters.length) = some 0 := by decide +kernel
set_option maxHeartbeats 4000000 in
set_option maxRecDepth 100000 in
theorem whole_start {p : Program} {e : Env} {s : State} {m : MethodId} {below : List Frame} {meth : Method} {c : Code} (l : Launch) (hflags : l.flags = flags0) {b L : Nat} {xs : Nat → Int32} (hL : L ≤ 3072) (C0 : lw_At p s m meth c b L xs) : W p l e room_1 s m #[Value.ref b] below meth c s.heap [] 0 0 (lw_Z below #[Value.ref b] s) (entryFrame m ([Value.ref b] : List Value).toArray 8) := by
  obtain ⟨hx, hb, hr, hml, hown, hts0, hX, hbl, hlocks, hgv⟩ := id C0
  have hb : c.code = cL_law := hb
  have hown : s.vm.findClass RL = some m.cls := hown
  have hts : ∀ w ∈ wsL_law, w.before #[Value.ref b] s = true := fun w h => hts0 w (wsL_law_in w h)
  have hA : ∀ q : Nat, s.heap.size ≤ q → lwA s q := fun _ h => h
  obtain ⟨k0, i0, hK0⟩ := u_known (C := RX0) (T := TX0) (N := 9) (n := 9) hts0 inX0 (hts0 (.instantiable RX0 9) (by decide +kernel))
  obtain ⟨k1, i1, hK1⟩ := u_known (C := RX1) (T := TX1) (N := 4) (n := 4) hts0 inX1 (hts0 (.instantiable RX1 4) (by decide +kernel))
  obtain ⟨k2, i2, hK2⟩ := u_known (C := RX2) (T := TX2) (N := 11) (n := 11) hts0 inX2 (hts0 (.instantiable RX2 11) (by decide +kernel))
  obtain ⟨k3, i3, hK3⟩ := u_known (C := RX3) (T := TX3) (N := 5) (n := 5) hts0 inX3 (hts0 (.instantiable RX3 5) (by decide +kernel))
  obtain ⟨k4, i4, hK4⟩ := u_known (C := RX4) (T := TX4) (N := 3) (n := 3) hts0 inX4 (hts0 (.instantiable RX4 3) (by decide +kernel))
  obtain ⟨k5, i5, hK5⟩ := u_known (C := RX5) (T := TX5) (N := 6) (n := 6) hts0 inX5 (hts0 (.instantiable RX5 6) (by decide +kernel))
  obtain ⟨k6, i6, hK6⟩ := u_known (C := RX6) (T := TX6) (N := 14) (n := 14) hts0 inX6 (hts0 (.instantiable RX6 14) (by decide +kernel))
  obtain ⟨k7, i7, hK7⟩ := u_known (C := RX7) (T := TX7) (N := 2) (n := 2) hts0 inX7 (hts0 (.instantiable RX7 2) (by decide +kernel))
  obtain ⟨k8, i8, hK8⟩ := u_known (C := RX8) (T := TX8) (N := 8) (n := 8) hts0 inX8 (hts0 (.instantiable RX8 8) (by decide +kernel))
  obtain ⟨k9, i9, hK9⟩ := u_known (C := RX9) (T := TX9) (N := 9) (n := 9) hts0 inX9 (hts0 (.instantiable RX9 9) (by decide +kernel))
  obtain ⟨k10, i10, hK10⟩ := u_known (C := RX10) (T := TX10) (N := 19) (n := 19) hts0 inX10 (hts0 (.instantiable RX10 19) (by decide +kernel))
  obtain ⟨dC, dI, hKc⟩ : ∃ (dC : Nat → ClassId) (dI : Nat → Nat → Nat), ∀ (k : Nat) (q : vw_C), vwCl[k]? = some q → u_Kn s q.1 q.2.1 q.2.2 (dC k) (dI k) := by
    refine ⟨fun k => match k with | 0 => k0 | 1 => k1 | 2 => k2 | 3 => k3 | 4 => k4 | 5 => k5 | 6 => k6 | 7 => k7 | 8 => k8 | 9 => k9 | _ => k10, fun k => match k with | 0 => i0 | 1 => i1 | 2 => i2 | 3 => i3 | 4 => i4 | 5 => i5 | 6 => i6 | 7 => i7 | 8 => i8 | 9 => i9 | _ => i10, ?_⟩
    intro k q hq
    match k, hq with
    | 0, hq => cases hq; exact hK0
    | 1, hq => cases hq; exact hK1
    | 2, hq => cases hq; exact hK2
    | 3, hq => cases hq; exact hK3
    | 4, hq => cases hq; exact hK4
    | 5, hq => cases hq; exact hK5
    | 6, hq => cases hq; exact hK6
    | 7, hq => cases hq; exact hK7
    | 8, hq => cases hq; exact hK8
    | 9, hq => cases hq; exact hK9
    | 10, hq => cases hq; exact hK10
    | k + 11, hq => simp [vwCl] at hq
  obtain ⟨cI, hI1, hI2⟩ := xClassA (hts0 (.arrayClass .int) (by decide +kernel))
  obtain ⟨cF, hF1, hF2⟩ := xClassA (hts0 (.arrayClass .float) (by decide +kernel))
  obtain ⟨cC, hC1, hC2⟩ := xClassA (hts0 (.arrayClass .char) (by decide +kernel))
  obtain ⟨cZ, hZ1, hZ2⟩ := xClassA (hts0 (.arrayClass .boolean) (by decide +kernel))
  have hAA := hts0 (.arrayOver (.array .int)) (by decide +kernel)
  have hAO := hts0 (.arrayOver (.object "ShelfStages$State")) (by decide +kernel)
  obtain ⟨cQ, hQ1, hQ2⟩ := xOverA hAA
  obtain ⟨cS, hS1, hS2⟩ := xOverO hAO
  have hK : va_K (dC, dI) vwCl (xtys cI cF cC cZ cQ cS) s := ⟨hKc, fun k q h => by
    match k, h with
    | 0, h => cases h; exact ⟨hI1, hI2⟩
    | 1, h => cases h; exact ⟨hF1, hF2⟩
    | 2, h => cases h; exact ⟨hC1, hC2⟩
    | 3, h => cases h; exact ⟨hZ1, hZ2⟩
    | 4, h => cases h; exact ⟨hQ1, hQ2⟩
    | 5, h => cases h; exact ⟨hS1, hS2⟩
    | k + 6, h => simp at h⟩
  have hN : xN s := fun q hq => va_Nw.of rfl (hts0 _ (xnests_in q hq))
  have hAR : xAR s := ⟨xAA.of hAA, va_AO.of hAO⟩
  have C : lwC p s m meth c b L xs dC dI cI cF cC cZ cQ cS := ⟨hx, hb, hr, hml, hown, hts, hX, hbl, hlocks, hK, hN, hL⟩
  have hS : va_S (lwA s) s.heap s.heap [] := va_S.rf
  have hP : va_P (dC, dI) vwCl [] s.heap := fun k q h => by simp at h
  have hD : va_D (lwA s) [] := ⟨fun i j p q h => by simp at h, fun k q h => by simp at h⟩
  have hd0 := Drawn.sameBut.refl s.drawn lw_cs
  refine W.base ?_
  have hl := lv_entry ([.ref b]) (n := 8) (Nat.le_of_ble_eq_true rfl)
  rw [lg_entry_eq]
  generalize (lg_sl ([.ref b]) ++ List.replicate (8 - (lg_sl ([.ref b])).length) Slot.unset).toArray = ls at hl ⊢
  have hl : lv_has ls 8 [(0, .ref b)] := hl
  have ht0 := dr_words hts0 s.drawn
  refine va_new (C := RX9) (T := TX9) (N := 9) (ci := 9) (fs := [.null, .null, .null, .null, .null, .null, .null, .int (nI 0), .int (nI 0)]) hx hb ht0 inX9 tyX9 tyX9_ok hown (ht0 (.classLink RL 7 RX9) (by decide +kernel)) (ht0 (.instantiable RX9 9) (by decide +kernel)) (ht0 (.initialized RX9) (by decide +kernel)) hK hP hD hS hA rfl xdfX9 (Nat.le_of_ble_eq_true rfl) (Nat.le_of_ble_eq_true rfl) dL_law_0 (fun q1 H hP hD hS => ?_)
  have hP : va_P (dC, dI) vwCl [(q1, .inr (9, [.null, .null, .null, .null, .null, .null, .null, .int (nI 0), .int (nI 0)]))] H := hP
  have hD : va_D (lwA s) [(q1, .inr (9, [.null, .null, .null, .null, .null, .null, .null, .int (nI 0), .int (nI 0)]))] := hD
  refine lv_dup hx hb dL_law_3 rfl ?_
  refine xkC (wr := []) (wc := [(q1, .inr (9, [.null, .null, .null, .null, .null, .null, .null, .int (nI 0), .int (nI 0)]))]) (xIS (wr := []) (rest := [.ref q1]) hx hb hml hown (dr_words hts _) (c_X9_init l dC dI cI cF cC cZ cQ cS q1) gL_law_X9_init rfl rfl rfl (ht0 (.methodLink RL 9 yX9_init) (by decide +kernel)) (ht0 (.initialized RX9) (by decide +kernel)) (ht0 (.instanceMethod yX9_init) (by decide +kernel)) rfl hdI_X9_init ⟨Nat.le_of_ble_eq_true rfl, Nat.le_of_ble_eq_true rfl⟩ hN hAR hK hP hD rfl hl.1 rfl (Nat.le_of_ble_eq_true rfl) dL_law_4 ⟨Nat.le_of_ble_eq_true rfl, Nat.le_of_ble_eq_true rfl⟩) rfl hP hD hS hA (fun w1 H8 locs8 hw1 hP8 hD8 hS8 => ?_)
  obtain ⟨bx, o, sn, tr, ad, eq1, rfl⟩ := hw1
  subst eq1
  have hP8 : va_P (dC, dI) vwCl (clsW cI cF cC cQ cS bx o sn tr ad (fun _ => nI 0) (fun _ _ => nI 0) (fun _ => 0) xT0 xT0 xT0 (fun _ => xT0)) H8 := hP8
  have hD8 : va_D (lwA s) (clsW cI cF cC cQ cS bx o sn tr ad (fun _ => nI 0) (fun _ _ => nI 0) (fun _ => 0) xT0 xT0 xT0 (fun _ => xT0)) := hD8
  refine lv_astore_n (lv' := [(1, .ref (bx 0)), (0, .ref b)]) hx hb dL_law_7 rfl hl (by decide) rfl (fun ls hl => ?_)
  refine va_new (C := RX10) (T := TX10) (N := 19) (ci := 10) (fs := [.null, .null, .null, .null, .int (nI 0), .int (nI 0), .null, .int (nI 0), .null, .null, .null, .null, .int (nI 0), .int (nI 0), .int (nI 0), .int (nI 0), .int (nI 0), .int (nI 0), .null]) hx hb ht0 inX10 tyX10 tyX10_ok hown (ht0 (.classLink RL 10 RX10) (by decide +kernel)) (ht0 (.instantiable RX10 19) (by decide +kernel)) (ht0 (.initialized RX10) (by decide +kernel)) hK hP8 hD8 hS8 hA rfl xdfX10 (Nat.le_of_ble_eq_true rfl) (Nat.le_of_ble_eq_true rfl) dL_law_8 (fun q2 H6 hP6 hD6 hS6 => ?_)
  refine lv_dup hx hb dL_law_11 rfl ?_
  refine xkC (wr := clsW cI cF cC cQ cS bx o sn tr ad (fun _ => nI 0) (fun _ _ => nI 0) (fun _ => 0) xT0 xT0 xT0 (fun _ => xT0)) (wc := [(q2, .inr (10, [.null, .null, .null, .null, .int (nI 0), .int (nI 0), .null, .int (nI 0), .null, .null, .null, .null, .int (nI 0), .int (nI 0), .int (nI 0), .int (nI 0), .int (nI 0), .int (nI 0), .null]))]) (xIS (wr := clsW cI cF cC cQ cS bx o sn tr ad (fun _ => nI 0) (fun _ _ => nI 0) (fun _ => 0) xT0 xT0 xT0 (fun _ => xT0)) (rest := [.ref q2]) hx hb hml hown (dr_words hts _) (c_X10_init l dC dI cI cF cC cZ cQ cS q2) gL_law_X10_init rfl rfl rfl (ht0 (.methodLink RL 12 yX10_init) (by decide +kernel)) (ht0 (.initialized RX10) (by decide +kernel)) (ht0 (.instanceMethod yX10_init) (by decide +kernel)) rfl hdI_X10_init ⟨Nat.le_of_ble_eq_true rfl, Nat.le_of_ble_eq_true rfl⟩ hN hAR hK hP6 hD6 rfl hl.1 rfl (Nat.le_of_ble_eq_true rfl) dL_law_12 ⟨Nat.le_of_ble_eq_true rfl, Nat.le_of_ble_eq_true rfl⟩) rfl hP6 hD6 hS6 hA (fun w2 H7 locs7 hw2 hP7 hD7 hS7 => ?_)
  obtain ⟨bm, eq2, rfl⟩ := hw2
  subst eq2
  refine lv_astore_n (lv' := [(2, .ref (bm 0)), (1, .ref (bx 0)), (0, .ref b)]) hx hb dL_law_15 rfl hl (by decide) rfl (fun ls hl => ?_)
  refine lv_iconst (v := nI 0) hx hb dL_law_16 rfl ?_
  refine lv_istore_n (lv' := [(3, .int (nI 0)), (2, .ref (bm 0)), (1, .ref (bx 0)), (0, .ref b)]) hx hb dL_law_17 rfl hl (by decide) rfl (fun ls hl => ?_)
  refine W.widen (k := 600000) (n := 7302250) (Nat.le_of_ble_eq_true rfl) (Nat.le_of_ble_eq_true rfl) ?_
  exact lw_loop C L 0 (by omega) (by omega) s.drawn H7 locs7 ls (fun _ => nI 0) (fun _ _ => nI 0) (fun _ => 0) xT0 xT0 xT0 (fun _ => xT0) (fun _ => nI 0) zT0 ⟨hd0, hP7, hD7, hS7⟩ Rel.start hl
