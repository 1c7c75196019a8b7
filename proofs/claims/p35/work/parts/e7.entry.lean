/-! The law: its entry. -/
theorem xOverA {args : Array Value} {s : State} (h : (Cond.arrayOver (.array .int)).before args s = true) : ∃ cA, ArrOfT s cA (.array .int) ∧ va_RA s cA (.array .int) := by
  obtain ⟨comp, c, k, -, h2, h3, h4⟩ := Cond.arrayOver_specA h
  exact ⟨c, fun n z => ⟨fun _ h => (by cases h), k, h2, comp, h3⟩, h4⟩
theorem xClassA {args : Array Value} {s : State} {ty : FieldType} (h : (Cond.arrayClass ty).before args s = true) : ∃ cA, ArrOfT s cA ty ∧ s.vm.findClass ("[" ++ ty.toString) = some cA := by
  obtain ⟨c, k, comp, h1, h2, h3⟩ := Cond.arrayClass_spec h
  exact ⟨c, fun n z => ⟨fun _ h => (by cases h), k, h2, comp, h3⟩, h1⟩
theorem xOverO {args : Array Value} {s : State} {C : String} (h : (Cond.arrayOver (.object C)).before args s = true) : ∃ cA, ArrOfT s cA (.object C) ∧ va_RA s cA (.object C) := by
  obtain ⟨comp, c, k, h1, -, h2, h3, h4⟩ := Cond.arrayOver_spec h
  exact ⟨c, fun n z => ⟨fun _ h => (by cases h), k, h2, comp, h3⟩, k, comp, h2, h3, h1, h4⟩
def lwA (s : State) : Nat → Prop := fun q => s.heap.size ≤ q
theorem xdfX9 : ∀ j, j < 9 → defaultValue (tyX9 j) = vp_V [.null, .null, .null, .null, .null, .null, .null, .int (nI 0), .int (nI 0)] j := by
  intro j hj
  rcases (show j = 0 ∨ j = 1 ∨ j = 2 ∨ j = 3 ∨ j = 4 ∨ j = 5 ∨ j = 6 ∨ j = 7 ∨ j = 8 by omega) with rfl | rfl | rfl | rfl | rfl | rfl | rfl | rfl | rfl <;> rfl
theorem xnests_in : ∀ q ∈ xnests, Cond.methodLinkNest q.1 q.2.1 q.2.2 "ShelfStages" ∈ lw_tbl := by decide +kernel
theorem hdI_X9_init : yX9_init.cls ≠ "java/lang/invoke/MethodHandle" ∧ yX9_init.cls ≠ "java/lang/invoke/VarHandle" ∧ (parseMethodDescriptor yX9_init.desc).map (fun d => d.parameters.length) = some 0 := by decide +kernel
set_option maxHeartbeats 4000000 in
set_option maxRecDepth 100000 in
theorem whole_start {p : Program} {e : Env} {s : State} {m : MethodId} {below : List Frame} {meth : Method} {c : Code} (l : Launch) (hflags : l.flags = flags0) {b L : Nat} {xs : Nat → Int32} (hL : L ≤ 260) (C0 : lw_At p s m meth c b L xs) : W p l e room_1 s m #[Value.ref b] below meth c s.heap [] 0 0 (lw_Z below #[Value.ref b] s) (entryFrame m ([Value.ref b] : List Value).toArray 14) := by
  obtain ⟨hx, hb, hr, hml, hown, hts0, hX, hbl, hlocks, hgv⟩ := id C0
  have hb : c.code = cL_law := hb
  have hown : s.vm.findClass RL = some m.cls := hown
  have hts : ∀ w ∈ wsL_law, w.before #[Value.ref b] s = true := fun w h => hts0 w (wsL_law_in w h)
  have hA : ∀ q : Nat, s.heap.size ≤ q → lwA s q := fun _ h => h
  obtain ⟨k0, i0, hK0⟩ := u_known (C := RX0) (T := TX0) (N := 9) (n := 9) hts0 inX0 (hts0 (.instantiable RX0 9) (by decide +kernel))
  obtain ⟨k1, i1, hK1⟩ := u_known (C := RX1) (T := TX1) (N := 4) (n := 4) hts0 inX1 (hts0 (.instantiable RX1 4) (by decide +kernel))
  obtain ⟨k2, i2, hK2⟩ := u_known (C := RX2) (T := TX2) (N := 11) (n := 11) hts0 inX2 (hts0 (.instantiable RX2 11) (by decide +kernel))
  obtain ⟨k3, i3, hK3⟩ := u_known (C := RX3) (T := TX3) (N := 5) (n := 5) hts0 inX3 (hts0 (.instantiable RX3 5) (by decide +kernel))
  obtain ⟨k4, i4, hK4⟩ := u_known (C := RX4) (T := TX4) (N := 3) (n := 3) hts0 inX4 (hts0 (.instantiable RX4 3) (by decide +kernel))
  obtain ⟨k5, i5, hK5⟩ := u_known (C := RX5) (T := TX5) (N := 6) (n := 6) hts0 inX5 (hts0 (.instantiable RX5 6) (by decide +kernel))
  obtain ⟨k6, i6, hK6⟩ := u_known (C := RX6) (T := TX6) (N := 14) (n := 14) hts0 inX6 (hts0 (.instantiable RX6 14) (by decide +kernel))
  obtain ⟨k7, i7, hK7⟩ := u_known (C := RX7) (T := TX7) (N := 2) (n := 2) hts0 inX7 (hts0 (.instantiable RX7 2) (by decide +kernel))
  obtain ⟨k8, i8, hK8⟩ := u_known (C := RX8) (T := TX8) (N := 8) (n := 8) hts0 inX8 (hts0 (.instantiable RX8 8) (by decide +kernel))
  obtain ⟨k9, i9, hK9⟩ := u_known (C := RX9) (T := TX9) (N := 9) (n := 9) hts0 inX9 (hts0 (.instantiable RX9 9) (by decide +kernel))
  obtain ⟨dC, dI, hKc⟩ : ∃ (dC : Nat → ClassId) (dI : Nat → Nat → Nat), ∀ (k : Nat) (q : vw_C), vwCl[k]? = some q → u_Kn s q.1 q.2.1 q.2.2 (dC k) (dI k) := by
    refine ⟨fun k => match k with | 0 => k0 | 1 => k1 | 2 => k2 | 3 => k3 | 4 => k4 | 5 => k5 | 6 => k6 | 7 => k7 | 8 => k8 | _ => k9, fun k => match k with | 0 => i0 | 1 => i1 | 2 => i2 | 3 => i3 | 4 => i4 | 5 => i5 | 6 => i6 | 7 => i7 | 8 => i8 | _ => i9, ?_⟩
    intro k q hq
    match k, hq with
    | 0, hq => cases hq; exact hK0
    | 1, hq => cases hq; exact hK1
    | 2, hq => cases hq; exact hK2
    | 3, hq => cases hq; exact hK3
    | 4, hq => cases hq; exact hK4
    | 5, hq => cases hq; exact hK5
    | 6, hq => cases hq; exact hK6
    | 7, hq => cases hq; exact hK7
    | 8, hq => cases hq; exact hK8
    | 9, hq => cases hq; exact hK9
    | k + 10, hq => simp [vwCl] at hq
  obtain ⟨cI, hI1, hI2⟩ := xClassA (hts0 (.arrayClass .int) (by decide +kernel))
  obtain ⟨cF, hF1, hF2⟩ := xClassA (hts0 (.arrayClass .float) (by decide +kernel))
  obtain ⟨cC, hC1, hC2⟩ := xClassA (hts0 (.arrayClass .char) (by decide +kernel))
  have hAA := hts0 (.arrayOver (.array .int)) (by decide +kernel)
  have hAO := hts0 (.arrayOver (.object "ShelfStages$State")) (by decide +kernel)
  obtain ⟨cQ, hQ1, hQ2⟩ := xOverA hAA
  obtain ⟨cS, hS1, hS2⟩ := xOverO hAO
  have hK : va_K (dC, dI) vwCl (xtys cI cF cC cI cQ cS) s := ⟨hKc, fun k q h => by
    match k, h with
    | 0, h => cases h; exact ⟨hI1, hI2⟩
    | 1, h => cases h; exact ⟨hF1, hF2⟩
    | 2, h => cases h; exact ⟨hC1, hC2⟩
    | 3, h => cases h; exact ⟨hI1, hI2⟩
    | 4, h => cases h; exact ⟨hQ1, hQ2⟩
    | 5, h => cases h; exact ⟨hS1, hS2⟩
    | k + 6, h => simp at h⟩
  have hN : xN s := fun q hq => va_Nw.of rfl (hts0 _ (xnests_in q hq))
  have hAR : xAR s := ⟨xAA.of hAA, va_AO.of hAO⟩
  have hS : va_S (lwA s) s.heap s.heap [] := va_S.rf
  have hP : va_P (dC, dI) vwCl [] s.heap := fun k q h => by simp at h
  have hD : va_D (lwA s) [] := ⟨fun i j p q h => by simp at h, fun k q h => by simp at h⟩
  have hd0 := Drawn.sameBut.refl s.drawn lw_cs
  refine W.base ?_
  have hl := lv_entry ([.ref b]) (n := 14) (Nat.le_of_ble_eq_true rfl)
  rw [lg_entry_eq]
  generalize (lg_sl ([.ref b]) ++ List.replicate (14 - (lg_sl ([.ref b])).length) Slot.unset).toArray = ls at hl ⊢
  have hl : lv_has ls 14 [(0, .ref b)] := hl
  have ht0 := dr_words hts0 s.drawn
  refine va_new (C := RX9) (T := TX9) (N := 9) (ci := 9) (fs := [.null, .null, .null, .null, .null, .null, .null, .int (nI 0), .int (nI 0)]) hx hb ht0 inX9 tyX9 tyX9_ok hown (ht0 (.classLink RL 21 RX9) (by decide +kernel)) (ht0 (.instantiable RX9 9) (by decide +kernel)) (ht0 (.initialized RX9) (by decide +kernel)) hK hP hD hS hA rfl xdfX9 (Nat.le_of_ble_eq_true rfl) (Nat.le_of_ble_eq_true rfl) dL_law_0 (fun q1 H hP hD hS => ?_)
  have hP : va_P (dC, dI) vwCl [(q1, .inr (9, [.null, .null, .null, .null, .null, .null, .null, .int (nI 0), .int (nI 0)]))] H := hP
  have hD : va_D (lwA s) [(q1, .inr (9, [.null, .null, .null, .null, .null, .null, .null, .int (nI 0), .int (nI 0)]))] := hD
  refine lv_dup hx hb dL_law_3 rfl ?_
  refine xkC (wr := []) (wc := [(q1, .inr (9, [.null, .null, .null, .null, .null, .null, .null, .int (nI 0), .int (nI 0)]))]) (xIS (wr := []) (rest := [.ref q1]) hx hb hml hown (dr_words hts _) (c_X9_init l dC dI cI cF cC cI cQ cS q1) gL_law_X9_init rfl rfl rfl (ht0 (.methodLink RL 93 yX9_init) (by decide +kernel)) (ht0 (.initialized RX9) (by decide +kernel)) (ht0 (.instanceMethod yX9_init) (by decide +kernel)) rfl hdI_X9_init ⟨Nat.le_of_ble_eq_true rfl, Nat.le_of_ble_eq_true rfl⟩ hN hAR hK hP hD rfl hl.1 rfl (Nat.le_of_ble_eq_true rfl) dL_law_4 ⟨Nat.le_of_ble_eq_true rfl, Nat.le_of_ble_eq_true rfl⟩) rfl hP hD hS hA (fun w1 H8 locs8 hw1 hP8 hD8 hS8 => ?_)
  obtain ⟨bx, o, sn, tr, ad, eq1, rfl⟩ := hw1
  subst eq1
  obtain ⟨M, hM⟩ : ∃ M : XM, M = (fun _ => nI 0, fun _ _ => nI 0, fun _ => 0, xT0, xT0, xT0, fun _ => xT0) := ⟨_, rfl⟩
  have hP9 : va_P (dC, dI) vwCl (cw ((cI, cF, cC, cQ, cS), bx, o, sn, tr, ad) M) H8 := by rw [hM]; exact hP8
  have hD9 : va_D (lwA s) (cw ((cI, cF, cC, cQ, cS), bx, o, sn, tr, ad) M) := by rw [hM]; exact hD8
  refine lv_astore_n (lv' := [(1, .ref (bx 0)), (0, .ref b)]) hx hb dL_law_7 rfl hl (by decide) rfl (fun ls hl => ?_)
  refine W.widen (k := 600000) (n := 7302250) (Nat.le_of_ble_eq_true rfl) (Nat.le_of_ble_eq_true rfl) ?_
  refine law_body l dC dI ((cI, cF, cC, cQ, cS), bx, o, sn, tr, ad) (s := s.setDrawn s.drawn) (A := lwA s) (H0 := s.heap) (a0 := b) (L0 := L) (xs := xs) hx hb hml hown (dr_words hts _) hN hK hX hbl (Nat.not_le.mpr hbl) (by omega) hP9 hD9 hS8 (by rw [hM]) (by rw [hM]; exact ⟨0, 0, 0, rfl, rfl, rfl, by omega, by omega, Nat.le_refl _, fun i X hi => by cases hi⟩) hl (fun H locs ls hS => ?_)
  exact va_forget (fun q hq => hS.2.2 q hq) (lw_ret hd0 hx hb hr hlocks dL_law_497)
