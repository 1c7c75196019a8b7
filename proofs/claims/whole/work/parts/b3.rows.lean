/-! The law: the rows of its walk. -/
theorem xOverA {args : Array Value} {s : State} (h : (Cond.arrayOver (.array .int)).before args s = true) : ∃ cA, ArrOfT s cA (.array .int) ∧ va_RA s cA (.array .int) := by
  obtain ⟨comp, c, k, -, h2, h3, h4⟩ := Cond.arrayOver_specA h
  exact ⟨c, fun n z => ⟨fun _ h => (by cases h), k, h2, comp, h3⟩, h4⟩
theorem xClassA {args : Array Value} {s : State} {ty : FieldType} (h : (Cond.arrayClass ty).before args s = true) : ∃ cA, ArrOfT s cA ty ∧ s.vm.findClass ("[" ++ ty.toString) = some cA := by
  obtain ⟨c, k, comp, h1, h2, h3⟩ := Cond.arrayClass_spec h
  exact ⟨c, fun n z => ⟨fun _ h => (by cases h), k, h2, comp, h3⟩, h1⟩
theorem xOverO {args : Array Value} {s : State} {C : String} (h : (Cond.arrayOver (.object C)).before args s = true) : ∃ cA, ArrOfT s cA (.object C) ∧ va_RA s cA (.object C) := by
  obtain ⟨comp, c, k, h1, -, h2, h3, h4⟩ := Cond.arrayOver_spec h
  exact ⟨c, fun n z => ⟨fun _ h => (by cases h), k, h2, comp, h3⟩, k, comp, h2, h3, h1, h4⟩
/-- the class's world: the same places -/
theorem clsW_adr {cI cF cC cQ cS : ClassId} {b o sn tr : Nat → Nat} {ad : Nat → Nat → Nat} {V V' : Nat → Int32} {E E' : Nat → Nat → Int32} {P P' : Nat → UInt32} {T T' Ts Ts' Tt Tt' : Nat → Nat → Int32} {S S' : Nat → Nat → Nat → Int32} :
    (clsW cI cF cC cQ cS b o sn tr ad V E P T Ts Tt S).map Prod.fst = (clsW cI cF cC cQ cS b o sn tr ad V' E' P' T' Ts' Tt' S').map Prod.fst := by
  have h1 : (clsF cI cF cC cQ cS b (o 0) (sn 0) (tr 0) ad V E P).map Prod.fst = (clsF cI cF cC cQ cS b (o 0) (sn 0) (tr 0) ad V' E' P').map Prod.fst := rfl
  have h2 := stW_adr cI cF cQ o T T'
  have h3 := stW_adr cI cF cQ sn Ts Ts'
  have h4 := stW_adr cI cF cQ tr Tt Tt'
  have h5 : (hiW cI cF cQ ad S).map Prod.fst = (hiW cI cF cQ ad S').map Prod.fst := hiW_adr
  unfold clsW
  rw [List.map_append, List.map_append, List.map_append, List.map_append, h1, h2, h3, h4, h5, List.map_append, List.map_append, List.map_append, List.map_append]
theorem modW_adr {cI cC cZ : ClassId} {b : Nat → Nat} {V V' : Nat → Int32} {Z Z' : Nat → Nat → Int32} : (modW cI cC cZ b V Z).map Prod.fst = (modW cI cC cZ b V' Z').map Prod.fst := rfl
def lwA (s : State) : Nat → Prop := fun q => s.heap.size ≤ q
/-- the walk at pc, over the record d -/
abbrev lwW (p : Program) (l : Launch) (e : Env) (s : State) (m : MethodId) (below : List Frame) (meth : Method) (c : Code) (b : Nat) (d : Drawn) (H : Heap) (locs : List Loc) (pc : Nat) (ls : Array Slot) (st : List Value) : Prop :=
  W p l e room_1 (s.setDrawn d) m #[Value.ref b] below meth c H locs 600000 7302250 (lw_Z below #[Value.ref b] s) (F0 m pc ls st)
/-- what stays -/
def lwC (p : Program) (s : State) (m : MethodId) (meth : Method) (c : Code) (b L : Nat) (xs : Nat → Int32) (dC : Nat → ClassId) (dI : Nat → Nat → Nat) (cI cF cC cZ cQ cS : ClassId) : Prop :=
  p.tables.exec = Jvm.exec ∧ c.code = cL_law ∧ meth.sig.returnType = ret ∧ c.maxLocals = 8 ∧ s.vm.findClass RL = some m.cls ∧ (∀ w ∈ wsL_law, w.before #[Value.ref b] s = true) ∧ va_X b L xs s s.heap ∧ b < s.heap.size ∧ meth.locks = false ∧ va_K (dC, dI) vwCl (xtys cI cF cC cZ cQ cS) s ∧ xN s ∧ L ≤ 3072
/-- the worlds at hand -/
def lwH (s : State) (dC : Nat → ClassId) (dI : Nat → Nat → Nat) (d : Drawn) (H : Heap) (locs : List Loc) (W0 : va_W) : Prop :=
  s.drawn.sameBut d lw_cs ∧ va_P (dC, dI) vwCl W0 H ∧ va_D (lwA s) W0 ∧ va_S (lwA s) s.heap H locs
section LW
variable {p : Program} {l : Launch} {e : Env} {s : State} {m : MethodId} {below : List Frame} {meth : Method} {c : Code} {b L : Nat} {xs : Nat → Int32} {dC : Nat → ClassId} {dI : Nat → Nat → Nat} {cI cF cC cZ cQ cS : ClassId} {d : Drawn} {H : Heap} {locs : List Loc} {ls : Array Slot} {st0 rest : List Value} {pc i : Nat} {Wx Wx' Wm Wm' : va_W}
/-- an int of the script -/
theorem lw_arg (C : lwC p s m meth c b L xs dC dI cI cF cC cZ cQ cS) (hS : va_S (lwA s) s.heap H locs) (h0 : ls[0]? = some (.val (.ref b))) (h3 : ls[3]? = some (.val (.int (nI i)))) (k : Nat) {kI : Int} (hk : i + k < L) (hkI : Int32.ofInt kI = nI k)
    (d0 : decode cL_law pc = .ok (.aload_n 0, 1)) (d1 : decode cL_law (pc + 1) = .ok (.iload_n 3, 1)) (d2 : decode cL_law (pc + 2) = .ok (.iconst kI, 1)) (d3 : decode cL_law (pc + 3) = .ok (.iadd, 1)) (d4 : decode cL_law (pc + 4) = .ok (.iaload, 1))
    (kk : lwW p l e s m below meth c b d H locs (pc + 5) ls (.int (xs (i + k)) :: rest)) : lwW p l e s m below meth c b d H locs pc ls rest := by
  obtain ⟨hx, hb, hr, hml, hown, hts, hX, hbl, hlocks, hK, hN, hL⟩ := C
  have hbA : ¬ lwA s b := Nat.not_le.mpr hbl
  refine lv_aload_n hx hb d0 rfl h0 ?_
  refine lv_iload_n hx hb d1 rfl h3 ?_
  refine lv_iconst (v := nI k) hx hb d2 hkI ?_
  refine lv_iadd hx hb d3 ?_
  refine xr_top (nI_add i k) ?_
  refine va_sld (s := s.setDrawn d) hx hb hX hbl hbA hS (vp_in_nI hk (by omega)) (pc := pc + 1 + 1 + 1 + 1) d4 ?_
  rw [nI_clamp (by omega)]
  exact kk
/-- a call on the class's world -/
theorem lw_c9 {y : MethodName} {ws ws' : List Cond} {bytes : ByteArray} {maxL index n q : Nat} {ret' : Option FieldType} {As : List Value} {r : Int32} {fs : List Value} (C : lwC p s m meth c b L xs dC dI cI cF cC cZ cQ cS) (hH : lwH s dC dI d H locs (Wx ++ Wm)) (hM : pX l (dC, dI) (xtys cI cF cC cZ cQ cS) y ws (.ref q :: As) Wx Wx' r)
    (hG : GoodIn wsL_law (wsV RL index RX9 y ws)) (hw : ws = Cond.code y bytes maxL ret' :: ws') (hmax : maxL ≤ 60) (hd : y.cls = RX9 ∧ y.cls ≠ "java/lang/invoke/MethodHandle" ∧ y.cls ≠ "java/lang/invoke/VarHandle" ∧ (parseMethodDescriptor y.desc).map (fun d => d.parameters.length) = some n)
    (he : Wx[0]? = some (q, .inr (9, fs))) (hadr : Wx.map Prod.fst = Wx'.map Prod.fst) (hn : As.length = n) (hsize : ls.size = 8) (hst : st0 = As.reverse ++ .ref q :: rest) (hW8 : (rest.map fun v => v.category).sum ≤ 8) (hdg : decode cL_law pc = .ok (.invokevirtual index, 3))
    (kk : ∀ (H1 : Heap) (locs1 : List Loc), lwH s dC dI d H1 locs1 (Wx' ++ Wm) → lwW p l e s m below meth c b d H1 locs1 (pc + 3) ls (.int r :: rest)) : lwW p l e s m below meth c b d H locs pc ls st0 := by
  obtain ⟨hx, hb, hr, hml, hown, hts, hX, hbl, hlocks, hK, hN, hL⟩ := C
  obtain ⟨hd0, hP, hD, hS⟩ := hH
  refine xkI3 (xVg (A := lwA s) hx hb hml hown (dr_words hts d) hM n hG hw rfl rfl hd ⟨Nat.le_of_ble_eq_true rfl, by show 8 + (maxL + 11) + 300 ≤ 394; omega⟩ hN hK (xP_l hP) (xP_l hP) (xD_l hD) 9 0 rfl he hn hsize hst hW8 hdg ⟨Nat.le_refl _, Nat.le_refl _⟩) hS (xB_of (xD_l hD)) fun H1 locs1 hk hP1 hS1 => ?_
  obtain ⟨a1, a2⟩ := xfront hP hD hadr hk hP1
  exact kk H1 locs1 ⟨hd0, a1, a2, hS1⟩
/-- a call on the reference's world -/
theorem lw_c10 {y : MethodName} {ws ws' : List Cond} {bytes : ByteArray} {maxL index n q : Nat} {ret' : Option FieldType} {As : List Value} {r : Int32} {fs : List Value} (C : lwC p s m meth c b L xs dC dI cI cF cC cZ cQ cS) (hH : lwH s dC dI d H locs (Wx ++ Wm)) (hM : pX l (dC, dI) (xtys cI cF cC cZ cQ cS) y ws (.ref q :: As) Wm Wm' r)
    (hG : GoodIn wsL_law (wsV RL index RX10 y ws)) (hw : ws = Cond.code y bytes maxL ret' :: ws') (hmax : maxL ≤ 60) (hd : y.cls = RX10 ∧ y.cls ≠ "java/lang/invoke/MethodHandle" ∧ y.cls ≠ "java/lang/invoke/VarHandle" ∧ (parseMethodDescriptor y.desc).map (fun d => d.parameters.length) = some n)
    (he : Wm[0]? = some (q, .inr (10, fs))) (hadr : Wm.map Prod.fst = Wm'.map Prod.fst) (hn : As.length = n) (hsize : ls.size = 8) (hst : st0 = As.reverse ++ .ref q :: rest) (hW8 : (rest.map fun v => v.category).sum ≤ 8) (hdg : decode cL_law pc = .ok (.invokevirtual index, 3))
    (kk : ∀ (H1 : Heap) (locs1 : List Loc), lwH s dC dI d H1 locs1 (Wx ++ Wm') → lwW p l e s m below meth c b d H1 locs1 (pc + 3) ls (.int r :: rest)) : lwW p l e s m below meth c b d H locs pc ls st0 := by
  obtain ⟨hx, hb, hr, hml, hown, hts, hX, hbl, hlocks, hK, hN, hL⟩ := C
  obtain ⟨hd0, hP, hD, hS⟩ := hH
  refine xkI3 (xVg (A := lwA s) hx hb hml hown (dr_words hts d) hM n hG hw rfl rfl hd ⟨Nat.le_of_ble_eq_true rfl, by show 8 + (maxL + 11) + 300 ≤ 394; omega⟩ hN hK (xP_r hP) (xP_r hP) (xD_r hD) 10 0 rfl he hn hsize hst hW8 hdg ⟨Nat.le_refl _, Nat.le_refl _⟩) hS (xB_of (xD_r hD)) fun H1 locs1 hk hP1 hS1 => ?_
  obtain ⟨a1, a2⟩ := xback hP hD hadr hk hP1
  exact kk H1 locs1 ⟨hd0, a1, a2, hS1⟩
/-- the same of a float -/
theorem lw_f9 {y : MethodName} {ws ws' : List Cond} {bytes : ByteArray} {maxL index n q : Nat} {ret' : Option FieldType} {As : List Value} {r : UInt32} {fs : List Value} (C : lwC p s m meth c b L xs dC dI cI cF cC cZ cQ cS) (hH : lwH s dC dI d H locs (Wx ++ Wm)) (hM : pXf l (dC, dI) (xtys cI cF cC cZ cQ cS) y ws (.ref q :: As) Wx r)
    (hG : GoodIn wsL_law (wsV RL index RX9 y ws)) (hw : ws = Cond.code y bytes maxL ret' :: ws') (hmax : maxL ≤ 60) (hd : y.cls = RX9 ∧ y.cls ≠ "java/lang/invoke/MethodHandle" ∧ y.cls ≠ "java/lang/invoke/VarHandle" ∧ (parseMethodDescriptor y.desc).map (fun d => d.parameters.length) = some n)
    (he : Wx[0]? = some (q, .inr (9, fs))) (hn : As.length = n) (hsize : ls.size = 8) (hst : st0 = As.reverse ++ .ref q :: rest) (hW8 : (rest.map fun v => v.category).sum ≤ 8) (hdg : decode cL_law pc = .ok (.invokevirtual index, 3))
    (kk : lwW p l e s m below meth c b d H locs (pc + 3) ls (.float r :: rest)) : lwW p l e s m below meth c b d H locs pc ls st0 := by
  obtain ⟨hx, hb, hr, hml, hown, hts, hX, hbl, hlocks, hK, hN, hL⟩ := C
  obtain ⟨hd0, hP, hD, hS⟩ := hH
  refine xkRf (xVg (A := lwA s) hx hb hml hown (dr_words hts d) hM n hG hw rfl rfl hd ⟨Nat.le_of_ble_eq_true rfl, by show 8 + (maxL + 11) + 300 ≤ 394; omega⟩ hN hK (xP_l hP) (xP_l hP) (xD_l hD) 9 0 rfl he hn hsize hst hW8 hdg ⟨Nat.le_refl _, Nat.le_refl _⟩) fun r1 e1 => ?_
  rw [e1]
  exact kk
theorem lw_f10 {y : MethodName} {ws ws' : List Cond} {bytes : ByteArray} {maxL index n q : Nat} {ret' : Option FieldType} {As : List Value} {r : UInt32} {fs : List Value} (C : lwC p s m meth c b L xs dC dI cI cF cC cZ cQ cS) (hH : lwH s dC dI d H locs (Wx ++ Wm)) (hM : pXf l (dC, dI) (xtys cI cF cC cZ cQ cS) y ws (.ref q :: As) Wm r)
    (hG : GoodIn wsL_law (wsV RL index RX10 y ws)) (hw : ws = Cond.code y bytes maxL ret' :: ws') (hmax : maxL ≤ 60) (hd : y.cls = RX10 ∧ y.cls ≠ "java/lang/invoke/MethodHandle" ∧ y.cls ≠ "java/lang/invoke/VarHandle" ∧ (parseMethodDescriptor y.desc).map (fun d => d.parameters.length) = some n)
    (he : Wm[0]? = some (q, .inr (10, fs))) (hn : As.length = n) (hsize : ls.size = 8) (hst : st0 = As.reverse ++ .ref q :: rest) (hW8 : (rest.map fun v => v.category).sum ≤ 8) (hdg : decode cL_law pc = .ok (.invokevirtual index, 3))
    (kk : lwW p l e s m below meth c b d H locs (pc + 3) ls (.float r :: rest)) : lwW p l e s m below meth c b d H locs pc ls st0 := by
  obtain ⟨hx, hb, hr, hml, hown, hts, hX, hbl, hlocks, hK, hN, hL⟩ := C
  obtain ⟨hd0, hP, hD, hS⟩ := hH
  refine xkRf (xVg (A := lwA s) hx hb hml hown (dr_words hts d) hM n hG hw rfl rfl hd ⟨Nat.le_of_ble_eq_true rfl, by show 8 + (maxL + 11) + 300 ≤ 394; omega⟩ hN hK (xP_r hP) (xP_r hP) (xD_r hD) 10 0 rfl he hn hsize hst hW8 hdg ⟨Nat.le_refl _, Nat.le_refl _⟩) fun r1 e1 => ?_
  rw [e1]
  exact kk
end LW
/-! What the law compares of two doubles that are one float. -/
theorem xnan64 {a : UInt64} (h : isNaN64 a = true) : FP.Core.val64 a = .nan := by
  refine Classical.byContradiction fun q => ?_
  have h1 := (FP.Core.ne_nan a).mp q
  unfold isNaN64 at h
  have h2 : (0x7ff0000000000000 : UInt64) < a &&& 0x7fffffffffffffff := of_decide_eq_true h
  have h3 := UInt64.lt_iff_toNat_lt.mp h2
  rw [UInt64.toNat_and] at h3
  have h4 : a.toNat &&& (0x7fffffffffffffff : UInt64).toNat = a.toNat % 2 ^ 63 := Nat.and_two_pow_sub_one_eq_mod a.toNat 63
  rw [h4] at h3
  have h5 : (0x7ff0000000000000 : UInt64).toNat = 9218868437227405312 := by decide
  omega
theorem xalike {f x : UInt64} (h : alike64 x f = true) : x = f ∨ (FP.Core.val64 x = .nan ∧ FP.Core.val64 f = .nan) := by
  unfold alike64 at h
  rcases Bool.or_eq_true _ _ |>.mp h with h | h
  · exact Or.inl (of_decide_eq_true h)
  · obtain ⟨h1, h2⟩ := Bool.and_eq_true _ _ |>.mp h
    exact Or.inr ⟨xnan64 h1, xnan64 h2⟩
/-- two answers of one float: one number, or no numbers -/
theorem xtwo {f x y : UInt64} (hx : alike64 x f = true) (hy : alike64 y f = true) : Op.cmpValue (FP.dcmp x y) .l = 0 ∨ (¬ Op.cmpValue (FP.dcmp x x) .l = 0 ∧ ¬ Op.cmpValue (FP.dcmp y y) .l = 0) := by
  by_cases hn : FP.Core.val64 f = .nan
  · refine Or.inr ?_
    have key : ∀ z : UInt64, alike64 z f = true → ¬ Op.cmpValue (FP.dcmp z z) .l = 0 := fun z hz => by
      have hz2 : FP.Core.val64 z = .nan := by
        rcases xalike hz with h | h
        · rw [h]; exact hn
        · exact h.1
      have : FP.dcmp z z = none := (FP.Core.dcmp_none z z).mpr (Or.inl hz2)
      rw [this]
      decide
    exact ⟨key x hx, key y hy⟩
  · refine Or.inl ?_
    have key : ∀ z : UInt64, alike64 z f = true → z = f := fun z hz => (xalike hz).elim id fun h => absurd h.2 hn
    rw [key x hx, key y hy]
    have : FP.dcmp f f = some .eq := FP.Core.dcmp_self hn
    rw [this]
    decide
