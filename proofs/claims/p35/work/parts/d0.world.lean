/-! The store's world, as the law's helpers see it: its places, its contents; rows of calls on it. -/
theorem clsW_adr {cI cF cC cQ cS : ClassId} {b o sn tr : Nat → Nat} {ad : Nat → Nat → Nat} {V V' : Nat → Int32} {E E' : Nat → Nat → Int32} {P P' : Nat → UInt32} {T T' Ts Ts' Tt Tt' : Nat → Nat → Int32} {S S' : Nat → Nat → Nat → Int32} :
    (clsW cI cF cC cQ cS b o sn tr ad V E P T Ts Tt S).map Prod.fst = (clsW cI cF cC cQ cS b o sn tr ad V' E' P' T' Ts' Tt' S').map Prod.fst := by
  have h1 : (clsF cI cF cC cQ cS b (o 0) (sn 0) (tr 0) ad V E P).map Prod.fst = (clsF cI cF cC cQ cS b (o 0) (sn 0) (tr 0) ad V' E' P').map Prod.fst := rfl
  have h2 := stW_adr cI cF cQ o T T'
  have h3 := stW_adr cI cF cQ sn Ts Ts'
  have h4 := stW_adr cI cF cQ tr Tt Tt'
  have h5 : (hiW cI cF cQ ad S).map Prod.fst = (hiW cI cF cQ ad S').map Prod.fst := hiW_adr
  unfold clsW
  rw [List.map_append, List.map_append, List.map_append, List.map_append, h1, h2, h3, h4, h5, List.map_append, List.map_append, List.map_append, List.map_append]
/-- classes of arrays; places -/
abbrev XK : Type := (ClassId × ClassId × ClassId × ClassId × ClassId) × (Nat → Nat) × (Nat → Nat) × (Nat → Nat) × (Nat → Nat) × (Nat → Nat → Nat)
/-- numbers, rows and floats of the front; the state, the snapshot, the trial; the history -/
abbrev XM : Type := (Nat → Int32) × (Nat → Nat → Int32) × (Nat → UInt32) × (Nat → Nat → Int32) × (Nat → Nat → Int32) × (Nat → Nat → Int32) × (Nat → Nat → Nat → Int32)
abbrev mT (M : XM) : Nat → Nat → Int32 := M.2.2.2.1
def cw (z : XK) (M : XM) : va_W := clsW z.1.1 z.1.2.1 z.1.2.2.1 z.1.2.2.2.1 z.1.2.2.2.2 z.2.1 z.2.2.1 z.2.2.2.1 z.2.2.2.2.1 z.2.2.2.2.2 M.1 M.2.1 M.2.2.1 M.2.2.2.1 M.2.2.2.2.1 M.2.2.2.2.2.1 M.2.2.2.2.2.2
def zo (z : XK) : Nat := z.2.1 0
abbrev zty (z : XK) : List (ClassId × FieldType) := xtys z.1.1 z.1.2.1 z.1.2.2.1 z.1.1 z.1.2.2.2.1 z.1.2.2.2.2
theorem cw_adr (z : XK) (M M' : XM) : (cw z M).map Prod.fst = (cw z M').map Prod.fst := clsW_adr
/-- a call on the store: from M to M', answering r -/
def zX (l : Launch) (D : va_G) (z : XK) (y : MethodName) (ws : List Cond) (as : List Value) (M M' : XM) (r : Int32) : Prop := pX l D (zty z) y ws (.ref (zo z) :: as) (cw z M) (cw z M') r
def zXf (l : Launch) (D : va_G) (z : XK) (y : MethodName) (ws : List Cond) (as : List Value) (M : XM) (r : UInt32) : Prop := pXf l D (zty z) y ws (.ref (zo z) :: as) (cw z M) r
theorem zX.r {l : Launch} {D : va_G} {z : XK} {y : MethodName} {ws : List Cond} {as : List Value} {M M' : XM} {r r' : Int32} (h : zX l D z y ws as M M' r) (e : r = r') : zX l D z y ws as M M' r' := e ▸ h
theorem zX.w {l : Launch} {D : va_G} {z : XK} {y : MethodName} {ws : List Cond} {as : List Value} {M M' M2 : XM} {r : Int32} (h : zX l D z y ws as M M' r) (e : M' = M2) : zX l D z y ws as M M2 r := e ▸ h
/-- a helper of the law -/
def zL (post : Int32 → XM → Prop) (l : Launch) (D : va_G) (z : XK) (y : MethodName) (ws : List Cond) (fr lo : Nat) (as : List Value) (M : XM) : Prop :=
  Met l y ws { frames := fr, cells := 0, slots := 0, locals := lo } (xPre D vwCl as (zty z) (cw z M)) (xWi D vwCl (cw z M) (fun r w => ∃ M', w = cw z M' ∧ post r M')) 0 0 (va_B (cw z M))
/-- the script beside it -/
def zSc (D : va_G) (as : List Value) (z : XK) (M : XM) (a L : Nat) (xs : Nat → Int32) : Array Value → State → Prop := va_Pc as (fun U => (va_P D vwCl (cw z M) U.heap ∧ va_K D vwCl (zty z) U ∧ va_D (fun _ => True) (cw z M) ∧ xN U) ∧ va_X a L xs U U.heap ∧ ¬ va_B (cw z M) a)
theorem zSc_blind {D : va_G} {as : List Value} {z : XK} {M : XM} {a L : Nat} {xs : Nat → Int32} : FrameBlind (zSc D as z M a L xs) := by
  intro ar U g mk h
  obtain ⟨h1, ⟨h2, h3, h4, h5⟩, h6, h7⟩ := h
  exact ⟨h1, ⟨h2, va_K.moved (u := U) (U := U.calling g mk ar) (Vm.Alike.refl U.vm) h3, h4, xN.same (u := U) (U := U.calling g mk ar) rfl h5⟩, va_X.moved (u := U) (U := U.calling g mk ar) (Vm.Alike.refl U.vm) h6, h7⟩
def zPx (as : List Value) (a L : Nat) (xs : Nat → Int32) : Array Value → State → Prop := va_Pc as (fun U => va_X a L xs U U.heap)
theorem zPx_blind {as : List Value} {a L : Nat} {xs : Nat → Int32} : FrameBlind (zPx as a L xs) := by
  intro ar U g mk h
  exact ⟨h.1, va_X.moved (u := U) (U := U.calling g mk ar) (Vm.Alike.refl U.vm) h.2⟩
section ZR
variable {p : Program} {l : Launch} {e : Env} {R : Room} {s : State} {m : MethodId} {args : Array Value} {below : List Frame} {meth : Method} {c : Code} {H : Heap} {locs : List Loc} {cells slots : Nat} {Q : State → Prop} {pc : Nat} {ls : Array Slot} {rest st0 : List Value} {cc : ByteArray}
variable {D : va_G} {A : Nat → Prop} {H0 : Heap} {av : Array Value} {z : XK} {M M' : XM} {y : MethodName} {bytes : ByteArray} {maxL nL index : Nat} {ret : Option FieldType} {Ws Ws' : List Cond} {Ts : List Cond} {own : String} {As : List Value} {x : Int32} {xf : UInt32}
theorem zkI {wc : va_W} {post : Int32 → va_W → Prop} (hr : va_Run p l e R s m args below meth c H locs cells slots 0 0 (F0 m pc ls st0) rest (xWi D vwCl wc post av) (va_B wc)) (hS : va_S A H0 H locs) (hB : ∀ q, va_B wc q → A q)
    (kk : ∀ (x : Int32) (w1 : va_W) (H1 : Heap) (locs1 : List Loc), post x w1 → va_P D vwCl w1 H1 → va_S A H0 H1 locs1 → W p l e R s m args below meth c H1 locs1 cells slots Q (F0 m (pc + 3) ls (.int x :: rest))) : W p l e R s m args below meth c H locs cells slots Q (F0 m pc ls st0) := by
  intro T hT X
  obtain ⟨v, st₀, t, T', L, h0, X', hL, e1, e2, ⟨⟨r, w, hv, hp, hP1⟩, hz, hk⟩, st⟩ := hr T hT X
  cases hv
  rw [h0] at hz hk
  rw [← e1] at hz hk hP1
  obtain ⟨t2, a1, b1⟩ := kk r w T'.heap (locs ++ L) hp hP1
    ⟨Nat.le_trans hS.1 hz, fun q h1 h2 => by rw [hk q (Nat.lt_of_lt_of_le h1 hS.1) (fun z => h2 (hB q z))]; exact hS.2.1 q h1 h2, fun q hq => by
      rcases List.mem_append.mp hq with h | h
      · exact hS.2.2 q h
      · exact hB _ (hL q h)⟩ T' rfl X'
  exact ⟨t2, st t2 a1, b1⟩
/-- a call on the store -/
theorem zrV (hx : p.tables.exec = Jvm.exec) (hb : c.code = cc) (hml : c.maxLocals = nL) (hown : s.vm.findClass own = some m.cls) (hts : ∀ w ∈ Ts, w.before args s = true) (hN : xN s) (hK : va_K D vwCl (zty z) s) (hM : zX l D z y Ws As M M' x) (n : Nat) (hG : GoodIn Ts (wsV own index RX9 y Ws)) (hw : Ws = Cond.code y bytes maxL ret :: Ws')
    (hd : y.cls = RX9 ∧ y.cls ≠ "java/lang/invoke/MethodHandle" ∧ y.cls ≠ "java/lang/invoke/VarHandle" ∧ (parseMethodDescriptor y.desc).map (fun d => d.parameters.length) = some n) (hR : 7 ≤ R.frames ∧ 8 + (maxL + 11) + 250 ≤ R.locals) (hP : va_P D vwCl (cw z M) H) (hD : va_D A (cw z M)) (hS : va_S A H0 H locs)
    (hn : As.length = n) (hsize : ls.size = nL) (hst : st0 = As.reverse ++ .ref (zo z) :: rest) (hW8 : (rest.map fun v => v.category).sum ≤ 8) (hdg : decode cc pc = .ok (.invokevirtual index, 3)) (hf : cells ≤ R.cells ∧ slots ≤ R.slots)
    (kk : ∀ (H1 : Heap) (locs1 : List Loc), va_P D vwCl (cw z M') H1 → va_D A (cw z M') → va_S A H0 H1 locs1 → W p l e R s m args below meth c H1 locs1 cells slots Q (F0 m (pc + 3) ls (.int x :: rest))) : W p l e R s m args below meth c H locs cells slots Q (F0 m pc ls st0) :=
  xkI3 (xVg (A := A) hx hb hml hown hts hM n hG hw rfl rfl hd hR hN hK hP hP hD 9 0 rfl rfl hn hsize hst hW8 hdg hf) hS (xB_of hD) fun H1 locs1 _ hP1 hS1 => kk H1 locs1 hP1 (va_D_adr hD (cw_adr z M' M)) hS1
/-- a call on the store that answers a float -/
theorem zrF (hx : p.tables.exec = Jvm.exec) (hb : c.code = cc) (hml : c.maxLocals = nL) (hown : s.vm.findClass own = some m.cls) (hts : ∀ w ∈ Ts, w.before args s = true) (hN : xN s) (hK : va_K D vwCl (zty z) s) (hM : zXf l D z y Ws As M xf) (n : Nat) (hG : GoodIn Ts (wsV own index RX9 y Ws)) (hw : Ws = Cond.code y bytes maxL ret :: Ws')
    (hd : y.cls = RX9 ∧ y.cls ≠ "java/lang/invoke/MethodHandle" ∧ y.cls ≠ "java/lang/invoke/VarHandle" ∧ (parseMethodDescriptor y.desc).map (fun d => d.parameters.length) = some n) (hR : 7 ≤ R.frames ∧ 8 + (maxL + 11) + 250 ≤ R.locals) (hP : va_P D vwCl (cw z M) H) (hD : va_D A (cw z M))
    (hn : As.length = n) (hsize : ls.size = nL) (hst : st0 = As.reverse ++ .ref (zo z) :: rest) (hW8 : (rest.map fun v => v.category).sum ≤ 8) (hdg : decode cc pc = .ok (.invokevirtual index, 3)) (hf : cells ≤ R.cells ∧ slots ≤ R.slots)
    (kk : W p l e R s m args below meth c H locs cells slots Q (F0 m (pc + 3) ls (.float xf :: rest))) : W p l e R s m args below meth c H locs cells slots Q (F0 m pc ls st0) :=
  xkRf (xVg (A := A) hx hb hml hown hts hM n hG hw rfl rfl hd hR hN hK hP hP hD 9 0 rfl rfl hn hsize hst hW8 hdg hf) fun _ hr => hr ▸ kk
/-- a call of a helper -/
theorem zrS {post : Int32 → XM → Prop} {fr lo : Nat} (hx : p.tables.exec = Jvm.exec) (hb : c.code = cc) (hml : c.maxLocals = nL) (hown : s.vm.findClass own = some m.cls) (hts : ∀ w ∈ Ts, w.before args s = true) (hN : xN s) (hK : va_K D vwCl (zty z) s) (hM : zL post l D z y Ws fr lo As M) (n : Nat) (hG : GoodIn Ts (va_wsS own index y Ws)) (hw : Ws = Cond.code y bytes maxL ret :: Ws')
    (hd : y.cls ≠ "java/lang/invoke/MethodHandle" ∧ y.cls ≠ "java/lang/invoke/VarHandle" ∧ (parseMethodDescriptor y.desc).map (fun d => d.parameters.length) = some n) (hR : fr + 1 ≤ R.frames ∧ 8 + (maxL + 11) + lo ≤ R.locals) (hP : va_P D vwCl (cw z M) H) (hD : va_D A (cw z M)) (hS : va_S A H0 H locs)
    (hn : As.length = n) (hsize : ls.size = nL) (hst : st0 = As.reverse ++ rest) (hW8 : (rest.map fun v => v.category).sum ≤ 8) (hdg : decode cc pc = .ok (.invokestatic index, 3)) (hf : cells ≤ R.cells ∧ slots ≤ R.slots)
    (kk : ∀ (x : Int32) (M' : XM) (H1 : Heap) (locs1 : List Loc), post x M' → va_P D vwCl (cw z M') H1 → va_D A (cw z M') → va_S A H0 H1 locs1 → W p l e R s m args below meth c H1 locs1 cells slots Q (F0 m (pc + 3) ls (.int x :: rest))) : W p l e R s m args below meth c H locs cells slots Q (F0 m pc ls st0) :=
  zkI (va_runS (As := As) (rest := rest) ⟨hx, hb, hml, hown, hts⟩ hM (va_cwS n hts hG hw rfl rfl hd hR) ⟨xPre_blind, fun U hU hW => ⟨rfl, by rw [hU]; exact hP, va_K.moved hW.alike hK, hD.weaken (fun _ _ _ _ => trivial), hN.warm hW⟩⟩ rfl hn hsize hst (lv_room hW8) hdg hf) hS (xB_of hD) fun x w1 H1 locs1 hp hP1 hS1 => by
    obtain ⟨M', rfl, hp⟩ := hp
    exact kk x M' H1 locs1 hp hP1 (va_D_adr hD (cw_adr z M' M)) hS1
/-- a call of a helper that looks at nothing -/
theorem zrP {post : Int32 → Prop} {fr lo : Nat} (hx : p.tables.exec = Jvm.exec) (hb : c.code = cc) (hml : c.maxLocals = nL) (hown : s.vm.findClass own = some m.cls) (hts : ∀ w ∈ Ts, w.before args s = true) (hM : Met l y Ws { frames := fr, cells := 0, slots := 0, locals := lo } (va_Pc As (fun _ => True)) (vp_Si post) 0 0 (fun _ => False)) (n : Nat) (hG : GoodIn Ts (va_wsS own index y Ws)) (hw : Ws = Cond.code y bytes maxL ret :: Ws')
    (hd : y.cls ≠ "java/lang/invoke/MethodHandle" ∧ y.cls ≠ "java/lang/invoke/VarHandle" ∧ (parseMethodDescriptor y.desc).map (fun d => d.parameters.length) = some n) (hR : fr + 1 ≤ R.frames ∧ 8 + (maxL + 11) + lo ≤ R.locals)
    (hn : As.length = n) (hsize : ls.size = nL) (hst : st0 = As.reverse ++ rest) (hW8 : (rest.map fun v => v.category).sum ≤ 8) (hdg : decode cc pc = .ok (.invokestatic index, 3)) (hf : cells ≤ R.cells ∧ slots ≤ R.slots)
    (kk : ∀ x : Int32, post x → W p l e R s m args below meth c H locs cells slots Q (F0 m (pc + 3) ls (.int x :: rest))) : W p l e R s m args below meth c H locs cells slots Q (F0 m pc ls st0) :=
  xkRi (va_runS (As := As) (rest := rest) ⟨hx, hb, hml, hown, hts⟩ hM (va_cwS n hts hG hw rfl rfl hd hR) ⟨fun a U g mk q => q, fun U hU hW => ⟨rfl, trivial⟩⟩ rfl hn hsize hst (lv_room hW8) hdg hf) kk
/-- a call of a helper that looks at the script -/
theorem zrC {post : Int32 → Prop} {fr lo a L : Nat} {xs : Nat → Int32} (hx : p.tables.exec = Jvm.exec) (hb : c.code = cc) (hml : c.maxLocals = nL) (hown : s.vm.findClass own = some m.cls) (hts : ∀ w ∈ Ts, w.before args s = true) (hX : va_X a L xs s H0) (hbl : a < H0.size) (hbA : ¬ A a) (hS : va_S A H0 H locs) (hM : Met l y Ws { frames := fr, cells := 0, slots := 0, locals := lo } (zPx As a L xs) (vp_Si post) 0 0 (fun _ => False)) (n : Nat) (hG : GoodIn Ts (va_wsS own index y Ws)) (hw : Ws = Cond.code y bytes maxL ret :: Ws')
    (hd : y.cls ≠ "java/lang/invoke/MethodHandle" ∧ y.cls ≠ "java/lang/invoke/VarHandle" ∧ (parseMethodDescriptor y.desc).map (fun d => d.parameters.length) = some n) (hR : fr + 1 ≤ R.frames ∧ 8 + (maxL + 11) + lo ≤ R.locals)
    (hn : As.length = n) (hsize : ls.size = nL) (hst : st0 = As.reverse ++ rest) (hW8 : (rest.map fun v => v.category).sum ≤ 8) (hdg : decode cc pc = .ok (.invokestatic index, 3)) (hf : cells ≤ R.cells ∧ slots ≤ R.slots)
    (kk : ∀ x : Int32, post x → W p l e R s m args below meth c H locs cells slots Q (F0 m (pc + 3) ls (.int x :: rest))) : W p l e R s m args below meth c H locs cells slots Q (F0 m pc ls st0) :=
  xkRi (va_runS (As := As) (rest := rest) ⟨hx, hb, hml, hown, hts⟩ hM (va_cwS n hts hG hw rfl rfl hd hR) ⟨zPx_blind, fun U hU hW => ⟨rfl, va_X.moved hW.alike (by rw [hU]; exact hX.kept (hS.2.1 a hbl hbA))⟩⟩ rfl hn hsize hst (lv_room hW8) hdg hf) kk
/-- a call of a helper that looks at the script and changes the store -/
theorem zrG {post : Int32 → XM → Prop} {fr lo a L : Nat} {xs : Nat → Int32} (hx : p.tables.exec = Jvm.exec) (hb : c.code = cc) (hml : c.maxLocals = nL) (hown : s.vm.findClass own = some m.cls) (hts : ∀ w ∈ Ts, w.before args s = true) (hN : xN s) (hK : va_K D vwCl (zty z) s) (hX : va_X a L xs s H0) (hbl : a < H0.size) (hbA : ¬ A a)
    (hM : Met l y Ws { frames := fr, cells := 0, slots := 0, locals := lo } (zSc D As z M a L xs) (xWi D vwCl (cw z M) (fun r w => ∃ M', w = cw z M' ∧ post r M')) 0 0 (va_B (cw z M))) (n : Nat) (hG : GoodIn Ts (va_wsS own index y Ws)) (hw : Ws = Cond.code y bytes maxL ret :: Ws')
    (hd : y.cls ≠ "java/lang/invoke/MethodHandle" ∧ y.cls ≠ "java/lang/invoke/VarHandle" ∧ (parseMethodDescriptor y.desc).map (fun d => d.parameters.length) = some n) (hR : fr + 1 ≤ R.frames ∧ 8 + (maxL + 11) + lo ≤ R.locals) (hP : va_P D vwCl (cw z M) H) (hD : va_D A (cw z M)) (hS : va_S A H0 H locs)
    (hn : As.length = n) (hsize : ls.size = nL) (hst : st0 = As.reverse ++ rest) (hW8 : (rest.map fun v => v.category).sum ≤ 8) (hdg : decode cc pc = .ok (.invokestatic index, 3)) (hf : cells ≤ R.cells ∧ slots ≤ R.slots)
    (kk : ∀ (x : Int32) (M' : XM) (H1 : Heap) (locs1 : List Loc), post x M' → va_P D vwCl (cw z M') H1 → va_D A (cw z M') → va_S A H0 H1 locs1 → W p l e R s m args below meth c H1 locs1 cells slots Q (F0 m (pc + 3) ls (.int x :: rest))) : W p l e R s m args below meth c H locs cells slots Q (F0 m pc ls st0) :=
  zkI (va_runS (As := As) (rest := rest) ⟨hx, hb, hml, hown, hts⟩ hM (va_cwS n hts hG hw rfl rfl hd hR) ⟨zSc_blind, fun U hU hW => ⟨rfl, ⟨by rw [hU]; exact hP, va_K.moved hW.alike hK, hD.weaken (fun _ _ _ _ => trivial), hN.warm hW⟩, va_X.moved hW.alike (by rw [hU]; exact hX.kept (hS.2.1 a hbl hbA)), fun hq => hbA (xB_of hD a hq)⟩⟩ rfl hn hsize hst (lv_room hW8) hdg hf) hS (xB_of hD) fun x w1 H1 locs1 hp hP1 hS1 => by
    obtain ⟨M', rfl, hp⟩ := hp
    exact kk x M' H1 locs1 hp hP1 (va_D_adr hD (cw_adr z M' M)) hS1
end ZR
