/-! Worlds in segments: a part at the front, a part behind it. -/
theorem xP_in {D : va_G} {cl : List vw_C} {W : va_W} {H : Heap} (h : va_P D cl W H) {c : Nat × va_E} (hc : c ∈ W) : va_at D cl c H := by
  obtain ⟨k, hk⟩ := List.getElem?_of_mem hc
  exact h k c hk
theorem xP_of {D : va_G} {cl : List vw_C} {W : va_W} {H : Heap} (h : ∀ c ∈ W, va_at D cl c H) : va_P D cl W H := fun _ c hk => h c (List.mem_of_getElem? hk)
theorem xB_in {W : va_W} {c : Nat × va_E} (hc : c ∈ W) : va_B W c.1 := by
  obtain ⟨k, hk⟩ := List.getElem?_of_mem hc
  exact ⟨k, c.2, hk⟩
theorem xB_mem {W : va_W} {q : Nat} (h : va_B W q) : ∃ e, (q, e) ∈ W := by
  obtain ⟨k, e, hk⟩ := h
  exact ⟨e, List.mem_of_getElem? hk⟩
theorem xP_l {D : va_G} {cl : List vw_C} {L R : va_W} {H : Heap} (h : va_P D cl (L ++ R) H) : va_P D cl L H := xP_of fun _ hc => xP_in h (List.mem_append_left _ hc)
theorem xP_r {D : va_G} {cl : List vw_C} {L R : va_W} {H : Heap} (h : va_P D cl (L ++ R) H) : va_P D cl R H := xP_of fun _ hc => xP_in h (List.mem_append_right _ hc)
theorem xD_l {A : Nat → Prop} {L R : va_W} (h : va_D A (L ++ R)) : va_D A L :=
  ⟨fun i j p q hp hq e => h.1 i j p q (by rw [List.getElem?_append_left (List.getElem?_eq_some_iff.mp hp).1]; exact hp) (by rw [List.getElem?_append_left (List.getElem?_eq_some_iff.mp hq).1]; exact hq) e,
   fun k q hq => h.2 k q (by rw [List.getElem?_append_left (List.getElem?_eq_some_iff.mp hq).1]; exact hq)⟩
theorem xD_r {A : Nat → Prop} {L R : va_W} (h : va_D A (L ++ R)) : va_D A R :=
  ⟨fun i j p q hp hq e => Nat.add_left_cancel (h.1 (L.length + i) (L.length + j) p q (by rw [List.getElem?_append_right (Nat.le_add_right _ _), Nat.add_sub_cancel_left]; exact hp) (by rw [List.getElem?_append_right (Nat.le_add_right _ _), Nat.add_sub_cancel_left]; exact hq) e),
   fun k q hq => h.2 (L.length + k) q (by rw [List.getElem?_append_right (Nat.le_add_right _ _), Nat.add_sub_cancel_left]; exact hq)⟩
theorem xD_in {A : Nat → Prop} {W : va_W} (h : va_D A W) {c : Nat × va_E} (hc : c ∈ W) : A c.1 := by
  obtain ⟨k, hk⟩ := List.getElem?_of_mem hc
  exact h.2 k c hk
theorem xD_ne {A : Nat → Prop} {L R : va_W} (h : va_D A (L ++ R)) {c d : Nat × va_E} (hc : c ∈ L) (hd : d ∈ R) : c.1 ≠ d.1 := by
  intro e
  obtain ⟨i, hi⟩ := List.getElem?_of_mem hc
  obtain ⟨j, hj⟩ := List.getElem?_of_mem hd
  have hl := (List.getElem?_eq_some_iff.mp hi).1
  have := h.1 i (L.length + j) c d (by rw [List.getElem?_append_left hl]; exact hi) (by rw [List.getElem?_append_right (Nat.le_add_right _ _), Nat.add_sub_cancel_left]; exact hj) e
  omega
theorem xD_eq {A : Nat → Prop} {W : va_W} (h : va_D A W) {c d : Nat × va_E} (hc : c ∈ W) (hd : d ∈ W) (e : c.1 = d.1) : c = d := by
  obtain ⟨i, hi⟩ := List.getElem?_of_mem hc
  obtain ⟨j, hj⟩ := List.getElem?_of_mem hd
  have := h.1 i j c d hi hj e
  subst this
  rw [hi] at hj
  exact Option.some.inj hj
theorem xD_app {A : Nat → Prop} {L R : va_W} (h1 : va_D A L) (h2 : va_D A R) (h : ∀ c ∈ L, ∀ d ∈ R, c.1 ≠ d.1) : va_D A (L ++ R) :=
  va_D.app h1 h2 fun i j p q hp hq => h p (List.mem_of_getElem? hp) q (List.mem_of_getElem? hq)
/-- what a call changes of a world: the cells behind it are those that it left, or those that it did not reach -/
theorem xsem {A : Nat → Prop} {D : va_G} {cl : List vw_C} {W W' wc w1 : va_W} {H H1 : Heap} (hP : va_P D cl W H) (hD : va_D A W) (hadr : W'.map Prod.fst = W.map Prod.fst) (hk : ∀ q : Nat, q < H.size → ¬ va_B wc q → H1[q]? = H[q]?) (hP1 : va_P D cl w1 H1)
    (hnew : ∀ c ∈ W', c ∈ w1 ∨ (c ∈ W ∧ ¬ va_B wc c.1)) : va_P D cl W' H1 ∧ va_D A W' := by
  refine ⟨xP_of fun c hc => ?_, va_D_adr hD hadr⟩
  rcases hnew c hc with h | ⟨h1, h2⟩
  · exact xP_in hP1 h
  · exact (xP_in hP h1).kept (hk c.1 (xP_in hP h1).lt h2)
/-- the back of a world changes -/
theorem xback {A : Nat → Prop} {D : va_G} {cl : List vw_C} {F wc w1 : va_W} {H H1 : Heap} (hP : va_P D cl (F ++ wc) H) (hD : va_D A (F ++ wc)) (hadr : wc.map Prod.fst = w1.map Prod.fst) (hk : ∀ q : Nat, q < H.size → ¬ va_B wc q → H1[q]? = H[q]?) (hP1 : va_P D cl w1 H1) : va_P D cl (F ++ w1) H1 ∧ va_D A (F ++ w1) := by
  refine xsem hP hD (by rw [List.map_append, List.map_append, hadr]) hk hP1 fun c hc => ?_
  rcases List.mem_append.mp hc with h | h
  · refine Or.inr ⟨List.mem_append_left _ h, fun hb => ?_⟩
    obtain ⟨e, he⟩ := xB_mem hb
    exact xD_ne hD h he rfl
  · exact Or.inl h
/-- the front of a world changes -/
theorem xfront {A : Nat → Prop} {D : va_G} {cl : List vw_C} {F wc w1 : va_W} {H H1 : Heap} (hP : va_P D cl (wc ++ F) H) (hD : va_D A (wc ++ F)) (hadr : wc.map Prod.fst = w1.map Prod.fst) (hk : ∀ q : Nat, q < H.size → ¬ va_B wc q → H1[q]? = H[q]?) (hP1 : va_P D cl w1 H1) : va_P D cl (w1 ++ F) H1 ∧ va_D A (w1 ++ F) := by
  refine xsem hP hD (by rw [List.map_append, List.map_append, hadr]) hk hP1 fun c hc => ?_
  rcases List.mem_append.mp hc with h | h
  · exact Or.inl h
  · refine Or.inr ⟨List.mem_append_right _ h, fun hb => ?_⟩
    obtain ⟨e, he⟩ := xB_mem hb
    exact xD_ne hD he h rfl
/-- a world with a tail: a call that reaches places of the front alone -/
theorem xset_P2t {A : Nat → Prop} {D : va_G} {cl : List vw_C} {L R wc w1 : va_W} {H H1 : Heap} {is ks : List Nat} (hP : va_P D cl (L ++ R) H) (hD : va_D A (L ++ R)) (hsub : is.map (fun i => L[i]?) = wc.map some) (hadr : wc.map Prod.fst = w1.map Prod.fst)
    (hk : ∀ q : Nat, q < H.size → ¬ va_B wc q → H1[q]? = H[q]?) (hP1 : va_P D cl w1 H1) (hks : ks = List.range L.length) :
    va_P D cl (xupd (is.zip w1) ks L ++ R) H1 ∧ va_D A (xupd (is.zip w1) ks L ++ R) := by
  obtain ⟨h1, h2⟩ := xset_P2 (xP_l hP) (xD_l hD) hsub hadr hk hP1 hks
  have hin : ∀ q, va_B wc q → va_B L q := by
    rintro q ⟨k, e, hk⟩
    have a := congrArg (fun l => l[k]?) hsub
    simp only [List.getElem?_map, hk, Option.map_some] at a
    cases hi : is[k]? with
    | none => rw [hi] at a; cases a
    | some i => rw [hi] at a; exact ⟨i, e, by simpa using a⟩
  have had : ∀ c ∈ xupd (is.zip w1) ks L, va_B L c.1 := by
    intro c hc
    obtain ⟨k, hk⟩ := List.getElem?_of_mem hc
    rw [xupd_get _ ks L k (by rw [hks]; simp)] at hk
    cases hw : L[k]? with
    | none => rw [hw] at hk; cases hk
    | some d =>
      have hlt : k < L.length := (List.getElem?_eq_some_iff.mp hw).1
      have hkk : ks[k]? = some k := by rw [hks]; simp [hlt]
      rw [hw] at hk
      simp only [Option.bind_some, hkk, Option.map_some, Option.some.injEq] at hk
      rcases xfind_spec k d (is.zip w1) with h | ⟨-, h⟩
      · rw [hk] at h
        obtain ⟨j, hj⟩ := List.getElem?_of_mem h
        have hz := (List.getElem?_zip_eq_some.mp hj).2
        have a := congrArg (fun l => l[j]?) hadr
        simp only [List.getElem?_map, hz, Option.map_some] at a
        cases hwj : wc[j]? with
        | none => rw [hwj] at a; cases a
        | some x =>
          rw [hwj] at a
          have e1 : x.1 = c.1 := by simpa using a
          rw [← e1]
          exact hin x.1 (xB_in (List.mem_of_getElem? hwj))
      · rw [← hk, h]
        exact xB_in (List.mem_of_getElem? hw)
  refine ⟨va_P.app h1 (xP_of fun c hc => ?_), xD_app h2 (xD_r hD) fun c hc d hd e => ?_⟩
  · refine (xP_in (xP_r hP) hc).kept (hk c.1 (xP_in (xP_r hP) hc).lt fun hb => ?_)
    obtain ⟨e, he⟩ := xB_mem (hin _ hb)
    exact xD_ne hD he hc rfl
  · obtain ⟨e2, he⟩ := xB_mem (had c hc)
    exact xD_ne hD he hd e
theorem xB_of {A : Nat → Prop} {wc : va_W} (h : va_D A wc) : ∀ q, va_B wc q → A q := by
  intro q hq
  obtain ⟨e, he⟩ := xB_mem hq
  exact xD_in h he
theorem xB_sub {A : Nat → Prop} {L wc : va_W} {is : List Nat} (hD : va_D A L) (hsub : is.map (fun i => L[i]?) = wc.map some) : ∀ q, va_B wc q → A q := by
  rintro q ⟨k, e, hk⟩
  have a := congrArg (fun l => l[k]?) hsub
  simp only [List.getElem?_map, hk, Option.map_some] at a
  cases hi : is[k]? with
  | none => rw [hi] at a; cases a
  | some i => rw [hi] at a; exact hD.2 i (q, e) (by simpa using a)
section XK3
variable {p : Program} {l : Launch} {e : Env} {R : Room} {s : State} {m : MethodId} {args : Array Value} {below : List Frame} {meth : Method} {c : Code} {H : Heap} {locs : List Loc} {cells slots : Nat} {Q : State → Prop} {pc : Nat} {ls : Array Slot} {rest : List Value} {cc : ByteArray}
variable {D : va_G} {cl : List vw_C} {tys : List (ClassId × FieldType)} {A : Nat → Prop} {H0 : Heap} {st0 : List Value} {av : Array Value}
/-- a call whose world is part of ours, said by its cells -/
theorem xVg {y : MethodName} {bytes : ByteArray} {maxL nL index : Nat} {ret : Option FieldType} {Ws Ws' : List Cond} {rm : Room} {Qc : Array Value → State → Outcome → State → Prop} {free : Addr → Prop} {Ts : List Cond} {own C : String} {T : u_T} {N : Nat} {b : Addr} {As : List Value} {wc W0 : va_W} {fs : List Value}
    (hx : p.tables.exec = Jvm.exec) (hb : c.code = cc) (hml : c.maxLocals = nL) (hown : s.vm.findClass own = some m.cls) (hts : ∀ w ∈ Ts, w.before args s = true) (hM : Met l y Ws rm (xPre D cl (.ref b :: As) tys wc) Qc 0 0 free) (n : Nat) (hG : GoodIn Ts (wsV own index C y Ws)) (hw : Ws = Cond.code y bytes maxL ret :: Ws') (hc0 : rm.cells = 0) (hs0 : rm.slots = 0)
    (hd : y.cls = C ∧ y.cls ≠ "java/lang/invoke/MethodHandle" ∧ y.cls ≠ "java/lang/invoke/VarHandle" ∧ (parseMethodDescriptor y.desc).map (fun d => d.parameters.length) = some n) (hR : rm.frames + 1 ≤ R.frames ∧ 8 + (maxL + 11) + rm.locals ≤ R.locals) (hN : xN s) (hK : va_K D cl tys s) (hP : va_P D cl W0 H) (hPc : va_P D cl wc H) (hDc : va_D A wc)
    (ci q0 : Nat) (hc : cl[ci]? = some (C, T, N)) (he : W0[q0]? = some (b, .inr (ci, fs))) (hn : As.length = n) (hsize : ls.size = nL) (hst : st0 = As.reverse ++ .ref b :: rest) (hW8 : (rest.map fun v => v.category).sum ≤ 8) (hdg : decode cc pc = .ok (.invokevirtual index, 3)) (hf : cells ≤ R.cells ∧ slots ≤ R.slots) :
    va_Run p l e R s m args below meth c H locs cells slots 0 0 (F0 m pc ls st0) rest (Qc (Value.ref b :: As).toArray) free :=
  va_runV (As := As) (rest := rest) ⟨hx, hb, hml, hown, hts⟩ hM (cwV n hts hG hw hc0 hs0 hd hR) ⟨xPre_blind, va_recv hK hP hc he, fun U hU hW => ⟨rfl, by rw [hU]; exact hPc, va_K.moved hW.alike hK, hDc.weaken (fun _ _ _ _ => trivial), hN.warm hW⟩⟩ rfl hn hsize hst (lv_room hW8) hdg hf
theorem xkV3 {wc w1 : va_W} (hr : va_Run p l e R s m args below meth c H locs cells slots 0 0 (F0 m pc ls st0) rest (xWv D cl wc (fun w => w = w1) av) (va_B wc)) (hS : va_S A H0 H locs) (hB : ∀ q, va_B wc q → A q)
    (kk : ∀ (H1 : Heap) (locs1 : List Loc), (∀ q : Nat, q < H.size → ¬ va_B wc q → H1[q]? = H[q]?) → va_P D cl w1 H1 → va_S A H0 H1 locs1 → W p l e R s m args below meth c H1 locs1 cells slots Q (F0 m (pc + 3) ls rest)) : W p l e R s m args below meth c H locs cells slots Q (F0 m pc ls st0) := by
  intro T hT X
  obtain ⟨v, st₀, t, T', L, h0, X', hL, e1, e2, ⟨⟨w, hv, hp, hP1⟩, hz, hk⟩, st⟩ := hr T hT X
  cases hv
  cases hp
  rw [h0] at hz hk
  rw [← e1] at hz hk hP1
  obtain ⟨t2, a1, b1⟩ := kk T'.heap (locs ++ L) hk hP1
    ⟨Nat.le_trans hS.1 hz, fun q h1 h2 => by rw [hk q (Nat.lt_of_lt_of_le h1 hS.1) (fun z => h2 (hB q z))]; exact hS.2.1 q h1 h2, fun q hq => by
      rcases List.mem_append.mp hq with h | h
      · exact hS.2.2 q h
      · exact hB _ (hL q h)⟩ T' rfl X'
  exact ⟨t2, st t2 a1, b1⟩
theorem xkI3 {wc w1 : va_W} {x : Int32} (hr : va_Run p l e R s m args below meth c H locs cells slots 0 0 (F0 m pc ls st0) rest (xWi D cl wc (fun r w => r = x ∧ w = w1) av) (va_B wc)) (hS : va_S A H0 H locs) (hB : ∀ q, va_B wc q → A q)
    (kk : ∀ (H1 : Heap) (locs1 : List Loc), (∀ q : Nat, q < H.size → ¬ va_B wc q → H1[q]? = H[q]?) → va_P D cl w1 H1 → va_S A H0 H1 locs1 → W p l e R s m args below meth c H1 locs1 cells slots Q (F0 m (pc + 3) ls (.int x :: rest))) : W p l e R s m args below meth c H locs cells slots Q (F0 m pc ls st0) := by
  intro T hT X
  obtain ⟨v, st₀, t, T', L, h0, X', hL, e1, e2, ⟨⟨r, w, hv, hp, hP1⟩, hz, hk⟩, st⟩ := hr T hT X
  cases hv
  obtain ⟨rfl, rfl⟩ := hp
  rw [h0] at hz hk
  rw [← e1] at hz hk hP1
  obtain ⟨t2, a1, b1⟩ := kk T'.heap (locs ++ L) hk hP1
    ⟨Nat.le_trans hS.1 hz, fun q h1 h2 => by rw [hk q (Nat.lt_of_lt_of_le h1 hS.1) (fun z => h2 (hB q z))]; exact hS.2.1 q h1 h2, fun q hq => by
      rcases List.mem_append.mp hq with h | h
      · exact hS.2.2 q h
      · exact hB _ (hL q h)⟩ T' rfl X'
  exact ⟨t2, st t2 a1, b1⟩
/-- a writing call at places of the front, with a tail -/
theorem xkV2t {wc w1 L Rt : va_W} (hr : va_Run p l e R s m args below meth c H locs cells slots 0 0 (F0 m pc ls st0) rest (xWv D cl wc (fun w => w = w1) av) (va_B wc)) (hP : va_P D cl (L ++ Rt) H) (hD : va_D A (L ++ Rt)) (hS : va_S A H0 H locs) (is ks : List Nat) (hsub : is.map (fun i => L[i]?) = wc.map some) (hadr : wc.map Prod.fst = w1.map Prod.fst)
    (n : Nat) (hn0 : L.length = n) (hks : ks = List.range n)
    (kk : ∀ (H1 : Heap) (locs1 : List Loc), va_P D cl (xupd (is.zip w1) ks L ++ Rt) H1 → va_D A (xupd (is.zip w1) ks L ++ Rt) → va_S A H0 H1 locs1 → W p l e R s m args below meth c H1 locs1 cells slots Q (F0 m (pc + 3) ls rest)) : W p l e R s m args below meth c H locs cells slots Q (F0 m pc ls st0) :=
  xkV3 hr hS (xB_sub (xD_l hD) hsub) fun H1 locs1 hk hP1 hS1 => by
    obtain ⟨a, b⟩ := xset_P2t hP hD hsub hadr hk hP1 (hks.trans (by rw [hn0]))
    exact kk H1 locs1 a b hS1
theorem xkI2t {wc w1 L Rt : va_W} {x : Int32} (hr : va_Run p l e R s m args below meth c H locs cells slots 0 0 (F0 m pc ls st0) rest (xWi D cl wc (fun r w => r = x ∧ w = w1) av) (va_B wc)) (hP : va_P D cl (L ++ Rt) H) (hD : va_D A (L ++ Rt)) (hS : va_S A H0 H locs) (is ks : List Nat) (hsub : is.map (fun i => L[i]?) = wc.map some) (hadr : wc.map Prod.fst = w1.map Prod.fst)
    (n : Nat) (hn0 : L.length = n) (hks : ks = List.range n)
    (kk : ∀ (H1 : Heap) (locs1 : List Loc), va_P D cl (xupd (is.zip w1) ks L ++ Rt) H1 → va_D A (xupd (is.zip w1) ks L ++ Rt) → va_S A H0 H1 locs1 → W p l e R s m args below meth c H1 locs1 cells slots Q (F0 m (pc + 3) ls (.int x :: rest))) : W p l e R s m args below meth c H locs cells slots Q (F0 m pc ls st0) :=
  xkI3 hr hS (xB_sub (xD_l hD) hsub) fun H1 locs1 hk hP1 hS1 => by
    obtain ⟨a, b⟩ := xset_P2t hP hD hsub hadr hk hP1 (hks.trans (by rw [hn0]))
    exact kk H1 locs1 a b hS1
end XK3
/-- a state with one field another -/
def xT (T : Nat → Nat → Int32) (k : Nat) (f : Nat → Int32) : Nat → Nat → Int32 := fun j => cond (Nat.beq j k) f (T j)
def stW (cI cF cQ : ClassId) (a : Nat → Nat) (T : Nat → Nat → Int32) : va_W := (a 0, .inr (8, [.ref (a 1), .ref (a 6), .ref (a 18), .ref (a 31), .ref (a 34), .ref (a 39), .float (xf1 (T 39 0)), .int (T 40 0)])) :: (a 1, .inr (3, [.int (T 0 0), .ref (a 2), .ref (a 3), .ref (a 4), .ref (a 5)])) :: (a 2, .inl (cI, 12, .inl (T 1))) :: (a 3, .inl (cI, 12, .inl (T 2))) :: (a 4, .inl (cI, 12, .inl (T 3))) :: (a 5, .inl (cI, 48, .inl (T 4))) :: (a 6, .inr (0, [.int (T 5 0), .ref (a 7), .ref (a 8), .ref (a 9), .ref (a 10), .ref (a 11), .ref (a 12), .ref (a 13), .ref (a 14)])) :: (a 7, .inl (cI, 40, .inl (T 6))) :: (a 8, .inl (cI, 40, .inl (T 7))) :: (a 9, .inl (cI, 40, .inl (T 8))) :: (a 10, .inl (cI, 40, .inl (T 9))) :: (a 11, .inl (cI, 40, .inl (T 10))) :: (a 12, .inl (cI, 40, .inl (T 11))) :: (a 13, .inl (cI, 40, .inl (T 12))) :: (a 14, .inl (cQ, 3, .inr (.inr (.inr (.inr (xrow [a 15, a 16, a 17])))))) :: (a 15, .inl (cI, 40, .inl (T 13))) :: (a 16, .inl (cI, 40, .inl (T 14))) :: (a 17, .inl (cI, 40, .inl (T 15))) :: (a 18, .inr (6, [.int (T 16 0), .int (T 17 0), .ref (a 19), .ref (a 20), .ref (a 21), .ref (a 22), .ref (a 23), .ref (a 24), .ref (a 25), .ref (a 26), .ref (a 27), .ref (a 28), .ref (a 29), .ref (a 30)])) :: (a 19, .inl (cI, 30, .inl (T 18))) :: (a 20, .inl (cI, 30, .inl (T 19))) :: (a 21, .inl (cI, 30, .inl (T 20))) :: (a 22, .inl (cI, 30, .inl (T 21))) :: (a 23, .inl (cI, 30, .inl (T 22))) :: (a 24, .inl (cI, 30, .inl (T 23))) :: (a 25, .inl (cI, 30, .inl (T 24))) :: (a 26, .inl (cI, 30, .inl (T 25))) :: (a 27, .inl (cI, 30, .inl (T 26))) :: (a 28, .inl (cI, 30, .inl (T 27))) :: (a 29, .inl (cI, 70, .inl (T 28))) :: (a 30, .inl (cI, 70, .inl (T 29))) :: (a 31, .inr (7, [.ref (a 32), .ref (a 33)])) :: (a 32, .inl (cI, 4, .inl (T 30))) :: (a 33, .inl (cF, 4, .inr (.inr (.inl (xfl (T 31)))))) :: (a 34, .inr (5, [.int (T 32 0), .int (T 33 0), .ref (a 35), .ref (a 36), .ref (a 37), .ref (a 38)])) :: (a 35, .inl (cI, 10, .inl (T 34))) :: (a 36, .inl (cI, 10, .inl (T 35))) :: (a 37, .inl (cI, 10, .inl (T 36))) :: (a 38, .inl (cI, 10, .inl (T 37))) :: (a 39, .inl (cI, 3, .inl (T 38))) :: []
theorem xsc0 {cI cF cQ : ClassId} {a : Nat → Nat} {T : Nat → Nat → Int32} {v : Int32} (h : T 0 0 = v) : stW cI cF cQ a T = stW cI cF cQ a (xT T 0 (fun _ => v)) := by
  subst h
  rfl
theorem xsc5 {cI cF cQ : ClassId} {a : Nat → Nat} {T : Nat → Nat → Int32} {v : Int32} (h : T 5 0 = v) : stW cI cF cQ a T = stW cI cF cQ a (xT T 5 (fun _ => v)) := by
  subst h
  rfl
theorem xsc16 {cI cF cQ : ClassId} {a : Nat → Nat} {T : Nat → Nat → Int32} {v : Int32} (h : T 16 0 = v) : stW cI cF cQ a T = stW cI cF cQ a (xT T 16 (fun _ => v)) := by
  subst h
  rfl
theorem xsc17 {cI cF cQ : ClassId} {a : Nat → Nat} {T : Nat → Nat → Int32} {v : Int32} (h : T 17 0 = v) : stW cI cF cQ a T = stW cI cF cQ a (xT T 17 (fun _ => v)) := by
  subst h
  rfl
theorem xsc32 {cI cF cQ : ClassId} {a : Nat → Nat} {T : Nat → Nat → Int32} {v : Int32} (h : T 32 0 = v) : stW cI cF cQ a T = stW cI cF cQ a (xT T 32 (fun _ => v)) := by
  subst h
  rfl
theorem xsc33 {cI cF cQ : ClassId} {a : Nat → Nat} {T : Nat → Nat → Int32} {v : Int32} (h : T 33 0 = v) : stW cI cF cQ a T = stW cI cF cQ a (xT T 33 (fun _ => v)) := by
  subst h
  rfl
/-- the four states of the history -/
def hiW (cI cF cQ : ClassId) (ad : Nat → Nat → Nat) (S : Nat → Nat → Nat → Int32) : va_W := stW cI cF cQ (ad 0) (S 0) ++ (stW cI cF cQ (ad 1) (S 1) ++ (stW cI cF cQ (ad 2) (S 2) ++ stW cI cF cQ (ad 3) (S 3)))
def xsa (ad : Nat → Nat → Nat) : Nat → Option Nat := fun k => some (ad k 0)
def xol (ol sz : Nat) : Nat := if sz = 4 then (ol + 1) % 4 else ol
def xsz (sz : Nat) : Nat := if sz = 4 then 4 else sz + 1
theorem stW_adr (cI cF cQ : ClassId) (a : Nat → Nat) (T U : Nat → Nat → Int32) : (stW cI cF cQ a T).map Prod.fst = (stW cI cF cQ a U).map Prod.fst := rfl
theorem xupS_at (S : Nat → Nat → Nat → Int32) (t : Nat) (T : Nat → Nat → Int32) : xupS S t T t = T := if_pos rfl
theorem xupS_ne (S : Nat → Nat → Nat → Int32) {t k : Nat} (T : Nat → Nat → Int32) (h : k ≠ t) : xupS S t T k = S k := if_neg h
section SEG
variable {cI cF cQ : ClassId} {ad : Nat → Nat → Nat} {S S' : Nat → Nat → Nat → Int32} {o : Nat → Nat} {T U : Nat → Nat → Int32} {A : Nat → Prop} {D : va_G} {cl : List vw_C} {F wc w1 : va_W} {H H1 : Heap} {t : Nat}
theorem hiW_adr : (hiW cI cF cQ ad S).map Prod.fst = (hiW cI cF cQ ad S').map Prod.fst := by
  simp only [hiW, List.map_append]
  rw [stW_adr _ _ _ (ad 0) (S 0) (S' 0), stW_adr _ _ _ (ad 1) (S 1) (S' 1), stW_adr _ _ _ (ad 2) (S 2) (S' 2), stW_adr _ _ _ (ad 3) (S 3) (S' 3)]
theorem hiW_mem {c : Nat × va_E} : c ∈ hiW cI cF cQ ad S ↔ ∃ k, k < 4 ∧ c ∈ stW cI cF cQ (ad k) (S k) := by
  simp only [hiW, List.mem_append]
  constructor
  · rintro (h | h | h | h)
    · exact ⟨0, by decide, h⟩
    · exact ⟨1, by decide, h⟩
    · exact ⟨2, by decide, h⟩
    · exact ⟨3, by decide, h⟩
  · rintro ⟨k, hk, h⟩
    rcases (show k = 0 ∨ k = 1 ∨ k = 2 ∨ k = 3 by omega) with rfl | rfl | rfl | rfl
    · exact Or.inl h
    · exact Or.inr (Or.inl h)
    · exact Or.inr (Or.inr (Or.inl h))
    · exact Or.inr (Or.inr (Or.inr h))
theorem hiW_P (h : va_P D cl (hiW cI cF cQ ad S) H) (ht : t < 4) : va_P D cl (stW cI cF cQ (ad t) (S t)) H := xP_of fun _ hc => xP_in h (hiW_mem.mpr ⟨t, ht, hc⟩)
theorem hiW_D (h : va_D A (hiW cI cF cQ ad S)) (ht : t < 4) : va_D A (stW cI cF cQ (ad t) (S t)) := by
  rcases (show t = 0 ∨ t = 1 ∨ t = 2 ∨ t = 3 by omega) with rfl | rfl | rfl | rfl
  · exact xD_l h
  · exact xD_l (xD_r h)
  · exact xD_l (xD_r (xD_r h))
  · exact xD_r (xD_r (xD_r h))
theorem hiW_ne (h : va_D A (hiW cI cF cQ ad S)) {i j : Nat} (hi : i < 4) (hj : j < 4) (hij : i < j) {c d : Nat × va_E} (hc : c ∈ stW cI cF cQ (ad i) (S i)) (hd : d ∈ stW cI cF cQ (ad j) (S j)) : c.1 ≠ d.1 := by
  rcases (show i = 0 ∨ i = 1 ∨ i = 2 by omega) with rfl | rfl | rfl
  · refine xD_ne h hc ?_
    rcases (show j = 1 ∨ j = 2 ∨ j = 3 by omega) with rfl | rfl | rfl
    · exact List.mem_append_left _ hd
    · exact List.mem_append_right _ (List.mem_append_left _ hd)
    · exact List.mem_append_right _ (List.mem_append_right _ hd)
  · refine xD_ne (xD_r h) hc ?_
    rcases (show j = 2 ∨ j = 3 by omega) with rfl | rfl
    · exact List.mem_append_left _ hd
    · exact List.mem_append_right _ hd
  · obtain rfl : j = 3 := by omega
    exact xD_ne (xD_r (xD_r h)) hc hd
theorem hiW_apart (h : va_D A (hiW cI cF cQ ad S)) {i j : Nat} (hi : i < 4) (hj : j < 4) (hij : i ≠ j) {c d : Nat × va_E} (hc : c ∈ stW cI cF cQ (ad i) (S i)) (hd : d ∈ stW cI cF cQ (ad j) (S j)) : c.1 ≠ d.1 := by
  rcases Nat.lt_or_gt_of_ne hij with q | q
  · exact hiW_ne h hi hj q hc hd
  · exact (hiW_ne h hj hi q hd hc).symm
theorem xpu_in (ht : t < 4) (hP : va_P D cl (F ++ (stW cI cF cQ o T ++ hiW cI cF cQ ad S)) H) : va_P D cl (stW cI cF cQ (ad t) (S t) ++ stW cI cF cQ o T) H := va_P.app (hiW_P (xP_r (xP_r hP)) ht) (xP_l (xP_r hP))
theorem xpu_inD (ht : t < 4) (hD : va_D A (F ++ (stW cI cF cQ o T ++ hiW cI cF cQ ad S))) : va_D A (stW cI cF cQ (ad t) (S t) ++ stW cI cF cQ o T) :=
  xD_app (hiW_D (xD_r (xD_r hD)) ht) (xD_l (xD_r hD)) fun _ hc _ hd e => xD_ne (xD_r hD) hd (hiW_mem.mpr ⟨t, ht, hc⟩) e.symm
theorem xpu_out (ht : t < 4) (hP : va_P D cl (F ++ (stW cI cF cQ o T ++ hiW cI cF cQ ad S)) H) (hD : va_D A (F ++ (stW cI cF cQ o T ++ hiW cI cF cQ ad S)))
    (hk : ∀ q : Nat, q < H.size → ¬ va_B (stW cI cF cQ (ad t) (S t) ++ stW cI cF cQ o T) q → H1[q]? = H[q]?) (hP1 : va_P D cl (stW cI cF cQ (ad t) T ++ stW cI cF cQ o T) H1) :
    va_P D cl (F ++ (stW cI cF cQ o T ++ hiW cI cF cQ ad (xupS S t T))) H1 ∧ va_D A (F ++ (stW cI cF cQ o T ++ hiW cI cF cQ ad (xupS S t T))) := by
  refine xsem hP hD ?_ hk hP1 fun c hc => ?_
  · rw [List.map_append, List.map_append, List.map_append, List.map_append, hiW_adr]
  · have hB : ∀ q, va_B (stW cI cF cQ (ad t) (S t) ++ stW cI cF cQ o T) q → (∃ e, (q, e) ∈ stW cI cF cQ (ad t) (S t)) ∨ (∃ e, (q, e) ∈ stW cI cF cQ o T) := fun q hq => by
      obtain ⟨e, he⟩ := xB_mem hq
      rcases List.mem_append.mp he with h | h
      · exact Or.inl ⟨e, h⟩
      · exact Or.inr ⟨e, h⟩
    rcases List.mem_append.mp hc with h | h
    · refine Or.inr ⟨List.mem_append_left _ h, fun hb => ?_⟩
      rcases hB _ hb with ⟨e, he⟩ | ⟨e, he⟩
      · exact xD_ne hD h (List.mem_append_right _ (hiW_mem.mpr ⟨t, ht, he⟩)) rfl
      · exact xD_ne hD h (List.mem_append_left _ he) rfl
    · rcases List.mem_append.mp h with h | h
      · exact Or.inl (List.mem_append_right _ h)
      · obtain ⟨k, hk4, hck⟩ := hiW_mem.mp h
        by_cases e : k = t
        · subst e
          rw [xupS_at] at hck
          exact Or.inl (List.mem_append_left _ hck)
        · rw [xupS_ne _ _ e] at hck
          refine Or.inr ⟨List.mem_append_right _ (List.mem_append_right _ (hiW_mem.mpr ⟨k, hk4, hck⟩)), fun hb => ?_⟩
          rcases hB _ hb with ⟨e2, he⟩ | ⟨e2, he⟩
          · exact hiW_apart (xD_r (xD_r hD)) hk4 ht e hck he rfl
          · exact xD_ne (xD_r hD) he (hiW_mem.mpr ⟨k, hk4, hck⟩) rfl
theorem xpo_in (ht : t < 4) (hP : va_P D cl (F ++ (stW cI cF cQ o T ++ hiW cI cF cQ ad S)) H) : va_P D cl (stW cI cF cQ o T ++ stW cI cF cQ (ad t) (S t)) H := va_P.app (xP_l (xP_r hP)) (hiW_P (xP_r (xP_r hP)) ht)
theorem xpo_inD (ht : t < 4) (hD : va_D A (F ++ (stW cI cF cQ o T ++ hiW cI cF cQ ad S))) : va_D A (stW cI cF cQ o T ++ stW cI cF cQ (ad t) (S t)) :=
  xD_app (xD_l (xD_r hD)) (hiW_D (xD_r (xD_r hD)) ht) fun _ hc _ hd e => xD_ne (xD_r hD) hc (hiW_mem.mpr ⟨t, ht, hd⟩) e
theorem xpo_out (ht : t < 4) (hP : va_P D cl (F ++ (stW cI cF cQ o T ++ hiW cI cF cQ ad S)) H) (hD : va_D A (F ++ (stW cI cF cQ o T ++ hiW cI cF cQ ad S)))
    (hk : ∀ q : Nat, q < H.size → ¬ va_B (stW cI cF cQ o T ++ stW cI cF cQ (ad t) (S t)) q → H1[q]? = H[q]?) (hP1 : va_P D cl (stW cI cF cQ o (S t) ++ stW cI cF cQ (ad t) (S t)) H1) :
    va_P D cl (F ++ (stW cI cF cQ o (S t) ++ hiW cI cF cQ ad S)) H1 ∧ va_D A (F ++ (stW cI cF cQ o (S t) ++ hiW cI cF cQ ad S)) := by
  refine xsem hP hD ?_ hk hP1 fun c hc => ?_
  · rw [List.map_append, List.map_append, List.map_append, List.map_append, stW_adr _ _ _ o (S t) T]
  · have hB : ∀ q, va_B (stW cI cF cQ o T ++ stW cI cF cQ (ad t) (S t)) q → (∃ e, (q, e) ∈ stW cI cF cQ (ad t) (S t)) ∨ (∃ e, (q, e) ∈ stW cI cF cQ o T) := fun q hq => by
      obtain ⟨e, he⟩ := xB_mem hq
      rcases List.mem_append.mp he with h | h
      · exact Or.inr ⟨e, h⟩
      · exact Or.inl ⟨e, h⟩
    rcases List.mem_append.mp hc with h | h
    · refine Or.inr ⟨List.mem_append_left _ h, fun hb => ?_⟩
      rcases hB _ hb with ⟨e, he⟩ | ⟨e, he⟩
      · exact xD_ne hD h (List.mem_append_right _ (hiW_mem.mpr ⟨t, ht, he⟩)) rfl
      · exact xD_ne hD h (List.mem_append_left _ he) rfl
    · rcases List.mem_append.mp h with h | h
      · exact Or.inl (List.mem_append_left _ h)
      · obtain ⟨k, hk4, hck⟩ := hiW_mem.mp h
        by_cases e : k = t
        · subst e
          exact Or.inl (List.mem_append_right _ hck)
        · refine Or.inr ⟨List.mem_append_right _ (List.mem_append_right _ (hiW_mem.mpr ⟨k, hk4, hck⟩)), fun hb => ?_⟩
          rcases hB _ hb with ⟨e2, he⟩ | ⟨e2, he⟩
          · exact hiW_apart (xD_r (xD_r hD)) hk4 ht e hck he rfl
          · exact xD_ne (xD_r hD) he (hiW_mem.mpr ⟨k, hk4, hck⟩) rfl
end SEG
set_option maxHeartbeats 4000000 in
set_option maxRecDepth 100000 in
theorem c_copyW (l : Launch) (dC : Nat → ClassId) (dI : Nat → Nat → Nat) (cI cF cC cZ cQ cS : ClassId) (a b : Nat → Nat) (T U : Nat → Nat → Int32) : Met l yX8_copyFrom wsX8_copyFrom ({ frames := 3, cells := 0, slots := 0, locals := 83 }) (xPre (dC, dI) vwCl [.ref (a 0), .ref (b 0)] (xtys cI cF cC cZ cQ cS) (stW cI cF cQ a T ++ stW cI cF cQ b U)) (xWv (dC, dI) vwCl (stW cI cF cQ a T ++ stW cI cF cQ b U) (fun w0 => w0 = (stW cI cF cQ a U ++ stW cI cF cQ b U))) 0 0 (va_B (stW cI cF cQ a T ++ stW cI cF cQ b U)) :=
  c_X8_copyFrom l dC dI cI cF cC cZ cQ cS (T 0 0) (T 1) (T 2) (T 3) (T 4) (T 5 0) (T 6) (T 7) (T 8) (T 9) (T 10) (T 11) (T 12) (T 13) (T 14) (T 15) (T 16 0) (T 17 0) (T 18) (T 19) (T 20) (T 21) (T 22) (T 23) (T 24) (T 25) (T 26) (T 27) (T 28) (T 29) (T 30) (xfl (T 31)) (T 32 0) (T 33 0) (T 34) (T 35) (T 36) (T 37) (T 38) (xf1 (T 39 0)) (T 40 0) (U 0 0) (U 1) (U 2) (U 3) (U 4) (U 5 0) (U 6) (U 7) (U 8) (U 9) (U 10) (U 11) (U 12) (U 13) (U 14) (U 15) (U 16 0) (U 17 0) (U 18) (U 19) (U 20) (U 21) (U 22) (U 23) (U 24) (U 25) (U 26) (U 27) (U 28) (U 29) (U 30) (xfl (U 31)) (U 32 0) (U 33 0) (U 34) (U 35) (U 36) (U 37) (U 38) (xf1 (U 39 0)) (U 40 0) (a 0) (a 1) (a 6) (a 18) (a 31) (a 34) (a 39) (a 2) (a 3) (a 4) (a 5) (a 7) (a 8) (a 9) (a 10) (a 11) (a 12) (a 13) (a 14) (a 15) (a 16) (a 17) (a 19) (a 20) (a 21) (a 22) (a 23) (a 24) (a 25) (a 26) (a 27) (a 28) (a 29) (a 30) (a 32) (a 33) (a 35) (a 36) (a 37) (a 38) (b 0) (b 1) (b 6) (b 18) (b 31) (b 34) (b 39) (b 2) (b 3) (b 4) (b 5) (b 7) (b 8) (b 9) (b 10) (b 11) (b 12) (b 13) (b 14) (b 15) (b 16) (b 17) (b 19) (b 20) (b 21) (b 22) (b 23) (b 24) (b 25) (b 26) (b 27) (b 28) (b 29) (b 30) (b 32) (b 33) (b 35) (b 36) (b 37) (b 38)
