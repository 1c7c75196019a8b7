/-! Constructors: what a method that makes cells leaves, and the rows of making. (The row of multianewarray stands on the library's word.) -/
def xAA (U : State) : Prop := (Cond.arrayOver (.array .int)).before #[] U = true
theorem xAA.use {A : Array Value} {U : State} (h : xAA U) : (Cond.arrayOver (.array .int)).before A U = true := h
theorem xAA.of {A : Array Value} {U : State} (h : (Cond.arrayOver (.array .int)).before A U = true) : xAA U := h
theorem xAA.moved {u U : State} (hvm : u.vm.Alike U.vm) (h : xAA u) : xAA U := by
  obtain ⟨comp, c, k, h1, h2, h3, h4, h5⟩ : ∃ comp c k, u.vm.findClass (FieldType.array .int).toString = some comp ∧ (u.vm.classes.findIdx? fun x => match x.kind with | .array component _ => component == comp | _ => false) = some c ∧ u.vm.classes[c]? = some k ∧ k.kind = .array comp (.array .int) ∧ u.vm.findClass ("[" ++ (FieldType.array .int).toString) = some c := by
    unfold xAA Cond.before at h
    simp only [Cond.holds, Cond.value, beq_iff_eq] at h
    cases hc : u.vm.findClass (FieldType.array .int).toString with
    | none => simp [hc] at h
    | some comp =>
      simp only [hc, Option.bind_some, Option.bind_eq_some_iff, Option.map_eq_some_iff] at h
      obtain ⟨c, hi, k, hk, hb⟩ := h
      obtain ⟨hlt, hp, -⟩ := Array.findIdx?_eq_some_iff_getElem.mp hi
      have hkk : u.vm.classes[c] = k := (Array.getElem?_eq_some_iff.mp hk).2
      rw [hkk] at hp
      cases hkind : k.kind with
      | array component ty =>
        rw [hkind] at hb hp
        simp at hb hp
        exact ⟨comp, c, k, rfl, hi, hk, by rw [hkind, hp, hb.1], hb.2⟩
      | _ => rw [hkind] at hb; simp at hb
  obtain ⟨k', hk', he⟩ := hvm.2.2 _ _ h3
  have hi : (U.vm.classes.findIdx? fun (x : Class) => match x.kind with | .array component _ => component == comp | _ => false) = some c := by
    have e1 := va_idx_bare U.vm comp
    have e2 := va_idx_bare u.vm comp
    have e3 : U.vm.bare = u.vm.bare := by first | exact hvm.bare_eq | exact hvm.bare_eq.symm
    rw [e3] at e1
    exact e1.symm.trans (e2.trans h2)
  have hkind : k'.kind = .array comp (.array .int) := by rw [he]; exact h4
  have f1 : U.vm.findClass (FieldType.array .int).toString = some comp := by rw [hvm.findClass]; exact h1
  have f2 : U.vm.findClass ("[" ++ (FieldType.array .int).toString) = some c := by rw [hvm.findClass]; exact h5
  unfold xAA Cond.before Cond.holds
  simp only [Cond.value]
  rw [f1, Option.bind_some]
  refine (congrArg (fun o : Option Nat => (o.bind (fun c => (U.vm.classes[c]?).map fun (k : Class) => match k.kind with | .array _ ty => decide (ty = FieldType.array .int) && decide (U.vm.findClass ("[" ++ (FieldType.array .int).toString) = some c) | _ => false) == some true)) hi).trans ?_
  simp [hk', hkind, f2]
/-- what the tables say of the arrays of arrays -/
def xAR (U : State) : Prop := xAA U ∧ va_AO "ShelfStages$State" U
theorem xAR.moved {u U : State} (hvm : u.vm.Alike U.vm) (h : xAR u) : xAR U := ⟨h.1.moved hvm, h.2.moved hvm⟩
/-- a constructor's start and end -/
def xCre (D : va_G) (cl : List vw_C) (as : List Value) (tys : List (ClassId × FieldType)) (wc : va_W) : Array Value → State → Prop := va_Pc as (fun U => va_P D cl wc U.heap ∧ va_K D cl tys U ∧ va_D (fun _ => True) wc ∧ xN U ∧ xAR U)
theorem xCre_blind {D : va_G} {cl : List vw_C} {as : List Value} {tys : List (ClassId × FieldType)} {wc : va_W} : FrameBlind (xCre D cl as tys wc) := by
  intro a U g mk h
  exact ⟨h.1, h.2.1, va_K.moved (u := U) (U := U.calling g mk a) (Vm.Alike.refl U.vm) h.2.2.1, h.2.2.2.1, xN.same (u := U) (U := U.calling g mk a) rfl h.2.2.2.2.1, xAR.moved (u := U) (U := U.calling g mk a) (Vm.Alike.refl U.vm) h.2.2.2.2.2⟩
def xCq (D : va_G) (cl : List vw_C) (wc : va_W) (post : va_W → Prop) : Array Value → State → Outcome → State → Prop := fun _ st oc t => (∃ w1 : va_W, oc = .returned none ∧ post w1 ∧ va_P D cl w1 t.heap ∧ va_D (va_A wc st.heap.size) w1) ∧ xFr wc st t
theorem xRA_inj {s : State} {c c' : ClassId} {ty : FieldType} (h1 : va_RA s c ty) (h2 : va_RA s c' ty) : c = c' := by
  cases ty with
  | object C =>
    obtain ⟨_, _, _, _, _, e1⟩ := h1
    obtain ⟨_, _, _, _, _, e2⟩ := h2
    exact Option.some.inj (e1.symm.trans e2)
  | _ => exact Option.some.inj (h1.symm.trans h2)
theorem xouter (c : ClassId) (N h0 : Nat) : ∀ i : Nat, Jvm.Free.Multi.outerC c N h0 i = arrV c N (fun j => va_rf (if j < i then some (h0 + 1 + j) else none))
  | 0 => by
    show ({ cls := c, slots := Array.replicate N .null, vm := .none } : Cell) = _
    rw [arrV_new]
    refine congrArg (arrV c N) (funext fun j => ?_)
    simp [va_rf]
  | i + 1 => by
    show (Jvm.Free.Multi.outerC c N h0 i).setSlot i (.ref (h0 + 1 + i)) = _
    rw [xouter c N h0 i, arrV_store]
    refine congrArg (arrV c N) (funext fun j => ?_)
    by_cases e : j = i
    · subst e
      simp [updV, va_rf]
    · by_cases h : j < i
      · simp [updV, e, h, Nat.lt_succ_of_lt h]
      · simp [updV, e, h, show ¬ j < i + 1 by omega]
theorem xarrV_congr {c : ClassId} {N : Nat} {f g : Nat → Value} (h : ∀ j, j < N → f j = g j) : arrV c N f = arrV c N g := by
  unfold arrV
  congr 1
  apply Array.ext
  · simp
  · intro j h1 h2
    simp only [Array.getElem_ofFn]
    rw [h j (by simpa using h1)]
section XC
variable {p : Program} {l : Launch} {e : Env} {R : Room} {s : State} {m : MethodId} {args : Array Value} {below : List Frame} {meth : Method} {c : Code} {H : Heap} {locs : List Loc} {cells slots : Nat} {Q : State → Prop}
variable {cc : ByteArray} {pc : Nat} {ls : Array Slot} {rest : List Value} {D : va_G} {cl : List vw_C} {A : Nat → Prop} {a : Nat} {tys : List (ClassId × FieldType)} {ws : va_W} {H0 : Heap}
/-- the places of made cells are forgotten -/
theorem xr_old {wc : va_W} {g : JFrame} (hS : va_S (va_A wc s.heap.size) s.heap H locs) (kk : ∀ locs1 : List Loc, (∀ q ∈ locs1, va_B wc q.base) → W p l e R s m args below meth c H locs1 cells slots Q g) : W p l e R s m args below meth c H locs cells slots Q g := by
  intro T hT X
  refine kk (locs.filter (fun y => decide (y.base < s.heap.size))) (fun q hq => ?_) T hT { X with same := X.same.weaken (fun y hy hlt => List.mem_filter.mpr ⟨hy, decide_eq_true hlt⟩) (Nat.le_refl _) (Nat.le_refl _) }
  obtain ⟨h1, h2⟩ := List.mem_filter.mp hq
  have h3 : q.base < s.heap.size := of_decide_eq_true h2
  rcases hS.2.2 q h1 with h | h
  · exact h
  · exact absurd h (Nat.not_le.mpr h3)
theorem xS_fr {wc : va_W} {t : State} (h : va_S (va_A wc s.heap.size) s.heap H locs) (ht : t.heap = H) : xFr wc s t := by
  refine ⟨by rw [ht]; exact h.1, fun q h1 h2 => ?_⟩
  rw [ht]
  refine h.2.1 q h1 (fun h3 => ?_)
  rcases h3 with h4 | h4
  · exact h2 h4
  · omega
theorem xr_newa (hexec : p.tables.exec = Jvm.exec) (hb : c.code = cc) {atype : ArrayType} (harr : (Cond.arrayClass (newarray.typeOf atype)).before args s = true) {ty : FieldType} (hty : newarray.typeOf atype = ty) (hK : va_K D cl tys s) (hP : va_P D cl ws H) (hD : va_D A ws) (hS : va_S A H0 H locs) (hA : ∀ q, H0.size ≤ q → A q)
    (t0 : Nat) {cA : ClassId} (ht : tys[t0]? = some (cA, ty)) {n : Int32} {N' : Nat} {a0 : vp_A} (ha : ∀ cA : ClassId, vp_cell cA a0 = arrV cA N' (fun _ => defaultValue ty)) (hn : ¬ n < 0) (hN : n.toNatClampNeg = N') (hbytes : N' * componentBytes ty ≤ 536870912) (hcells : cells + 1 ≤ R.cells) (hslots : slots + N' ≤ R.slots) (hdg : decode cc pc = .ok (.newarray atype, 2))
    (kk : ∀ (q : Nat) (H1 : Heap), va_P D cl (ws ++ [(q, .inl (cA, a0))]) H1 → va_D A (ws ++ [(q, .inl (cA, a0))]) → va_S A H0 H1 locs →
      W p l e R s m args below meth c H1 locs (cells + 1) (slots + N') Q (F0 m (pc + 2) ls (.ref q :: rest))) : W p l e R s m args below meth c H locs cells slots Q (F0 m pc ls (.int n :: rest)) := by
  refine va_newa hexec hb harr hty hK hP hD hS hA ha hn hN hbytes hcells hslots hdg fun q cB H1 hK1 hP1 hD1 hS1 => ?_
  have e1 := (hK1.2 tys.length (cB, ty) (by rw [List.getElem?_append_right (Nat.le_refl _), Nat.sub_self]; rfl)).2
  have e2 := (hK.2 t0 _ ht).2
  have e3 : cB = cA := xRA_inj e1 e2
  subst e3
  exact kk q H1 hP1 hD1 hS1
theorem xr_newq (hexec : p.tables.exec = Jvm.exec) (hb : c.code = cc) {own C : String} {index : Nat} (hown : s.vm.findClass own = some m.cls) (hclink : (Cond.classLink own index C).before args s = true) (hover : va_AO C s) (hK : va_K D cl tys s) (hP : va_P D cl ws H) (hD : va_D A ws) (hS : va_S A H0 H locs) (hA : ∀ q, H0.size ≤ q → A q)
    (t0 : Nat) {cA : ClassId} (ht : tys[t0]? = some (cA, .object C)) {n : Int32} {N' : Nat} (hn : ¬ n < 0) (hN : n.toNatClampNeg = N') (hbytes : N' * 4 ≤ 536870912) (hcells : cells + 1 ≤ R.cells) (hslots : slots + N' ≤ R.slots) (hdg : decode cc pc = .ok (.anewarray index, 3))
    (kk : ∀ (q : Nat) (H1 : Heap), va_P D cl (ws ++ [(q, .inl (cA, N', .inr (.inr (.inr (.inr (fun _ => none))))))]) H1 → va_D A (ws ++ [(q, .inl (cA, N', .inr (.inr (.inr (.inr (fun _ => none))))))]) → va_S A H0 H1 locs →
      W p l e R s m args below meth c H1 locs (cells + 1) (slots + N') Q (F0 m (pc + 3) ls (.ref q :: rest))) : W p l e R s m args below meth c H locs cells slots Q (F0 m pc ls (.int n :: rest)) := by
  refine va_newq hexec hb hown hclink hover hK hP hD hS hA hn hN hbytes hcells hslots hdg fun q cB H1 hK1 hP1 hD1 hS1 => ?_
  have e1 := (hK1.2 tys.length (cB, .object C) (by rw [List.getElem?_append_right (Nat.le_refl _), Nat.sub_self]; rfl)).2
  have e2 := (hK.2 t0 _ ht).2
  have e3 : cB = cA := xRA_inj e1 e2
  subst e3
  exact kk q H1 hP1 hD1 hS1
/-- cells made one behind another -/
def xmade (b : Nat) (f : Nat → va_E) (k : Nat) : va_W := (List.range k).map (fun j => (b + j, f j))
theorem xmade_get {b k i : Nat} {f : Nat → va_E} {x : Nat × va_E} (h : (xmade b f k)[i]? = some x) : i < k ∧ x = (b + i, f i) := by
  unfold xmade at h
  rw [List.getElem?_map] at h
  by_cases hi : i < k
  · rw [List.getElem?_range hi] at h
    exact ⟨hi, (Option.some.inj h).symm⟩
  · rw [List.getElem?_eq_none (by rw [List.length_range]; omega)] at h
    cases h
theorem xmade_P {H1 : Heap} {f : Nat → va_E} {k : Nat} (hP : va_P D cl ws H) (hold : ∀ q : Nat, q < H.size → H1[q]? = H[q]?) (hf : ∀ j, j < k → va_at D cl (H.size + j, f j) H1) : va_P D cl (ws ++ xmade H.size f k) H1 := by
  refine va_P.app (hP.kept fun j x hx => hold x.1 ((hP j x hx).lt)) (fun i x hx => ?_)
  obtain ⟨hi, rfl⟩ := xmade_get hx
  exact hf i hi
theorem xmade_D {f : Nat → va_E} {k : Nat} (hP : va_P D cl ws H) (hD : va_D A ws) (hA : ∀ q, H.size ≤ q → A q) : va_D A (ws ++ xmade H.size f k) := by
  refine va_D.app hD ⟨fun i j x y hx hy hxy => ?_, fun i x hx => ?_⟩ (fun i j x y hx hy hxy => ?_)
  · obtain ⟨_, rfl⟩ := xmade_get hx
    obtain ⟨_, rfl⟩ := xmade_get hy
    have : H.size + i = H.size + j := hxy
    omega
  · obtain ⟨_, rfl⟩ := xmade_get hx
    exact hA _ (Nat.le_add_right _ _)
  · obtain ⟨_, rfl⟩ := xmade_get hy
    have h1 := (hP i x hx).lt
    have h2 : x.1 = H.size + j := hxy
    omega
/-- new int[3][k] -/
theorem xr_mna (hexec : p.tables.exec = Jvm.exec) (hb : c.code = cc) {own : String} {index : Nat} (hown : s.vm.findClass own = some m.cls) (hclink : (Cond.classLink own index "[[I").before args s = true) (hover : xAA s) (harr : (Cond.arrayClass .int).before args s = true) (hK : va_K D cl tys s) (hP : va_P D cl ws H) (hD : va_D A ws) (hS : va_S A H0 H locs) (hA : ∀ q, H0.size ≤ q → A q)
    (t0 t1 : Nat) {cI cQ : ClassId} (ht0 : tys[t0]? = some (cQ, .array .int)) (ht1 : tys[t1]? = some (cI, .int)) {k : Int32} {K : Nat} (hk : ¬ k < 0) (hN : k.toNatClampNeg = K) (hb2 : K * 4 ≤ 536870912) (hcells : cells + 4 ≤ R.cells) (hslots : slots + (3 + 3 * K) ≤ R.slots) (hdg : decode cc pc = .ok (.multianewarray index 2, 4))
    (kk : ∀ (q q0 q1 q2 : Nat) (H1 : Heap), va_P D cl (ws ++ [(q, .inl (cQ, 3, .inr (.inr (.inr (.inr (xrow [q0, q1, q2])))))), (q0, .inl (cI, K, .inl (fun _ => 0))), (q1, .inl (cI, K, .inl (fun _ => 0))), (q2, .inl (cI, K, .inl (fun _ => 0)))]) H1 →
      va_D A (ws ++ [(q, .inl (cQ, 3, .inr (.inr (.inr (.inr (xrow [q0, q1, q2])))))), (q0, .inl (cI, K, .inl (fun _ => 0))), (q1, .inl (cI, K, .inl (fun _ => 0))), (q2, .inl (cI, K, .inl (fun _ => 0)))]) → va_S A H0 H1 locs →
      W p l e R s m args below meth c H1 locs (cells + 4) (slots + (3 + 3 * K)) Q (F0 m (pc + 4) ls (.ref q :: rest))) : W p l e R s m args below meth c H locs cells slots Q (F0 m pc ls (.int k :: .int (nI 3) :: rest)) := by
  subst hN
  intro T hT X
  have h3 : (nI 3).toNatClampNeg = 3 := by decide +kernel
  obtain ⟨vm₁, cA, comp, -, fA, fC, hO, -, X', step⟩ := X.multianewarray2F (ty := .int) (n := nI 3) (k := k) (rest := rest) hexec hown hclink hover.use harr (g := F0 m pc ls (.int k :: .int (nI 3) :: rest)) rfl (by rw [hb]; exact hdg) rfl (by decide +kernel) hk (by rw [h3]; decide) hb2 (by omega) rfl rfl (by rw [h3]; omega) (by rw [h3]; omega)
  have ec : comp = cI := Option.some.inj (fC.symm.trans (hK.2 t1 _ ht1).2)
  have eA : cA = cQ := Option.some.inj (fA.symm.trans (hK.2 t0 _ ht0).2)
  subst ec; subst eA
  rw [h3] at X' step
  rw [Nat.add_assoc slots 3 (3 * k.toNatClampNeg)] at X'
  generalize hF : Jvm.Free.Multi.fill (T.setVm vm₁) cA comp 3 k.toNatClampNeg (defaultValue .int) 3 = F at X' step
  have hTh : (T.setVm vm₁).heap = H := hT
  obtain ⟨f1, f2, -, -⟩ := Jvm.Free.Multi.fill_facts (T.setVm vm₁) cA comp 3 k.toNatClampNeg (defaultValue .int) 3
  rw [hF, hTh] at f1 f2
  have hold : ∀ x : Nat, x < H.size → F.heap[x]? = H[x]? := fun x hx => by
    have := Jvm.Free.Multi.fill_old (T.setVm vm₁) cA comp 3 k.toNatClampNeg (defaultValue .int) (a := x) (by rw [hTh]; exact hx) 3
    rw [hF, hTh] at this
    exact this
  have hrow : ∀ j : Nat, j < 3 → F.heap[H.size + 1 + j]? = some (vp_cell comp (k.toNatClampNeg, .inl (fun _ => 0))) := fun j hj => by
    have := Jvm.Free.Multi.fill_inner (T.setVm vm₁) cA comp 3 k.toNatClampNeg (defaultValue .int) 3 j hj
    rw [hF, hTh] at this
    rw [this, vp_cell_i, ← arrV_new]
    rfl
  have hout : Jvm.Free.Multi.outerC cA 3 H.size 3 = vp_cell cA (3, .inr (.inr (.inr (.inr (xrow [H.size + 1, H.size + 2, H.size + 3]))))) := by
    rw [vp_cell_q, xouter]
    refine xarrV_congr fun j hj => ?_
    rw [if_pos hj]
    have : j = 0 ∨ j = 1 ∨ j = 2 := by omega
    rcases this with rfl | rfl | rfl <;> rfl
  rw [hout] at f2
  let f : Nat → va_E := fun j => match j with
    | 0 => .inl (cA, 3, .inr (.inr (.inr (.inr (xrow [H.size + 1, H.size + 2, H.size + 3])))))
    | _ => .inl (comp, k.toNatClampNeg, .inl (fun _ => 0))
  have hP1 := xmade_P (k := 4) (f := f) hP hold (fun j hj => by
    have : j = 0 ∨ j = 1 ∨ j = 2 ∨ j = 3 := by omega
    rcases this with rfl | rfl | rfl | rfl
    · exact f2
    · exact hrow 0 (by decide)
    · exact hrow 1 (by decide)
    · exact hrow 2 (by decide))
  have hD1 := xmade_D (k := 4) (f := f) hP hD (fun q hq => hA q (Nat.le_trans hS.1 hq))
  obtain ⟨t, a1, b1⟩ := kk H.size (H.size + 1) (H.size + 2) (H.size + 3) F.heap hP1 hD1 ⟨by rw [f1]; have := hS.1; omega, fun x h1 h2 => (hold x (Nat.lt_of_lt_of_le h1 hS.1)).trans (hS.2.1 x h1 h2), hS.2.2⟩ F rfl X'
  refine ⟨t, step t ?_, b1⟩
  have e : T.heap.size = H.size := by rw [hT]
  rw [e]
  exact a1
/-- a constructor's call: the object stands last -/
theorem xkC {mc ms : Nat} {st0 : List Value} {av : Array Value} {wr wc : va_W} {x : Nat × va_E} {post : va_W → Prop} (hr : va_Run p l e R s m args below meth c H locs cells slots mc ms (F0 m pc ls st0) rest (xCq D cl wc post av) (va_B wc)) (hw : wc = [x]) (hP : va_P D cl (wr ++ wc) H) (hD : va_D A (wr ++ wc)) (hS : va_S A H0 H locs) (hA : ∀ q, H0.size ≤ q → A q)
    (kk : ∀ (w1 : va_W) (H1 : Heap) (locs1 : List Loc), post w1 → va_P D cl (wr ++ w1) H1 → va_D A (wr ++ w1) → va_S A H0 H1 locs1 → W p l e R s m args below meth c H1 locs1 (cells + mc) (slots + ms) Q (F0 m (pc + 3) ls rest)) : W p l e R s m args below meth c H locs cells slots Q (F0 m pc ls st0) := by
  subst hw
  have hx : (wr ++ [x])[wr.length]? = some x := by rw [List.getElem?_append_right (Nat.le_refl _), Nat.sub_self]; rfl
  have hB : ∀ q, va_B [x] q → q = x.1 := by
    rintro q ⟨k, e, hk⟩
    have h0 : k < 1 := (List.getElem?_eq_some_iff.mp hk).1
    rw [show k = 0 by omega] at hk
    cases hk
    rfl
  have hBA : ∀ q, va_B [x] q → A q := fun q h => by rw [hB q h]; exact hD.2 _ x hx
  intro T hT X
  obtain ⟨v, st₀, t, T', L, h0, X', hL, e1, e2, ⟨⟨w, hv, hp, hP1, hD1⟩, hz, hk⟩, st⟩ := hr T hT X
  cases hv
  rw [h0] at hz hk hD1
  rw [← e1] at hz hk hP1
  have hwr : ∀ (i : Nat) (y : Nat × va_E), wr[i]? = some y → y.1 < H.size ∧ y.1 ≠ x.1 := fun i y hy => by
    have hy' : (wr ++ [x])[i]? = some y := by rw [List.getElem?_append_left (List.getElem?_eq_some_iff.mp hy).1]; exact hy
    refine ⟨(hP i y hy').lt, fun h => ?_⟩
    have := hD.1 i wr.length y x hy' hx h
    have := (List.getElem?_eq_some_iff.mp hy).1
    omega
  have hA1 : ∀ q, va_A [x] H.size q → q = x.1 ∨ H.size ≤ q := fun q h => h.elim (fun h => Or.inl (hB q h)) Or.inr
  have hP2 : va_P D cl (wr ++ w) T'.heap := by
    refine va_P.app (fun i y hy => ?_) hP1
    have hy' : (wr ++ [x])[i]? = some y := by rw [List.getElem?_append_left (List.getElem?_eq_some_iff.mp hy).1]; exact hy
    obtain ⟨g1, g2⟩ := hwr i y hy
    exact (hP i y hy').kept (hk y.1 g1 (fun h => g2 (hB _ h)))
  have hD2 : va_D A (wr ++ w) := by
    refine va_D.app ⟨fun i j y z hy hz hyz => ?_, fun i y hy => ?_⟩ (hD1.weaken (fun i y _ h => (hA1 _ h).elim (fun h => by rw [h]; exact hD.2 _ x hx) (fun h => hA _ (Nat.le_trans hS.1 h)))) (fun i j y z hy hz hyz => ?_)
    · refine hD.1 i j y z ?_ ?_ hyz
      · rw [List.getElem?_append_left (List.getElem?_eq_some_iff.mp hy).1]; exact hy
      · rw [List.getElem?_append_left (List.getElem?_eq_some_iff.mp hz).1]; exact hz
    · exact hD.2 i y (by rw [List.getElem?_append_left (List.getElem?_eq_some_iff.mp hy).1]; exact hy)
    · obtain ⟨g1, g2⟩ := hwr i y hy
      have h3 := hD1.2 j z hz
      rw [← hyz] at h3
      rcases hA1 _ h3 with h | h
      · exact g2 h
      · omega
  obtain ⟨t2, a1, b1⟩ := kk w T'.heap (locs ++ L) hp hP2 hD2
    ⟨Nat.le_trans hS.1 hz, fun q h1 h2 => by rw [hk q (Nat.lt_of_lt_of_le h1 hS.1) (fun z => h2 (hBA q z))]; exact hS.2.1 q h1 h2, fun q hq => by
      rcases List.mem_append.mp hq with h | h
      · exact hS.2.2 q h
      · exact hBA _ (hL q h)⟩ T' rfl X'
  exact ⟨t2, st t2 a1, b1⟩
end XC
theorem xdf_int (N : Nat) : ∀ cA : ClassId, vp_cell cA (N, .inl (fun _ => nI 0)) = arrV cA N (fun _ => defaultValue .int) := fun _ => rfl
theorem xdf_char (N : Nat) : ∀ cA : ClassId, vp_cell cA (N, .inl (fun _ => nI 0)) = arrV cA N (fun _ => defaultValue .char) := fun _ => rfl
theorem xdf_boolean (N : Nat) : ∀ cA : ClassId, vp_cell cA (N, .inl (fun _ => nI 0)) = arrV cA N (fun _ => defaultValue .boolean) := fun _ => rfl
theorem xdf_float (N : Nat) : ∀ cA : ClassId, vp_cell cA (N, .inr (.inr (.inl (fun _ => 0)))) = arrV cA N (fun _ => defaultValue .float) := fun _ => rfl
section XC2
variable {p : Program} {l : Launch} {e : Env} {R : Room} {s : State} {m : MethodId} {args : Array Value} {below : List Frame} {meth : Method} {c : Code} {H : Heap} {locs : List Loc} {cells slots : Nat} {Q : State → Prop}
variable {cc : ByteArray} {pc : Nat} {ls : Array Slot} {rest : List Value} {D : va_G} {cl : List vw_C} {A : Nat → Prop} {a : Nat} {tys : List (ClassId × FieldType)} {ws : va_W} {H0 : Heap}
theorem xr_astq (hexec : p.tables.exec = Jvm.exec) (hb : c.code = cc) (hK : va_K D cl tys s) (hP : va_P D cl ws H) (hD : va_D A ws) (hS : va_S A H0 H locs) (q0 t0 qk ci : Nat) {cA : ClassId} {r : vw_C} {n v : Nat} {vs : List Value} {f : Nat → Option Nat} (ha : ws[q0]? = some (a, .inl (cA, n, .inr (.inr (.inr (.inr f)))))) (ht : tys[t0]? = some (cA, .object r.1)) (hv : ws[qk]? = some (v, .inr (ci, vs))) (hc : cl[ci]? = some r) {i : Nat} (hin : i < n) (hn : n < 2 ^ 31) (hdg : decode cc pc = .ok (.aastore, 1))
    (kk : ∀ (H1 : Heap) (locs1 : List Loc), va_P D cl (ws.set q0 (a, .inl (cA, n, .inr (.inr (.inr (.inr (va_up f i (some v)))))))) H1 → va_D A (ws.set q0 (a, .inl (cA, n, .inr (.inr (.inr (.inr (va_up f i (some v)))))))) → va_S A H0 H1 locs1 → W p l e R s m args below meth c H1 locs1 cells slots Q (F0 m (pc + 1) ls rest)) : W p l e R s m args below meth c H locs cells slots Q (F0 m pc ls (.ref v :: .int (nI i) :: .ref a :: rest)) :=
  va_astq hexec hb hK hP hD hS q0 t0 qk ci ha ht hv hc (vp_in_nI hin hn) hdg (by rw [nI_clamp (by omega)]; exact kk)
end XC2
/-- what a state holds at the start -/
def xT0 : Nat → Nat → Int32 := fun k => cond (Nat.beq k 30) (upd (upd (upd (upd (fun _ => nI 0) 0 (nI 100)) 1 (nI 50)) 2 (nI 25)) 3 (nI 10)) (cond (Nat.beq k 31) (upd (upd (upd (fun _ => nI 0) 1 (nI 1101004800)) 2 (nI 1109393408)) 3 (nI 1116471296)) (cond (Nat.beq k 38) (upd (upd (upd (fun _ => nI 0) 0 (nI 0)) 1 (nI 4)) 2 (nI 50)) (fun _ => nI 0)))
theorem xfl0 : ∀ k, k < 4 → vf_upd (vf_upd (vf_upd (vf_upd (fun _ => 0) 0 (FP.fconst0)) 1 (1101004800)) 2 (1109393408)) 3 (1116471296) k = xfl (xT0 31) k := by
  intro k hk
  have : k = 0 ∨ k = 1 ∨ k = 2 ∨ k = 3 := by omega
  rcases this with rfl | rfl | rfl | rfl <;> decide +kernel
theorem xP_arrq {D : va_G} {cl : List vw_C} {W : va_W} {H : Heap} (hP : va_P D cl W H) (q : Nat) {a : Nat} {c : ClassId} {n : Nat} {g f : Nat → Option Nat} (hq : W[q]? = some (a, .inl (c, n, .inr (.inr (.inr (.inr g)))))) (h : ∀ k, k < n → g k = f k) : va_P D cl (W.set q (a, .inl (c, n, .inr (.inr (.inr (.inr f)))))) H := by
  intro k x hk
  by_cases e : k = q
  · subst e
    rw [List.getElem?_set_self', hq] at hk
    have hx : x = (a, .inl (c, n, .inr (.inr (.inr (.inr f))))) := by simpa using hk.symm
    subst hx
    have h0 : H[a]? = some (vp_cell c (n, .inr (.inr (.inr (.inr g))))) := hP k _ hq
    show H[a]? = some (vp_cell c (n, .inr (.inr (.inr (.inr f)))))
    rw [h0, vp_cell_q, vp_cell_q]
    exact congrArg some (xarrV_congr fun j hj => by rw [h j hj])
  · rw [List.getElem?_set_ne (Ne.symm e)] at hk
    exact hP k x hk
section XC3
variable {p : Program} {l : Launch} {e : Env} {R : Room} {s : State} {m : MethodId} {args : Array Value} {below : List Frame} {meth : Method} {c : Code} {H : Heap} {locs : List Loc} {cells slots : Nat} {Q : State → Prop} {pc : Nat} {ls : Array Slot} {rest st0 : List Value} {cc : ByteArray} {D : va_G} {cl : List vw_C} {A : Nat → Prop} {tys : List (ClassId × FieldType)}
theorem xIw {wr wc : va_W} {x : Nat × va_E} (hw : wc = [x]) (hP : va_P D cl (wr ++ wc) H) : va_P D cl wc H ∧ va_D (fun _ => True) wc := by
  subst hw
  refine ⟨xP_r hP, fun i j y z hy hz _ => ?_, fun _ _ _ => trivial⟩
  have h1 : i < 1 := (List.getElem?_eq_some_iff.mp hy).1
  have h2 : j < 1 := (List.getElem?_eq_some_iff.mp hz).1
  omega
theorem xIN {y : MethodName} {bytes : ByteArray} {maxL nL index mc ms : Nat} {Ws Ws' : List Cond} {rm : Room} {Qc : Array Value → State → Outcome → State → Prop} {free : Addr → Prop} {Ts : List Cond} {own host : String} {b : Addr} {wc wr : va_W} {x : Nat × va_E}
    (hx : p.tables.exec = Jvm.exec) (hb : c.code = cc) (hml : c.maxLocals = nL) (hown : s.vm.findClass own = some m.cls) (hts : ∀ w ∈ Ts, w.before args s = true) (hM : Met l y Ws rm (xCre D cl [.ref b] tys wc) Qc mc ms free) (hG : GoodIn Ts Ws) (hw : Ws = Cond.code y bytes maxL none :: Ws') (hc0 : rm.cells = mc) (hs0 : rm.slots = ms) (hl : va_Nw (.methodLinkNest own index y host) s) (hini : (Cond.initialized y.cls).before args s = true) (hin : (Cond.instanceMethod y).before args s = true) (hy : y.name = "<init>")
    (hd : y.cls ≠ "java/lang/invoke/MethodHandle" ∧ y.cls ≠ "java/lang/invoke/VarHandle" ∧ (parseMethodDescriptor y.desc).map (fun d => d.parameters.length) = some 0) (hR : rm.frames + 1 ≤ R.frames ∧ 8 + (maxL + 11) + rm.locals ≤ R.locals)
    (hN : xN s) (hAR : xAR s) (hK : va_K D cl tys s) (hP : va_P D cl (wr ++ wc) H) (_ : va_D A (wr ++ wc)) (hwc : wc = [x]) (hsize : ls.size = nL) (hst : st0 = .ref b :: rest) (hW8 : (rest.map fun v => v.category).sum ≤ 8) (hdg : decode cc pc = .ok (.invokespecial index, 3)) (hf : cells + mc ≤ R.cells ∧ slots + ms ≤ R.slots) :
    va_Run p l e R s m args below meth c H locs cells slots mc ms (F0 m pc ls st0) rest (Qc [Value.ref b].toArray) free := by
  obtain ⟨hPc, hDc⟩ := xIw hwc hP
  exact va_runIN (As := []) (rest := rest) ⟨hx, hb, hml, hown, hts⟩ hM ⟨va_cnB 0 hts hG hw hc0 hs0 hl hini hd hR, hy, hin⟩ ⟨xCre_blind, fun U hU hW => ⟨rfl, by rw [hU]; exact hPc, va_K.moved hW.alike hK, hDc, hN.warm hW, xAR.moved hW.alike hAR⟩⟩ rfl rfl hsize hst (lv_room hW8) hdg hf
theorem xIS {y : MethodName} {bytes : ByteArray} {maxL nL index mc ms : Nat} {Ws Ws' : List Cond} {rm : Room} {Qc : Array Value → State → Outcome → State → Prop} {free : Addr → Prop} {Ts : List Cond} {own : String} {b : Addr} {wc wr : va_W} {x : Nat × va_E}
    (hx : p.tables.exec = Jvm.exec) (hb : c.code = cc) (hml : c.maxLocals = nL) (hown : s.vm.findClass own = some m.cls) (hts : ∀ w ∈ Ts, w.before args s = true) (hM : Met l y Ws rm (xCre D cl [.ref b] tys wc) Qc mc ms free) (hG : GoodIn Ts Ws) (hw : Ws = Cond.code y bytes maxL none :: Ws') (hc0 : rm.cells = mc) (hs0 : rm.slots = ms) (hl : (Cond.methodLink own index y).before args s = true) (hini : (Cond.initialized y.cls).before args s = true) (hin : (Cond.instanceMethod y).before args s = true) (hy : y.name = "<init>")
    (hd : y.cls ≠ "java/lang/invoke/MethodHandle" ∧ y.cls ≠ "java/lang/invoke/VarHandle" ∧ (parseMethodDescriptor y.desc).map (fun d => d.parameters.length) = some 0) (hR : rm.frames + 1 ≤ R.frames ∧ 8 + (maxL + 11) + rm.locals ≤ R.locals)
    (hN : xN s) (hAR : xAR s) (hK : va_K D cl tys s) (hP : va_P D cl (wr ++ wc) H) (_ : va_D A (wr ++ wc)) (hwc : wc = [x]) (hsize : ls.size = nL) (hst : st0 = .ref b :: rest) (hW8 : (rest.map fun v => v.category).sum ≤ 8) (hdg : decode cc pc = .ok (.invokespecial index, 3)) (hf : cells + mc ≤ R.cells ∧ slots + ms ≤ R.slots) :
    va_Run p l e R s m args below meth c H locs cells slots mc ms (F0 m pc ls st0) rest (Qc [Value.ref b].toArray) free := by
  obtain ⟨hPc, hDc⟩ := xIw hwc hP
  exact va_runI (As := []) (rest := rest) ⟨hx, hb, hml, hown, hts⟩ hM (cwI 0 hts hG hw hc0 hs0 hini hl hin hy hd hR) ⟨xCre_blind, fun U hU hW => ⟨rfl, by rw [hU]; exact hPc, va_K.moved hW.alike hK, hDc, hN.warm hW, xAR.moved hW.alike hAR⟩⟩ rfl rfl hsize hst (lv_room hW8) hdg hf
end XC3
