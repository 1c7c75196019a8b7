/-! Rows of our own over the kit's: numbers by their names (nI), worlds that keep their places, calls of non-making methods, cut points and loops. -/
theorem nI_mul (a b : Nat) : nI a * nI b = nI (a * b) := (Int32.ofNat_mul a b).symm
theorem nI_sub {a b : Nat} (h : b ≤ a) : nI a - nI b = nI (a - b) := by
  obtain ⟨d, rfl⟩ := Nat.exists_eq_add_of_le h
  rw [← nI_add, Nat.add_sub_cancel_left, Int32.add_comm, Int32.add_sub_cancel]
theorem nI_inj {a b : Nat} (ha : a < 2 ^ 31) (hb : b < 2 ^ 31) (h : nI a = nI b) : a = b := by
  have := congrArg Int32.toInt h
  rw [nI_toInt ha, nI_toInt hb] at this
  omega
theorem nI_lt_iff {a b : Nat} (ha : a < 2 ^ 31) (hb : b < 2 ^ 31) : nI a < nI b ↔ a < b := by
  rw [Int32.lt_iff_toInt_lt, nI_toInt ha, nI_toInt hb]; omega
theorem nI_le_iff {a b : Nat} (ha : a < 2 ^ 31) (hb : b < 2 ^ 31) : nI a ≤ nI b ↔ a ≤ b := by
  rw [Int32.le_iff_toInt_le, nI_toInt ha, nI_toInt hb]; omega
theorem nI_eq_iff {a b : Nat} (ha : a < 2 ^ 31) (hb : b < 2 ^ 31) : nI a = nI b ↔ a = b := ⟨nI_inj ha hb, fun h => by rw [h]⟩
theorem nI_zero_eq : (0 : Int32) = nI 0 := rfl
theorem upd_at (f : Nat → Int32) (k : Nat) (x : Int32) : upd f k x k = x := by simp [upd]
theorem upd_ne (f : Nat → Int32) {k j : Nat} (x : Int32) (h : j ≠ k) : upd f k x j = f j := by simp [upd, h]
/-- the places of a world -/
def va_B (wc : va_W) : Nat → Prop := fun q => ∃ (k : Nat) (e : va_E), wc[k]? = some (q, e)
theorem va_D.own {A : Nat → Prop} {ws : va_W} (h : va_D A ws) : va_D (va_B ws) ws := ⟨h.1, fun k q hk => ⟨k, q.2, hk⟩⟩
/-- a world with new cells at some of its places -/
def xset (W : va_W) (is : List Nat) (w1 : va_W) : va_W := (is.zip w1).foldl (fun (V : va_W) (x : Nat × (Nat × va_E)) => V.set x.1 x.2) W
theorem xset_get : ∀ (is : List Nat) (w1 W : va_W) (k : Nat) (q : Nat × va_E) (_ : w1.length = is.length), (xset W is w1)[k]? = some q → (∃ j : Nat, w1[j]? = some q ∧ is[j]? = some k) ∨ (k ∉ is ∧ W[k]? = some q)
  | [], [], W, k, q, _, h => Or.inr ⟨List.not_mem_nil, h⟩
  | [], _ :: _, _, _, _, hl, _ => by simp at hl
  | _ :: _, [], _, _, _, hl, _ => by simp at hl
  | i :: is, x :: w1, W, k, q, hl, h => by
    have h' : (xset (W.set i x) is w1)[k]? = some q := h
    rcases xset_get is w1 (W.set i x) k q (by simpa using hl) h' with ⟨j, h1, h2⟩ | ⟨h1, h2⟩
    · exact Or.inl ⟨j + 1, by simpa using h1, by simpa using h2⟩
    · by_cases hk : k = i
      · subst hk
        rw [List.getElem?_set_self' ] at h2
        cases hw : W[k]? with
        | none => rw [hw] at h2; cases h2
        | some y =>
          rw [hw] at h2
          have : x = q := by simpa using h2
          exact Or.inl ⟨0, by simpa using this, rfl⟩
      · rw [List.getElem?_set_ne (Ne.symm hk)] at h2
        exact Or.inr ⟨fun hm => by rcases List.mem_cons.mp hm with e | e; exact hk e; exact h1 e, h2⟩
theorem xset_adr : ∀ (is : List Nat) (w1 W : va_W) (_ : is.map (fun i => (W[i]?).map Prod.fst) = w1.map (fun x => some x.1)), (xset W is w1).map Prod.fst = W.map Prod.fst
  | [], _, _, _ => rfl
  | _ :: _, [], _, h => by simp at h
  | i :: is, x :: w1, W, h => by
    rw [List.map_cons, List.map_cons, List.cons.injEq] at h
    have e : (W.set i x).map Prod.fst = W.map Prod.fst := by
      apply List.ext_getElem?
      intro k
      rw [List.getElem?_map, List.getElem?_map]
      by_cases hk : k = i
      · subst hk
        rw [List.getElem?_set_self']
        cases hw : W[k]? with
        | none => rfl
        | some y => have h1 := h.1; rw [hw] at h1; simpa using h1.symm
      · rw [List.getElem?_set_ne (Ne.symm hk)]
    show (xset (W.set i x) is w1).map Prod.fst = _
    rw [xset_adr is w1 (W.set i x) ?_, e]
    rw [← h.2]
    apply List.map_congr_left
    intro j _
    have e2 := congrArg (fun (l : List Nat) => l[j]?) e
    rw [List.getElem?_map, List.getElem?_map] at e2
    exact e2
theorem va_D_adr {A : Nat → Prop} {W W' : va_W} (h : va_D A W) (e : W'.map Prod.fst = W.map Prod.fst) : va_D A W' := by
  have e1 : ∀ (k : Nat) (q : Nat × va_E), W'[k]? = some q → ∃ q', W[k]? = some q' ∧ q'.1 = q.1 := by
    intro k q hq
    have e2 := congrArg (fun l => l[k]?) e
    simp only [List.getElem?_map, hq, Option.map_some] at e2
    cases hw : W[k]? with
    | none => rw [hw] at e2; cases e2
    | some y => rw [hw] at e2; exact ⟨y, rfl, (by simpa using e2.symm)⟩
  refine ⟨fun i j p q hp hq hpq => ?_, fun k q hk => ?_⟩
  · obtain ⟨p', h1, h2⟩ := e1 i p hp
    obtain ⟨q', h3, h4⟩ := e1 j q hq
    exact h.1 i j p' q' h1 h3 (by rw [h2, h4, hpq])
  · obtain ⟨q', h1, h2⟩ := e1 k q hk
    rw [← h2]
    exact h.2 k q' h1
theorem xset_P {A : Nat → Prop} {D : va_G} {cl : List vw_C} {W wc w1 : va_W} {H H1 : Heap} {is : List Nat} (hP : va_P D cl W H) (hD : va_D A W) (hsub : is.map (fun i => W[i]?) = wc.map some) (hadr : wc.map Prod.fst = w1.map Prod.fst)
    (hk : ∀ q : Nat, q < H.size → ¬ va_B wc q → H1[q]? = H[q]?) (hP1 : va_P D cl w1 H1) : va_P D cl (xset W is w1) H1 ∧ va_D A (xset W is w1) := by
  have hlen : w1.length = is.length := by
    have a := congrArg List.length hsub
    have b := congrArg List.length hadr
    simp at a b
    omega
  have hsub' : is.map (fun i => (W[i]?).map Prod.fst) = w1.map (fun x => some x.1) := by
    have a := congrArg (List.map (Option.map Prod.fst)) hsub
    rw [List.map_map, List.map_map] at a
    have b := congrArg (List.map some) hadr
    rw [List.map_map, List.map_map] at b
    exact a.trans b
  refine ⟨fun k q hq => ?_, va_D_adr hD (xset_adr is w1 W hsub')⟩
  rcases xset_get is w1 W k q hlen hq with ⟨j, h1, -⟩ | ⟨h1, h2⟩
  · exact hP1 j q h1
  · refine (hP k q h2).kept (hk q.1 (hP k q h2).lt ?_)
    rintro ⟨j, e, hj⟩
    have a := congrArg (fun l => l[j]?) hsub
    simp only [List.getElem?_map, hj, Option.map_some] at a
    cases hi : is[j]? with
    | none => rw [hi] at a; cases a
    | some i =>
      rw [hi] at a
      have b : W[i]? = some (q.1, e) := by simpa using a
      have c := hD.1 k i q (q.1, e) h2 b rfl
      subst c
      exact h1 (List.mem_of_getElem? hi)
/-- what links a private member of a nest mate: 15 words of the tables -/
def xnests : List (String × Nat × MethodName) := [("ShelfStages", 11, ⟨"ShelfStages$State", "<init>", "()V"⟩), ("ShelfStages$State", 11, ⟨"ShelfStages$Goods", "<init>", "()V"⟩), ("ShelfStages$State", 20, ⟨"ShelfStages$Batches", "<init>", "()V"⟩), ("ShelfStages$State", 27, ⟨"ShelfStages$Orders", "<init>", "()V"⟩), ("ShelfStages$State", 34, ⟨"ShelfStages$Stages", "<init>", "()V"⟩), ("ShelfStages$State", 41, ⟨"ShelfStages$Log", "<init>", "()V"⟩), ("ShelfStages$History", 17, ⟨"ShelfStages$State", "<init>", "()V"⟩), ("ShelfStages", 31, ⟨"ShelfStages$Filling", "<init>", "()V"⟩), ("ShelfStages", 38, ⟨"ShelfStages$Delivery", "<init>", "()V"⟩), ("ShelfStages$Goods", 28, ⟨"ShelfStages", "copyRow", "([I[I)V"⟩), ("ShelfStages$Batches", 42, ⟨"ShelfStages", "copyRow", "([I[I)V"⟩), ("ShelfStages$Orders", 55, ⟨"ShelfStages", "copyRow", "([I[I)V"⟩), ("ShelfStages$Log", 31, ⟨"ShelfStages", "copyRow", "([I[I)V"⟩), ("ShelfStages$State", 66, ⟨"ShelfStages", "copyRow", "([I[I)V"⟩), ("ShelfStages$Filling", 55, ⟨"ShelfStages", "copyRow", "([I[I)V"⟩)]
def xN (U : State) : Prop := ∀ q ∈ xnests, va_Nw (.methodLinkNest q.1 q.2.1 q.2.2 "ShelfStages") U
theorem xN.warm {s U : State} (hW : s.WarmedH U.vm) (h : xN s) : xN U := fun q hq => va_Nw.warmM hW (h q hq)
theorem xN.same {u U : State} (e : u.vm = U.vm) (h : xN u) : xN U := fun q hq => va_Nw.same rfl e (h q hq)
/-- a contract's start: the world, the tables, the places apart, the nest's words -/
def xPre (D : va_G) (cl : List vw_C) (as : List Value) (tys : List (ClassId × FieldType)) (wc : va_W) : Array Value → State → Prop := va_Pc as (fun U => va_P D cl wc U.heap ∧ va_K D cl tys U ∧ va_D (fun _ => True) wc ∧ xN U)
theorem xPre_blind {D : va_G} {cl : List vw_C} {as : List Value} {tys : List (ClassId × FieldType)} {wc : va_W} : FrameBlind (xPre D cl as tys wc) := by
  intro a U g mk h
  exact ⟨h.1, h.2.1, va_K.moved (u := U) (U := U.calling g mk a) (Vm.Alike.refl U.vm) h.2.2.1, h.2.2.2.1, xN.same (u := U) (U := U.calling g mk a) rfl h.2.2.2.2⟩
/-- a writing contract's ends: the same places, other cells -/
def xFr (wc : va_W) (st t : State) : Prop := st.heap.size ≤ t.heap.size ∧ ∀ q : Nat, q < st.heap.size → ¬ va_B wc q → t.heap[q]? = st.heap[q]?
def xWi (D : va_G) (cl : List vw_C) (wc : va_W) (post : Int32 → va_W → Prop) : Array Value → State → Outcome → State → Prop := fun _ st oc t => (∃ (r : Int32) (w1 : va_W), oc = .returned (some (.int r)) ∧ post r w1 ∧ va_P D cl w1 t.heap) ∧ xFr wc st t
def xWv (D : va_G) (cl : List vw_C) (wc : va_W) (post : va_W → Prop) : Array Value → State → Outcome → State → Prop := fun _ st oc t => (∃ w1 : va_W, oc = .returned none ∧ post w1 ∧ va_P D cl w1 t.heap) ∧ xFr wc st t
theorem va_S.X {wc : va_W} {s t : State} {H : Heap} {locs : List Loc} (h : va_S (va_B wc) s.heap H locs) (ht : t.heap = H) : xFr wc s t := ⟨by rw [ht]; exact h.1, fun q h1 h2 => by rw [ht]; exact h.2.1 q h1 h2⟩
section XR
variable {p : Program} {l : Launch} {e : Env} {R : Room} {s : State} {m : MethodId} {args : Array Value} {below : List Frame} {meth : Method} {c : Code} {H : Heap} {locs : List Loc} {cells slots : Nat} {Q : State → Prop} {pc : Nat} {ls : Array Slot} {rest : List Value} {cc : ByteArray}
theorem xr_top {x y : Int32} (h : x = y) (k : W p l e R s m args below meth c H locs cells slots Q (F0 m pc ls (.int y :: rest))) : W p l e R s m args below meth c H locs cells slots Q (F0 m pc ls (.int x :: rest)) := by subst h; exact k
theorem xr_top2 {x y z : Int32} (h : x = y) (k : W p l e R s m args below meth c H locs cells slots Q (F0 m pc ls (.int z :: .int y :: rest))) : W p l e R s m args below meth c H locs cells slots Q (F0 m pc ls (.int z :: .int x :: rest)) := by subst h; exact k
theorem xr_topf {x y : UInt32} (h : x = y) (k : W p l e R s m args below meth c H locs cells slots Q (F0 m pc ls (.float y :: rest))) : W p l e R s m args below meth c H locs cells slots Q (F0 m pc ls (.float x :: rest)) := by subst h; exact k
theorem xr_topr {v w : Value} (h : v = w) (k : W p l e R s m args below meth c H locs cells slots Q (F0 m pc ls (w :: rest))) : W p l e R s m args below meth c H locs cells slots Q (F0 m pc ls (v :: rest)) := by subst h; exact k
theorem xr_cut {g1 g2 : JFrame} (h : W p l e R s m args below meth c H locs cells slots Q g2 → W p l e R s m args below meth c H locs cells slots Q g1) (k : W p l e R s m args below meth c H locs cells slots Q g2) : W p l e R s m args below meth c H locs cells slots Q g1 := h k
/-- a loop: what holds at its head, by a measure that falls -/
theorem xr_loop {J : Type} (P : J → Heap → List Loc → JFrame → Prop) (f : J → Nat)
    (step : ∀ i : J, (∀ (j : J) (H' : Heap) (locs' : List Loc) (g' : JFrame), f j < f i → P j H' locs' g' → W p l e R s m args below meth c H' locs' cells slots Q g') → ∀ (H' : Heap) (locs' : List Loc) (g' : JFrame), P i H' locs' g' → W p l e R s m args below meth c H' locs' cells slots Q g')
    (i : J) {g : JFrame} (h : P i H locs g) : W p l e R s m args below meth c H locs cells slots Q g := by
  have key : ∀ (n : Nat) (i : J), f i < n → ∀ (H' : Heap) (locs' : List Loc) (g' : JFrame), P i H' locs' g' → W p l e R s m args below meth c H' locs' cells slots Q g' := by
    intro n
    induction n with
    | zero => intro i hi; omega
    | succ n ih => intro i hi H' locs' g' hp; exact step i (fun j H2 l2 g2 hj hp2 => ih j (by omega) H2 l2 g2 hp2) H' locs' g' hp
  exact key (f i + 1) i (Nat.lt_succ_self _) H locs g h
theorem xr_iadd_n (hexec : p.tables.exec = Jvm.exec) (hb : c.code = cc) {a b : Nat} (hdg : decode cc pc = .ok (.iadd, 1)) (k : W p l e R s m args below meth c H locs cells slots Q (F0 m (pc + 1) ls (.int (nI (a + b)) :: rest))) : W p l e R s m args below meth c H locs cells slots Q (F0 m pc ls (.int (nI b) :: .int (nI a) :: rest)) :=
  lv_iadd hexec hb hdg (by rw [nI_add]; exact k)
theorem xr_imul_n (hexec : p.tables.exec = Jvm.exec) (hb : c.code = cc) {a b : Nat} (hdg : decode cc pc = .ok (.imul, 1)) (k : W p l e R s m args below meth c H locs cells slots Q (F0 m (pc + 1) ls (.int (nI (a * b)) :: rest))) : W p l e R s m args below meth c H locs cells slots Q (F0 m pc ls (.int (nI b) :: .int (nI a) :: rest)) :=
  lv_imul hexec hb hdg (by rw [nI_mul]; exact k)
theorem xr_isub_n (hexec : p.tables.exec = Jvm.exec) (hb : c.code = cc) {a b : Nat} (h : b ≤ a) (hdg : decode cc pc = .ok (.isub, 1)) (k : W p l e R s m args below meth c H locs cells slots Q (F0 m (pc + 1) ls (.int (nI (a - b)) :: rest))) : W p l e R s m args below meth c H locs cells slots Q (F0 m pc ls (.int (nI b) :: .int (nI a) :: rest)) :=
  lv_isub hexec hb hdg (by rw [nI_sub h]; exact k)
theorem xr_lt_n (hexec : p.tables.exec = Jvm.exec) (hb : c.code = cc) {a b : Nat} (ha : a < 2 ^ 31) (hb' : b < 2 ^ 31) {off : Int} {tgt : Nat} (hdg : decode cc pc = .ok (.if_icmp .lt off, 3)) (ht : (pc : Int) + off = (tgt : Int))
    (kt : a < b → W p l e R s m args below meth c H locs cells slots Q (F0 m tgt ls rest)) (kf : b ≤ a → W p l e R s m args below meth c H locs cells slots Q (F0 m (pc + 3) ls rest)) : W p l e R s m args below meth c H locs cells slots Q (F0 m pc ls (.int (nI b) :: .int (nI a) :: rest)) :=
  lv_icmp_lt hexec hb hdg ht (fun h => kt ((nI_lt_iff ha hb').mp h)) (fun h => kf (by have := mt (nI_lt_iff ha hb').mpr h; omega))
theorem xr_ge_n (hexec : p.tables.exec = Jvm.exec) (hb : c.code = cc) {a b : Nat} (ha : a < 2 ^ 31) (hb' : b < 2 ^ 31) {off : Int} {tgt : Nat} (hdg : decode cc pc = .ok (.if_icmp .ge off, 3)) (ht : (pc : Int) + off = (tgt : Int))
    (kt : b ≤ a → W p l e R s m args below meth c H locs cells slots Q (F0 m tgt ls rest)) (kf : a < b → W p l e R s m args below meth c H locs cells slots Q (F0 m (pc + 3) ls rest)) : W p l e R s m args below meth c H locs cells slots Q (F0 m pc ls (.int (nI b) :: .int (nI a) :: rest)) :=
  lv_icmp_ge hexec hb hdg ht (fun h => kt ((nI_le_iff hb' ha).mp h)) (fun h => kf (by have := mt (nI_le_iff hb' ha).mpr h; omega))
theorem xr_gt_n (hexec : p.tables.exec = Jvm.exec) (hb : c.code = cc) {a b : Nat} (ha : a < 2 ^ 31) (hb' : b < 2 ^ 31) {off : Int} {tgt : Nat} (hdg : decode cc pc = .ok (.if_icmp .gt off, 3)) (ht : (pc : Int) + off = (tgt : Int))
    (kt : b < a → W p l e R s m args below meth c H locs cells slots Q (F0 m tgt ls rest)) (kf : a ≤ b → W p l e R s m args below meth c H locs cells slots Q (F0 m (pc + 3) ls rest)) : W p l e R s m args below meth c H locs cells slots Q (F0 m pc ls (.int (nI b) :: .int (nI a) :: rest)) :=
  lv_icmp_gt hexec hb hdg ht (fun h => kt ((nI_lt_iff hb' ha).mp h)) (fun h => kf (by have := mt (nI_lt_iff hb' ha).mpr h; omega))
theorem xr_le_n (hexec : p.tables.exec = Jvm.exec) (hb : c.code = cc) {a b : Nat} (ha : a < 2 ^ 31) (hb' : b < 2 ^ 31) {off : Int} {tgt : Nat} (hdg : decode cc pc = .ok (.if_icmp .le off, 3)) (ht : (pc : Int) + off = (tgt : Int))
    (kt : a ≤ b → W p l e R s m args below meth c H locs cells slots Q (F0 m tgt ls rest)) (kf : b < a → W p l e R s m args below meth c H locs cells slots Q (F0 m (pc + 3) ls rest)) : W p l e R s m args below meth c H locs cells slots Q (F0 m pc ls (.int (nI b) :: .int (nI a) :: rest)) :=
  lv_icmp_le hexec hb hdg ht (fun h => kt ((nI_le_iff ha hb').mp h)) (fun h => kf (by have := mt (nI_le_iff ha hb').mpr h; omega))
theorem xr_eq_n (hexec : p.tables.exec = Jvm.exec) (hb : c.code = cc) {a b : Nat} (ha : a < 2 ^ 31) (hb' : b < 2 ^ 31) {off : Int} {tgt : Nat} (hdg : decode cc pc = .ok (.if_icmp .eq off, 3)) (ht : (pc : Int) + off = (tgt : Int))
    (kt : a = b → W p l e R s m args below meth c H locs cells slots Q (F0 m tgt ls rest)) (kf : ¬ a = b → W p l e R s m args below meth c H locs cells slots Q (F0 m (pc + 3) ls rest)) : W p l e R s m args below meth c H locs cells slots Q (F0 m pc ls (.int (nI b) :: .int (nI a) :: rest)) :=
  lv_icmp_eq hexec hb hdg ht (fun h => kt ((nI_eq_iff ha hb').mp h)) (fun h => kf (mt (nI_eq_iff ha hb').mpr h))
theorem xr_ne_n (hexec : p.tables.exec = Jvm.exec) (hb : c.code = cc) {a b : Nat} (ha : a < 2 ^ 31) (hb' : b < 2 ^ 31) {off : Int} {tgt : Nat} (hdg : decode cc pc = .ok (.if_icmp .ne off, 3)) (ht : (pc : Int) + off = (tgt : Int))
    (kt : ¬ a = b → W p l e R s m args below meth c H locs cells slots Q (F0 m tgt ls rest)) (kf : a = b → W p l e R s m args below meth c H locs cells slots Q (F0 m (pc + 3) ls rest)) : W p l e R s m args below meth c H locs cells slots Q (F0 m pc ls (.int (nI b) :: .int (nI a) :: rest)) :=
  lv_icmp_ne hexec hb hdg ht (fun h => kt (mt (nI_eq_iff ha hb').mpr h)) (fun h => kf ((nI_eq_iff ha hb').mp h))
theorem xr_if0 (hexec : p.tables.exec = Jvm.exec) (hb : c.code = cc) {x : Int32} (hx0 : x = 0) {off : Int} {tgt : Nat} (hdg : decode cc pc = .ok (.ifCond .eq off, 3)) (ht : (pc : Int) + off = (tgt : Int))
    (kt : W p l e R s m args below meth c H locs cells slots Q (F0 m tgt ls rest)) : W p l e R s m args below meth c H locs cells slots Q (F0 m pc ls (.int x :: rest)) :=
  lv_if_eq hexec hb hdg ht (fun _ => kt) (fun h => absurd hx0 h)
theorem xr_if1 (hexec : p.tables.exec = Jvm.exec) (hb : c.code = cc) {x : Int32} (hx0 : ¬ x = 0) {off : Int} {tgt : Nat} (hdg : decode cc pc = .ok (.ifCond .eq off, 3)) (ht : (pc : Int) + off = (tgt : Int))
    (kf : W p l e R s m args below meth c H locs cells slots Q (F0 m (pc + 3) ls rest)) : W p l e R s m args below meth c H locs cells slots Q (F0 m pc ls (.int x :: rest)) :=
  lv_if_eq hexec hb hdg ht (fun h => absurd h hx0) (fun _ => kf)
theorem xr_ifn0 (hexec : p.tables.exec = Jvm.exec) (hb : c.code = cc) {x : Int32} (hx0 : x = 0) {off : Int} {tgt : Nat} (hdg : decode cc pc = .ok (.ifCond .ne off, 3)) (ht : (pc : Int) + off = (tgt : Int))
    (kf : W p l e R s m args below meth c H locs cells slots Q (F0 m (pc + 3) ls rest)) : W p l e R s m args below meth c H locs cells slots Q (F0 m pc ls (.int x :: rest)) :=
  lv_if_ne hexec hb hdg ht (fun h => absurd hx0 h) (fun _ => kf)
theorem xr_ifn1 (hexec : p.tables.exec = Jvm.exec) (hb : c.code = cc) {x : Int32} (hx0 : ¬ x = 0) {off : Int} {tgt : Nat} (hdg : decode cc pc = .ok (.ifCond .ne off, 3)) (ht : (pc : Int) + off = (tgt : Int))
    (kt : W p l e R s m args below meth c H locs cells slots Q (F0 m tgt ls rest)) : W p l e R s m args below meth c H locs cells slots Q (F0 m pc ls (.int x :: rest)) :=
  lv_if_ne hexec hb hdg ht (fun _ => kt) (fun h => absurd h hx0)
variable {D : va_G} {cl : List vw_C} {tys : List (ClassId × FieldType)} {ws : va_W} {A : Nat → Prop} {H0 : Heap} {a : Addr}
theorem xr_iald (hexec : p.tables.exec = Jvm.exec) (hb : c.code = cc) (hK : va_K D cl tys s) (hP : va_P D cl ws H) (q0 t0 : Nat) {cA : ClassId} {n : Nat} {f : Nat → Int32} (ha : ws[q0]? = some (a, .inl (cA, n, .inl f))) (ht : tys[t0]? = some (cA, .int)) {i : Nat} (hin : i < n) (hn : n < 2 ^ 31) (hdg : decode cc pc = .ok (.iaload, 1))
    (kk : W p l e R s m args below meth c H locs cells slots Q (F0 m (pc + 1) ls (.int (f i) :: rest))) : W p l e R s m args below meth c H locs cells slots Q (F0 m pc ls (.int (nI i) :: .ref a :: rest)) :=
  va_iald hexec hb hK hP q0 t0 ha ht (vp_in_nI hin hn) hdg (by rw [nI_clamp (by omega)]; exact kk)
theorem xr_zald (hexec : p.tables.exec = Jvm.exec) (hb : c.code = cc) (hK : va_K D cl tys s) (hP : va_P D cl ws H) (q0 t0 : Nat) {cA : ClassId} {n : Nat} {f : Nat → Int32} (ha : ws[q0]? = some (a, .inl (cA, n, .inl f))) (ht : tys[t0]? = some (cA, .boolean)) {i : Nat} (hin : i < n) (hn : n < 2 ^ 31) (hdg : decode cc pc = .ok (.baload, 1))
    (kk : W p l e R s m args below meth c H locs cells slots Q (F0 m (pc + 1) ls (.int (f i) :: rest))) : W p l e R s m args below meth c H locs cells slots Q (F0 m pc ls (.int (nI i) :: .ref a :: rest)) :=
  va_zald hexec hb hK hP q0 t0 ha ht (vp_in_nI hin hn) hdg (by rw [nI_clamp (by omega)]; exact kk)
theorem xr_cald (hexec : p.tables.exec = Jvm.exec) (hb : c.code = cc) (hK : va_K D cl tys s) (hP : va_P D cl ws H) (q0 t0 : Nat) {cA : ClassId} {n : Nat} {f : Nat → Int32} (ha : ws[q0]? = some (a, .inl (cA, n, .inl f))) (ht : tys[t0]? = some (cA, .char)) {i : Nat} (hin : i < n) (hn : n < 2 ^ 31) (hdg : decode cc pc = .ok (.caload, 1))
    (kk : W p l e R s m args below meth c H locs cells slots Q (F0 m (pc + 1) ls (.int (f i) :: rest))) : W p l e R s m args below meth c H locs cells slots Q (F0 m pc ls (.int (nI i) :: .ref a :: rest)) :=
  va_cald hexec hb hK hP q0 t0 ha ht (vp_in_nI hin hn) hdg (by rw [nI_clamp (by omega)]; exact kk)
theorem xr_fald (hexec : p.tables.exec = Jvm.exec) (hb : c.code = cc) (hK : va_K D cl tys s) (hP : va_P D cl ws H) (q0 t0 : Nat) {cA : ClassId} {n : Nat} {f : Nat → UInt32} (ha : ws[q0]? = some (a, .inl (cA, n, .inr (.inr (.inl f))))) (ht : tys[t0]? = some (cA, .float)) {i : Nat} (hin : i < n) (hn : n < 2 ^ 31) (hdg : decode cc pc = .ok (.faload, 1))
    (kk : W p l e R s m args below meth c H locs cells slots Q (F0 m (pc + 1) ls (.float (f i) :: rest))) : W p l e R s m args below meth c H locs cells slots Q (F0 m pc ls (.int (nI i) :: .ref a :: rest)) :=
  va_fald hexec hb hK hP q0 t0 ha ht (vp_in_nI hin hn) hdg (by rw [nI_clamp (by omega)]; exact kk)
theorem xr_iast (hexec : p.tables.exec = Jvm.exec) (hb : c.code = cc) (hK : va_K D cl tys s) (hP : va_P D cl ws H) (hD : va_D A ws) (hS : va_S A H0 H locs) (q0 t0 : Nat) {cA : ClassId} {n : Nat} {f : Nat → Int32} (ha : ws[q0]? = some (a, .inl (cA, n, .inl f))) (ht : tys[t0]? = some (cA, .int)) {i : Nat} {x : Int32} (hin : i < n) (hn : n < 2 ^ 31) (hdg : decode cc pc = .ok (.iastore, 1))
    (kk : ∀ (H1 : Heap) (locs1 : List Loc), va_P D cl (ws.set q0 (a, .inl (cA, n, .inl (upd f i x)))) H1 → va_D A (ws.set q0 (a, .inl (cA, n, .inl (upd f i x)))) → va_S A H0 H1 locs1 → W p l e R s m args below meth c H1 locs1 cells slots Q (F0 m (pc + 1) ls rest)) : W p l e R s m args below meth c H locs cells slots Q (F0 m pc ls (.int x :: .int (nI i) :: .ref a :: rest)) :=
  va_iast hexec hb hK hP hD hS q0 t0 ha ht (vp_in_nI hin hn) hdg (by rw [nI_clamp (by omega)]; exact kk)
theorem xr_zast (hexec : p.tables.exec = Jvm.exec) (hb : c.code = cc) (hK : va_K D cl tys s) (hP : va_P D cl ws H) (hD : va_D A ws) (hS : va_S A H0 H locs) (q0 t0 : Nat) {cA : ClassId} {n : Nat} {f : Nat → Int32} (ha : ws[q0]? = some (a, .inl (cA, n, .inl f))) (ht : tys[t0]? = some (cA, .boolean)) {i : Nat} {x : Int32} (hin : i < n) (hn : n < 2 ^ 31) {y : Int32} (hy : vp_nar .boolean x = y) (hdg : decode cc pc = .ok (.bastore, 1))
    (kk : ∀ (H1 : Heap) (locs1 : List Loc), va_P D cl (ws.set q0 (a, .inl (cA, n, .inl (upd f i y)))) H1 → va_D A (ws.set q0 (a, .inl (cA, n, .inl (upd f i y)))) → va_S A H0 H1 locs1 → W p l e R s m args below meth c H1 locs1 cells slots Q (F0 m (pc + 1) ls rest)) : W p l e R s m args below meth c H locs cells slots Q (F0 m pc ls (.int x :: .int (nI i) :: .ref a :: rest)) :=
  va_zast hexec hb hK hP hD hS q0 t0 ha ht (vp_in_nI hin hn) hdg (by rw [nI_clamp (by omega), hy]; exact kk)
theorem xr_cast (hexec : p.tables.exec = Jvm.exec) (hb : c.code = cc) (hK : va_K D cl tys s) (hP : va_P D cl ws H) (hD : va_D A ws) (hS : va_S A H0 H locs) (q0 t0 : Nat) {cA : ClassId} {n : Nat} {f : Nat → Int32} (ha : ws[q0]? = some (a, .inl (cA, n, .inl f))) (ht : tys[t0]? = some (cA, .char)) {i : Nat} {x : Int32} (hin : i < n) (hn : n < 2 ^ 31) {y : Int32} (hy : vp_nar .char x = y) (hdg : decode cc pc = .ok (.castore, 1))
    (kk : ∀ (H1 : Heap) (locs1 : List Loc), va_P D cl (ws.set q0 (a, .inl (cA, n, .inl (upd f i y)))) H1 → va_D A (ws.set q0 (a, .inl (cA, n, .inl (upd f i y)))) → va_S A H0 H1 locs1 → W p l e R s m args below meth c H1 locs1 cells slots Q (F0 m (pc + 1) ls rest)) : W p l e R s m args below meth c H locs cells slots Q (F0 m pc ls (.int x :: .int (nI i) :: .ref a :: rest)) :=
  va_cast hexec hb hK hP hD hS q0 t0 ha ht (vp_in_nI hin hn) hdg (by rw [nI_clamp (by omega), hy]; exact kk)
theorem xr_fast (hexec : p.tables.exec = Jvm.exec) (hb : c.code = cc) (hK : va_K D cl tys s) (hP : va_P D cl ws H) (hD : va_D A ws) (hS : va_S A H0 H locs) (q0 t0 : Nat) {cA : ClassId} {n : Nat} {f : Nat → UInt32} (ha : ws[q0]? = some (a, .inl (cA, n, .inr (.inr (.inl f))))) (ht : tys[t0]? = some (cA, .float)) {i : Nat} {x : UInt32} (hin : i < n) (hn : n < 2 ^ 31) (hdg : decode cc pc = .ok (.fastore, 1))
    (kk : ∀ (H1 : Heap) (locs1 : List Loc), va_P D cl (ws.set q0 (a, .inl (cA, n, .inr (.inr (.inl (vf_upd f i x)))))) H1 → va_D A (ws.set q0 (a, .inl (cA, n, .inr (.inr (.inl (vf_upd f i x)))))) → va_S A H0 H1 locs1 → W p l e R s m args below meth c H1 locs1 cells slots Q (F0 m (pc + 1) ls rest)) : W p l e R s m args below meth c H locs cells slots Q (F0 m pc ls (.float x :: .int (nI i) :: .ref a :: rest)) :=
  va_fast hexec hb hK hP hD hS q0 t0 ha ht (vp_in_nI hin hn) hdg (by rw [nI_clamp (by omega)]; exact kk)
theorem xr_aald (hexec : p.tables.exec = Jvm.exec) (hb : c.code = cc) (hK : va_K D cl tys s) (hP : va_P D cl ws H) (q0 t0 : Nat) {cA : ClassId} {ty : FieldType} {n : Nat} {f : Nat → Option Nat} (ha : ws[q0]? = some (a, .inl (cA, n, .inr (.inr (.inr (.inr f)))))) (ht : tys[t0]? = some (cA, ty)) (hty : ty.isReference = true) {i v : Nat} (hin : i < n) (hn : n < 2 ^ 31) (hv : f i = some v) (hdg : decode cc pc = .ok (.aaload, 1))
    (kk : W p l e R s m args below meth c H locs cells slots Q (F0 m (pc + 1) ls (.ref v :: rest))) : W p l e R s m args below meth c H locs cells slots Q (F0 m pc ls (.int (nI i) :: .ref a :: rest)) := by
  have hi : vp_in (nI i) n := vp_in_nI hin hn
  have hc : (nI i).toNatClampNeg = i := nI_clamp (by omega)
  exact W.aald (v := .ref v) (ty := ty) hexec hb (hP q0 _ ha) ((hK.2 t0 _ ht).1 n (fun j => va_rf (f j))) hty (fun q => by cases q) (by show ¬ (nI i < 0 ∨ (arrV _ _ _).slots.size ≤ _); rw [arrV_size]; exact hi) (by show (arrV _ _ _).slots[_]? = _; rw [hc, arrV_read _ _ hin, hv]; rfl) rfl rfl hdg kk
/-- calls -/
theorem xV {y : MethodName} {bytes : ByteArray} {maxL nL index : Nat} {ret : Option FieldType} {Ws Ws' : List Cond} {rm : Room} {Qc : Array Value → State → Outcome → State → Prop} {free : Addr → Prop} {Ts : List Cond} {own C : String} {T : u_T} {N : Nat} {b : Addr} {As rest st0 : List Value} {wc W0 : va_W} {fs : List Value}
    (hx : p.tables.exec = Jvm.exec) (hb : c.code = cc) (hml : c.maxLocals = nL) (hown : s.vm.findClass own = some m.cls) (hts : ∀ w ∈ Ts, w.before args s = true) (hM : Met l y Ws rm (xPre D cl (.ref b :: As) tys wc) Qc 0 0 free) (n : Nat) (hG : GoodIn Ts (wsV own index C y Ws)) (hw : Ws = Cond.code y bytes maxL ret :: Ws') (hc0 : rm.cells = 0) (hs0 : rm.slots = 0)
    (hd : y.cls = C ∧ y.cls ≠ "java/lang/invoke/MethodHandle" ∧ y.cls ≠ "java/lang/invoke/VarHandle" ∧ (parseMethodDescriptor y.desc).map (fun d => d.parameters.length) = some n) (hR : rm.frames + 1 ≤ R.frames ∧ 8 + (maxL + 11) + rm.locals ≤ R.locals) (hN : xN s) (hK : va_K D cl tys s) (hP : va_P D cl W0 H) (hD : va_D A W0) (is : List Nat) (hsub : is.map (fun i => W0[i]?) = wc.map some) (hnd : va_nd is = true)
    (ci q0 : Nat) (hc : cl[ci]? = some (C, T, N)) (he : W0[q0]? = some (b, .inr (ci, fs))) (hn : As.length = n) (hsize : ls.size = nL) (hst : st0 = As.reverse ++ .ref b :: rest) (hW8 : (rest.map fun v => v.category).sum ≤ 8) (hdg : decode cc pc = .ok (.invokevirtual index, 3)) (hf : cells ≤ R.cells ∧ slots ≤ R.slots) :
    va_Run p l e R s m args below meth c H locs cells slots 0 0 (F0 m pc ls st0) rest (Qc (Value.ref b :: As).toArray) free := by
  have hPc : va_P D cl wc H := by
    intro k q hk
    have a := congrArg (fun l => l[k]?) hsub
    simp only [List.getElem?_map, hk, Option.map_some] at a
    cases hi : is[k]? with
    | none => rw [hi] at a; cases a
    | some i => rw [hi] at a; exact hP i q (by simpa using a)
  have hDc : va_D (fun _ => True) wc := (hD.sub is hnd hsub).weaken (fun _ _ _ _ => trivial)
  exact va_runV (As := As) (rest := rest) ⟨hx, hb, hml, hown, hts⟩ hM (cwV n hts hG hw hc0 hs0 hd hR) ⟨xPre_blind, va_recv hK hP hc he, fun U hU hW => ⟨rfl, by rw [hU]; exact hPc, va_K.moved hW.alike hK, hDc, hN.warm hW⟩⟩ rfl hn hsize hst (lv_room hW8) hdg hf
theorem xSs {y : MethodName} {bytes : ByteArray} {maxL nL index : Nat} {ret : Option FieldType} {Ws Ws' : List Cond} {rm : Room} {Qc : Array Value → State → Outcome → State → Prop} {free : Addr → Prop} {Ts : List Cond} {own : String} {As rest st0 : List Value} {wc W0 : va_W}
    (hx : p.tables.exec = Jvm.exec) (hb : c.code = cc) (hml : c.maxLocals = nL) (hown : s.vm.findClass own = some m.cls) (hts : ∀ w ∈ Ts, w.before args s = true) (hM : Met l y Ws rm (xPre D cl As tys wc) Qc 0 0 free) (n : Nat) (hcw : ∀ (hR : rm.frames + 1 ≤ R.frames ∧ 8 + (maxL + 11) + rm.locals ≤ R.locals), CallB R s args own index y bytes maxL ret Ws rm 0 0 n ∧ (Cond.static y).before args s = true) (hR : rm.frames + 1 ≤ R.frames ∧ 8 + (maxL + 11) + rm.locals ≤ R.locals)
    (hN : xN s) (hK : va_K D cl tys s) (hP : va_P D cl W0 H) (hD : va_D A W0) (is : List Nat) (hsub : is.map (fun i => W0[i]?) = wc.map some) (hnd : va_nd is = true) (hn : As.length = n) (hsize : ls.size = nL) (hst : st0 = As.reverse ++ rest) (hW8 : (rest.map fun v => v.category).sum ≤ 8) (hdg : decode cc pc = .ok (.invokestatic index, 3)) (hf : cells ≤ R.cells ∧ slots ≤ R.slots) :
    va_Run p l e R s m args below meth c H locs cells slots 0 0 (F0 m pc ls st0) rest (Qc As.toArray) free := by
  have hPc : va_P D cl wc H := by
    intro k q hk
    have a := congrArg (fun l => l[k]?) hsub
    simp only [List.getElem?_map, hk, Option.map_some] at a
    cases hi : is[k]? with
    | none => rw [hi] at a; cases a
    | some i => rw [hi] at a; exact hP i q (by simpa using a)
  have hDc : va_D (fun _ => True) wc := (hD.sub is hnd hsub).weaken (fun _ _ _ _ => trivial)
  exact va_runS (As := As) (rest := rest) ⟨hx, hb, hml, hown, hts⟩ hM (hcw hR) ⟨xPre_blind, fun U hU hW => ⟨rfl, by rw [hU]; exact hPc, va_K.moved hW.alike hK, hDc, hN.warm hW⟩⟩ rfl hn hsize hst (lv_room hW8) hdg hf
theorem xSN {y : MethodName} {bytes : ByteArray} {maxL nL index : Nat} {ret : Option FieldType} {Ws Ws' : List Cond} {rm : Room} {Qc : Array Value → State → Outcome → State → Prop} {free : Addr → Prop} {Ts : List Cond} {own host : String} {As rest st0 : List Value} {wc W0 : va_W}
    (hx : p.tables.exec = Jvm.exec) (hb : c.code = cc) (hml : c.maxLocals = nL) (hown : s.vm.findClass own = some m.cls) (hts : ∀ w ∈ Ts, w.before args s = true) (hM : Met l y Ws rm (xPre D cl As tys wc) Qc 0 0 free) (n : Nat) (hG : GoodIn Ts Ws) (hw : Ws = Cond.code y bytes maxL ret :: Ws') (hc0 : rm.cells = 0) (hs0 : rm.slots = 0) (hl : va_Nw (.methodLinkNest own index y host) s) (hini : (Cond.initialized y.cls).before args s = true) (hstt : (Cond.static y).before args s = true)
    (hd : y.cls ≠ "java/lang/invoke/MethodHandle" ∧ y.cls ≠ "java/lang/invoke/VarHandle" ∧ (parseMethodDescriptor y.desc).map (fun d => d.parameters.length) = some n) (hR : rm.frames + 1 ≤ R.frames ∧ 8 + (maxL + 11) + rm.locals ≤ R.locals)
    (hN : xN s) (hK : va_K D cl tys s) (hP : va_P D cl W0 H) (hD : va_D A W0) (is : List Nat) (hsub : is.map (fun i => W0[i]?) = wc.map some) (hnd : va_nd is = true) (hn : As.length = n) (hsize : ls.size = nL) (hst : st0 = As.reverse ++ rest) (hW8 : (rest.map fun v => v.category).sum ≤ 8) (hdg : decode cc pc = .ok (.invokestatic index, 3)) (hf : cells ≤ R.cells ∧ slots ≤ R.slots) :
    va_Run p l e R s m args below meth c H locs cells slots 0 0 (F0 m pc ls st0) rest (Qc As.toArray) free := by
  have hPc : va_P D cl wc H := by
    intro k q hk
    have a := congrArg (fun l => l[k]?) hsub
    simp only [List.getElem?_map, hk, Option.map_some] at a
    cases hi : is[k]? with
    | none => rw [hi] at a; cases a
    | some i => rw [hi] at a; exact hP i q (by simpa using a)
  have hDc : va_D (fun _ => True) wc := (hD.sub is hnd hsub).weaken (fun _ _ _ _ => trivial)
  exact va_runSN (As := As) (rest := rest) ⟨hx, hb, hml, hown, hts⟩ hM ⟨va_cnB n hts hG hw hc0 hs0 hl hini hd hR, hstt, trivial⟩ ⟨xPre_blind, fun U hU hW => ⟨rfl, by rw [hU]; exact hPc, va_K.moved hW.alike hK, hDc, hN.warm hW⟩⟩ rfl hn hsize hst (lv_room hW8) hdg hf
variable {st0 : List Value} {av : Array Value}
theorem xkRi {post : Int32 → Prop} (hr : va_Run p l e R s m args below meth c H locs cells slots 0 0 (F0 m pc ls st0) rest (vp_Si post av) (fun _ => False)) (kk : ∀ r : Int32, post r → W p l e R s m args below meth c H locs cells slots Q (F0 m (pc + 3) ls (.int r :: rest))) : W p l e R s m args below meth c H locs cells slots Q (F0 m pc ls st0) := vp_callSi hr.run kk
theorem xkRf {post : UInt32 → Prop} (hr : va_Run p l e R s m args below meth c H locs cells slots 0 0 (F0 m pc ls st0) rest (vp_Sf post av) (fun _ => False)) (kk : ∀ r : UInt32, post r → W p l e R s m args below meth c H locs cells slots Q (F0 m (pc + 3) ls (.float r :: rest))) : W p l e R s m args below meth c H locs cells slots Q (F0 m pc ls st0) := vp_callSf hr.run kk
theorem xkWv {wc w1 W0 : va_W} (hr : va_Run p l e R s m args below meth c H locs cells slots 0 0 (F0 m pc ls st0) rest (xWv D cl wc (fun w => w = w1) av) (va_B wc)) (hP : va_P D cl W0 H) (hD : va_D A W0) (hS : va_S A H0 H locs) (is : List Nat) (hsub : is.map (fun i => W0[i]?) = wc.map some) (hadr : wc.map Prod.fst = w1.map Prod.fst)
    (kk : ∀ (H1 : Heap) (locs1 : List Loc), va_P D cl (xset W0 is w1) H1 → va_D A (xset W0 is w1) → va_S A H0 H1 locs1 → W p l e R s m args below meth c H1 locs1 cells slots Q (F0 m (pc + 3) ls rest)) : W p l e R s m args below meth c H locs cells slots Q (F0 m pc ls st0) := by
  have hB : ∀ q, va_B wc q → A q := by
    rintro q ⟨k, e, hk⟩
    have a := congrArg (fun l => l[k]?) hsub
    simp only [List.getElem?_map, hk, Option.map_some] at a
    cases hi : is[k]? with
    | none => rw [hi] at a; cases a
    | some i => rw [hi] at a; exact hD.2 i (q, e) (by simpa using a)
  intro T hT X
  obtain ⟨v, st₀, t, T', L, h0, X', hL, e1, e2, ⟨⟨w, hv, hp, hP1⟩, hz, hk⟩, st⟩ := hr T hT X
  cases hv
  cases hp
  rw [h0] at hz hk
  rw [← e1] at hz hk hP1
  obtain ⟨hPn, hDn⟩ := xset_P hP hD hsub hadr hk hP1
  obtain ⟨t2, a1, b1⟩ := kk T'.heap (locs ++ L) hPn hDn
    ⟨Nat.le_trans hS.1 hz, fun q h1 h2 => by rw [hk q (Nat.lt_of_lt_of_le h1 hS.1) (fun z => h2 (hB q z))]; exact hS.2.1 q h1 h2, fun q hq => by
      rcases List.mem_append.mp hq with h | h
      · exact hS.2.2 q h
      · exact hB _ (hL q h)⟩ T' rfl X'
  exact ⟨t2, st t2 a1, b1⟩
theorem xkWi {wc w1 W0 : va_W} {x : Int32} (hr : va_Run p l e R s m args below meth c H locs cells slots 0 0 (F0 m pc ls st0) rest (xWi D cl wc (fun r w => r = x ∧ w = w1) av) (va_B wc)) (hP : va_P D cl W0 H) (hD : va_D A W0) (hS : va_S A H0 H locs) (is : List Nat) (hsub : is.map (fun i => W0[i]?) = wc.map some) (hadr : wc.map Prod.fst = w1.map Prod.fst)
    (kk : ∀ (H1 : Heap) (locs1 : List Loc), va_P D cl (xset W0 is w1) H1 → va_D A (xset W0 is w1) → va_S A H0 H1 locs1 → W p l e R s m args below meth c H1 locs1 cells slots Q (F0 m (pc + 3) ls (.int x :: rest))) : W p l e R s m args below meth c H locs cells slots Q (F0 m pc ls st0) := by
  have hB : ∀ q, va_B wc q → A q := by
    rintro q ⟨k, e, hk⟩
    have a := congrArg (fun l => l[k]?) hsub
    simp only [List.getElem?_map, hk, Option.map_some] at a
    cases hi : is[k]? with
    | none => rw [hi] at a; cases a
    | some i => rw [hi] at a; exact hD.2 i (q, e) (by simpa using a)
  intro T hT X
  obtain ⟨v, st₀, t, T', L, h0, X', hL, e1, e2, ⟨⟨r, w, hv, hp, hP1⟩, hz, hk⟩, st⟩ := hr T hT X
  cases hv
  obtain ⟨rfl, rfl⟩ := hp
  rw [h0] at hz hk
  rw [← e1] at hz hk hP1
  obtain ⟨hPn, hDn⟩ := xset_P hP hD hsub hadr hk hP1
  obtain ⟨t2, a1, b1⟩ := kk T'.heap (locs ++ L) hPn hDn
    ⟨Nat.le_trans hS.1 hz, fun q h1 h2 => by rw [hk q (Nat.lt_of_lt_of_le h1 hS.1) (fun z => h2 (hB q z))]; exact hS.2.1 q h1 h2, fun q hq => by
      rcases List.mem_append.mp hq with h | h
      · exact hS.2.2 q h
      · exact hB _ (hL q h)⟩ T' rfl X'
  exact ⟨t2, st t2 a1, b1⟩
theorem xr_zeq_n (hexec : p.tables.exec = Jvm.exec) (hb : c.code = cc) {a : Nat} (ha : a < 2 ^ 31) {off : Int} {tgt : Nat} (hdg : decode cc pc = .ok (.ifCond .eq off, 3)) (ht : (pc : Int) + off = (tgt : Int))
    (kt : a = 0 → W p l e R s m args below meth c H locs cells slots Q (F0 m tgt ls rest)) (kf : 0 < a → W p l e R s m args below meth c H locs cells slots Q (F0 m (pc + 3) ls rest)) : W p l e R s m args below meth c H locs cells slots Q (F0 m pc ls (.int (nI a) :: rest)) :=
  lv_if_eq hexec hb hdg ht (fun h => kt (nI_inj ha (by omega) h)) (fun h => kf (Nat.pos_of_ne_zero (fun q => h (by rw [q]; rfl))))
theorem xr_zne_n (hexec : p.tables.exec = Jvm.exec) (hb : c.code = cc) {a : Nat} (ha : a < 2 ^ 31) {off : Int} {tgt : Nat} (hdg : decode cc pc = .ok (.ifCond .ne off, 3)) (ht : (pc : Int) + off = (tgt : Int))
    (kt : 0 < a → W p l e R s m args below meth c H locs cells slots Q (F0 m tgt ls rest)) (kf : a = 0 → W p l e R s m args below meth c H locs cells slots Q (F0 m (pc + 3) ls rest)) : W p l e R s m args below meth c H locs cells slots Q (F0 m pc ls (.int (nI a) :: rest)) :=
  lv_if_ne hexec hb hdg ht (fun h => kt (Nat.pos_of_ne_zero (fun q => h (by rw [q]; rfl)))) (fun h => kf (nI_inj ha (by omega) h))
theorem xr_zgt_n (hexec : p.tables.exec = Jvm.exec) (hb : c.code = cc) {a : Nat} (ha : a < 2 ^ 31) {off : Int} {tgt : Nat} (hdg : decode cc pc = .ok (.ifCond .gt off, 3)) (ht : (pc : Int) + off = (tgt : Int))
    (kt : 0 < a → W p l e R s m args below meth c H locs cells slots Q (F0 m tgt ls rest)) (kf : a = 0 → W p l e R s m args below meth c H locs cells slots Q (F0 m (pc + 3) ls rest)) : W p l e R s m args below meth c H locs cells slots Q (F0 m pc ls (.int (nI a) :: rest)) :=
  lv_if_gt hexec hb hdg ht (fun h => kt ((nI_lt_iff (a := 0) (by omega) ha).mp h)) (fun h => kf (by have := mt (nI_lt_iff (a := 0) (by omega) ha).mpr h; omega))
theorem xr_zle_n (hexec : p.tables.exec = Jvm.exec) (hb : c.code = cc) {a : Nat} (ha : a < 2 ^ 31) {off : Int} {tgt : Nat} (hdg : decode cc pc = .ok (.ifCond .le off, 3)) (ht : (pc : Int) + off = (tgt : Int))
    (kt : a = 0 → W p l e R s m args below meth c H locs cells slots Q (F0 m tgt ls rest)) (kf : 0 < a → W p l e R s m args below meth c H locs cells slots Q (F0 m (pc + 3) ls rest)) : W p l e R s m args below meth c H locs cells slots Q (F0 m pc ls (.int (nI a) :: rest)) :=
  lv_if_le hexec hb hdg ht (fun h => kt (by have := (nI_le_iff (b := 0) ha (by omega)).mp h; omega)) (fun h => kf (by have := mt (nI_le_iff (b := 0) ha (by omega)).mpr h; omega))
theorem xr_zlt_n (hexec : p.tables.exec = Jvm.exec) (hb : c.code = cc) {a : Nat} (ha : a < 2 ^ 31) {off : Int} {tgt : Nat} (hdg : decode cc pc = .ok (.ifCond .lt off, 3)) (ht : (pc : Int) + off = (tgt : Int))
    (kf : W p l e R s m args below meth c H locs cells slots Q (F0 m (pc + 3) ls rest)) : W p l e R s m args below meth c H locs cells slots Q (F0 m pc ls (.int (nI a) :: rest)) :=
  lv_if_lt hexec hb hdg ht (fun h => absurd h (nI_pos ha)) (fun _ => kf)
theorem xr_zge_n (hexec : p.tables.exec = Jvm.exec) (hb : c.code = cc) {a : Nat} (ha : a < 2 ^ 31) {off : Int} {tgt : Nat} (hdg : decode cc pc = .ok (.ifCond .ge off, 3)) (ht : (pc : Int) + off = (tgt : Int))
    (kt : W p l e R s m args below meth c H locs cells slots Q (F0 m tgt ls rest)) : W p l e R s m args below meth c H locs cells slots Q (F0 m pc ls (.int (nI a) :: rest)) :=
  lv_if_ge hexec hb hdg ht (fun _ => kt) (fun h => absurd (nI_pos' ha) h)
end XR
theorem nI_inc1 (k : Nat) : nI k + Int32.ofInt 1 = nI (k + 1) := (nI_succ k).symm
theorem nI_incn (k j : Nat) : nI k + Int32.ofInt (j : Int) = nI (k + j) := by
  rw [show Int32.ofInt (j : Int) = nI j from rfl, nI_add]
theorem nI_dec1 {k : Nat} (h : 0 < k) : nI k + Int32.ofInt (-1) = nI (k - 1) := by
  obtain ⟨d, rfl⟩ : ∃ d, k = d + 1 := ⟨k - 1, by omega⟩
  rw [nI_succ, Int32.add_assoc, show (1 : Int32) + Int32.ofInt (-1) = 0 from by decide, Int32.add_zero]
  rfl
theorem xi_inc (x : Int32) : x + Int32.ofInt 1 = x + nI 1 := rfl
theorem xi_dec (x : Int32) : x + Int32.ofInt (-1) = x - nI 1 := by
  rw [Int32.sub_eq_add_neg]
  exact congrArg (x + ·) (by decide)
theorem nI_rem {a b : Nat} (ha : a < 2 ^ 31) (hb : b < 2 ^ 31) (h0 : 0 < b) : nI a - nI a / nI b * nI b = nI (a % b) := by
  have hd : nI a / nI b = nI (a / b) := by
    apply Int32.toInt_inj.mp
    rw [Int32.toInt_div_of_ne_left _ _ (by intro q; have := congrArg Int32.toInt q; rw [nI_toInt ha] at this; simp at this), nI_toInt ha, nI_toInt hb, nI_toInt (Nat.lt_of_le_of_lt (Nat.div_le_self _ _) ha)]
    rfl
  rw [hd, nI_mul, nI_sub (Nat.div_mul_le_self a b)]
  congr 1
  have := Nat.div_add_mod a b
  rw [Nat.mul_comm] at this
  omega
/-- a row of the world by another function that says the same -/
theorem xP_arr {D : va_G} {cl : List vw_C} {W : va_W} {H : Heap} (hP : va_P D cl W H) (q : Nat) {a : Nat} {c : ClassId} {n : Nat} {g f : Nat → Int32} (hq : W[q]? = some (a, .inl (c, n, .inl g))) (h : ∀ k, k < n → g k = f k) : va_P D cl (W.set q (a, .inl (c, n, .inl f))) H := by
  intro k x hk
  by_cases e : k = q
  · subst e
    rw [List.getElem?_set_self', hq] at hk
    have hx : x = (a, .inl (c, n, .inl f)) := by simpa using hk.symm
    subst hx
    have h0 : H[a]? = some (vp_cell c (n, .inl g)) := hP k _ hq
    show H[a]? = some (vp_cell c (n, .inl f))
    rw [h0]
    have e2 : vp_cell c (n, .inl g) = vp_cell c (n, .inl f) := by
      rw [vp_cell_i, vp_cell_i]
      unfold arrV
      congr 1
      apply Array.ext
      · simp
      · intro j h1 h2
        simp only [Array.getElem_ofFn]
        rw [h j (by simpa using h1)]
    rw [e2]
  · rw [List.getElem?_set_ne (Ne.symm e)] at hk
    exact hP k x hk
theorem xP_arrf {D : va_G} {cl : List vw_C} {W : va_W} {H : Heap} (hP : va_P D cl W H) (q : Nat) {a : Nat} {c : ClassId} {n : Nat} {g f : Nat → UInt32} (hq : W[q]? = some (a, .inl (c, n, .inr (.inr (.inl g))))) (h : ∀ k, k < n → g k = f k) : va_P D cl (W.set q (a, .inl (c, n, .inr (.inr (.inl f))))) H := by
  intro k x hk
  by_cases e : k = q
  · subst e
    rw [List.getElem?_set_self', hq] at hk
    have hx : x = (a, .inl (c, n, .inr (.inr (.inl f)))) := by simpa using hk.symm
    subst hx
    have h0 : H[a]? = some (vp_cell c (n, .inr (.inr (.inl g)))) := hP k _ hq
    show H[a]? = some (vp_cell c (n, .inr (.inr (.inl f))))
    rw [h0]
    have e2 : vp_cell c (n, .inr (.inr (.inl g))) = vp_cell c (n, .inr (.inr (.inl f))) := by
      rw [vp_cell_f, vp_cell_f]
      unfold arrV
      congr 1
      apply Array.ext
      · simp
      · intro j h1 h2
        simp only [Array.getElem_ofFn]
        rw [h j (by simpa using h1)]
    rw [e2]
  · rw [List.getElem?_set_ne (Ne.symm e)] at hk
    exact hP k x hk
theorem nI_min {a b : Nat} (ha : a < 2 ^ 31) (hb : b < 2 ^ 31) : (if nI b < nI a then nI b else nI a) = nI (min a b) := by
  by_cases h : b < a
  · rw [if_pos ((nI_lt_iff hb ha).mpr h), Nat.min_eq_right (by omega)]
  · rw [if_neg (fun q => h ((nI_lt_iff hb ha).mp q)), Nat.min_eq_left (by omega)]
theorem xsw_out {x : Int32} (n : Nat) (hn : n < 2 ^ 31) (h : ∀ j, j < n → ¬ x = nI j) : x.toInt < 0 ∨ ((n : Int) - 1) < x.toInt := by
  by_cases h0 : x.toInt < 0
  · exact Or.inl h0
  · refine Or.inr ?_
    by_cases h1 : ((n : Int) - 1) < x.toInt
    · exact h1
    · exfalso
      refine h x.toInt.toNat (by omega) (Int32.toInt_inj.mp ?_)
      rw [nI_toInt (by omega)]
      omega
abbrev xtys (cI cF cC cZ cQ cS : ClassId) : List (ClassId × FieldType) := [(cI, .int), (cF, .float), (cC, .char), (cZ, .int), (cQ, .array .int), (cS, .object "ShelfStages$State")]
def xrow (l : List Nat) : Nat → Option Nat := fun i => l[i]?
theorem xi_ite {r : Int32} {P : Prop} (d : Decidable P) (h : r = if P then nI 1 else nI 0) : (P ∧ r = nI 1) ∨ (¬ P ∧ r = nI 0) := by
  by_cases hp : P
  · exact Or.inl ⟨hp, by rw [h, if_pos hp]⟩
  · exact Or.inr ⟨hp, by rw [h, if_neg hp]⟩
