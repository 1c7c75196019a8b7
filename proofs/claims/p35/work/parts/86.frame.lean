/-! A contract said of a larger world. -/
theorem xroomMono {s : State} {pl : Platform} {r r' : Room} (hf : r.frames ≤ r'.frames) (hl : r.locals ≤ r'.locals) (hc : r.cells ≤ r'.cells) (hs : r.slots ≤ r'.slots) (h : s.hasRoom pl r' = true) : s.hasRoom pl r = true := by
  simp only [State.hasRoom, Bool.and_eq_true, decide_eq_true_eq] at h ⊢
  obtain ⟨⟨⟨⟨y, a, b, c, d, e⟩, f⟩, g⟩, i⟩ := h
  exact ⟨⟨⟨⟨by omega, by omega, by omega, by omega, by omega, e⟩, by omega⟩, by omega⟩, i⟩
theorem xroom {l : Launch} {y : MethodName} {ws : List Cond} {rm rm' : Room} {Pc : Array Value → State → Prop} {Qc : Array Value → State → Outcome → State → Prop} {mc ms : Nat} {free : Addr → Prop} (hM : Met l y ws rm Pc Qc mc ms free) (hf : rm.frames ≤ rm'.frames) (hl : rm.locals ≤ rm'.locals) (hc : rm.cells ≤ rm'.cells) (hs : rm.slots ≤ rm'.slots) : Met l y ws rm' Pc Qc mc ms free := by
  intro p e ha hcs hk s m args below hfr happ hP hK
  obtain ⟨a1, a2, a3, a4, a5, a6, a7, a8⟩ := (Spec.appliesLoose_iff hfr).mp happ
  exact hM p e ha hcs hk s m args below hfr ((Spec.appliesLoose_iff hfr).mpr ⟨a1, a2, a3, a4, a5, a6, xroomMono hf hl hc hs a7, a8⟩) hP hK
section FRAME
variable {l : Launch} {y : MethodName} {ws : List Cond} {rm : Room} {D : va_G} {cl : List vw_C} {as : List Value} {tys : List (ClassId × FieldType)} {wc w1 W W' L L' R R1 : va_W} {x : Int32} {xf : UInt32}
theorem xframe0 (hM : Met l y ws rm (xPre D cl as tys wc) (xWi D cl wc (fun r w => r = x ∧ w = w1)) 0 0 (va_B wc)) (h1 : ∀ H, va_P D cl W H → va_P D cl wc H) (h2 : va_D (fun _ => True) W → va_D (fun _ => True) wc) (hB : ∀ q, va_B wc q → va_B W q)
    (hout : ∀ H H1, va_P D cl W H → va_D (fun _ => True) W → (∀ q : Nat, q < H.size → ¬ va_B wc q → H1[q]? = H[q]?) → va_P D cl w1 H1 → va_P D cl W' H1) :
    Met l y ws rm (xPre D cl as tys W) (xWi D cl W (fun r w => r = x ∧ w = W')) 0 0 (va_B W) := by
  intro p e ha hcs hk s m args below hf happ hPc hK
  obtain ⟨rfl, hP, hKk, hD, hN⟩ := hPc
  obtain ⟨n, o, g1, g2, g3, ⟨⟨⟨r, w, e1, ⟨e2, e3⟩, hP1⟩, hz, hfr⟩, L, hF, hL⟩⟩ := hM p e ha hcs hk s m _ below hf happ ⟨rfl, h1 _ hP, hKk, h2 hD, hN⟩ hK
  subst e2
  subst e3
  exact ⟨n, o, g1, g2, g3, ⟨⟨⟨_, W', e1, ⟨rfl, rfl⟩, hout _ _ hP hD hfr hP1⟩, hz, fun q hq hb => hfr q hq fun z => hb (hB q z)⟩, L, hF, fun q hq => hB _ (hL q hq)⟩⟩
theorem xframeR0 (hM : Met l y ws rm (xPre D cl as tys wc) (vp_Si (fun r => r = x)) 0 0 (fun _ => False)) (h1 : ∀ H, va_P D cl W H → va_P D cl wc H) (h2 : va_D (fun _ => True) W → va_D (fun _ => True) wc) :
    Met l y ws rm (xPre D cl as tys W) (xWi D cl W (fun r w => r = x ∧ w = W)) 0 0 (va_B W) := by
  intro p e ha hcs hk s m args below hf happ hPc hK
  obtain ⟨rfl, hP, hKk, hD, hN⟩ := hPc
  obtain ⟨n, o, g1, g2, g3, ⟨⟨r, e1, e2, e3⟩, L, hF, hL⟩⟩ := hM p e ha hcs hk s m _ below hf happ ⟨rfl, h1 _ hP, hKk, h2 hD, hN⟩ hK
  subst e2
  exact ⟨n, o, g1, g2, g3, ⟨⟨⟨_, W, e1, ⟨rfl, rfl⟩, by rw [e3]; exact hP⟩, by rw [e3]; exact Nat.le_refl _, fun q hq hb => by rw [e3]⟩, L, hF, fun q hq => (hL q hq).elim⟩⟩
theorem xframeF0 (hM : Met l y ws rm (xPre D cl as tys wc) (vp_Sf (fun r => r = xf)) 0 0 (fun _ => False)) (h1 : ∀ H, va_P D cl W H → va_P D cl wc H) (h2 : va_D (fun _ => True) W → va_D (fun _ => True) wc) :
    Met l y ws rm (xPre D cl as tys W) (vp_Sf (fun r => r = xf)) 0 0 (fun _ => False) := by
  intro p e ha hcs hk s m args below hf happ hPc hK
  obtain ⟨rfl, hP, hKk, hD, hN⟩ := hPc
  exact hM p e ha hcs hk s m _ below hf happ ⟨rfl, h1 _ hP, hKk, h2 hD, hN⟩ hK
theorem xsubP {is : List Nat} {H : Heap} (hsub : is.map (fun i => L[i]?) = wc.map some) (hP : va_P D cl L H) : va_P D cl wc H := by
  intro k q hk
  have a := congrArg (fun l => l[k]?) hsub
  simp only [List.getElem?_map, hk, Option.map_some] at a
  cases hi : is[k]? with
  | none => rw [hi] at a; cases a
  | some i => rw [hi] at a; exact hP i q (by simpa using a)
theorem xsubB {is : List Nat} (hsub : is.map (fun i => L[i]?) = wc.map some) : ∀ q, va_B wc q → va_B L q := by
  rintro q ⟨k, e, hk⟩
  have a := congrArg (fun l => l[k]?) hsub
  simp only [List.getElem?_map, hk, Option.map_some] at a
  cases hi : is[k]? with
  | none => rw [hi] at a; cases a
  | some i => rw [hi] at a; exact ⟨i, e, by simpa using a⟩
theorem xB_l : ∀ q, va_B L q → va_B (L ++ R) q := fun q h => by
  obtain ⟨e, he⟩ := xB_mem h
  exact xB_in (c := (q, e)) (List.mem_append_left _ he)
theorem xB_r : ∀ q, va_B R q → va_B (L ++ R) q := fun q h => by
  obtain ⟨e, he⟩ := xB_mem h
  exact xB_in (c := (q, e)) (List.mem_append_right _ he)
/-- a method that reads: of the front's places -/
theorem xframeR (hM : Met l y ws rm (xPre D cl as tys wc) (vp_Si (fun r => r = x)) 0 0 (fun _ => False)) (is : List Nat) (hsub : is.map (fun i => L[i]?) = wc.map some) (hnd : va_nd is = true) : Met l y ws rm (xPre D cl as tys (L ++ R)) (xWi D cl (L ++ R) (fun r w => r = x ∧ w = L ++ R)) 0 0 (va_B (L ++ R)) :=
  xframeR0 hM (fun _ hP => xsubP hsub (xP_l hP)) fun hD => (xD_l hD).sub is hnd hsub
theorem xframeF (hM : Met l y ws rm (xPre D cl as tys wc) (vp_Sf (fun r => r = xf)) 0 0 (fun _ => False)) (is : List Nat) (hsub : is.map (fun i => L[i]?) = wc.map some) (hnd : va_nd is = true) : Met l y ws rm (xPre D cl as tys (L ++ R)) (vp_Sf (fun r => r = xf)) 0 0 (fun _ => False) :=
  xframeF0 hM (fun _ hP => xsubP hsub (xP_l hP)) fun hD => (xD_l hD).sub is hnd hsub
/-- a method that writes places of the front -/
theorem xframeW (hM : Met l y ws rm (xPre D cl as tys wc) (xWi D cl wc (fun r w => r = x ∧ w = w1)) 0 0 (va_B wc)) (is : List Nat) (n : Nat) (hsub : is.map (fun i => L[i]?) = wc.map some) (hnd : va_nd is = true) (hadr : wc.map Prod.fst = w1.map Prod.fst) (hn : L.length = n) (hup : xupd (is.zip w1) (List.range n) L = L') :
    Met l y ws rm (xPre D cl as tys (L ++ R)) (xWi D cl (L ++ R) (fun r w => r = x ∧ w = L' ++ R)) 0 0 (va_B (L ++ R)) :=
  xframe0 hM (fun _ hP => xsubP hsub (xP_l hP)) (fun hD => (xD_l hD).sub is hnd hsub) (fun q hq => xB_l q (xsubB hsub q hq)) fun H H1 hP hD hk hP1 => by
    have a := (xset_P2t (is := is) (ks := List.range n) hP hD hsub hadr hk hP1 (by rw [hn])).1
    rw [hup] at a
    exact a
/-- a method that writes places of the front and the whole tail -/
theorem xframeT (hM : Met l y ws rm (xPre D cl as tys (wc ++ R)) (xWi D cl (wc ++ R) (fun r w => r = x ∧ w = w1 ++ R1)) 0 0 (va_B (wc ++ R))) (is : List Nat) (n : Nat) (hsub : is.map (fun i => L[i]?) = wc.map some) (hnd : va_nd is = true) (hadr : wc.map Prod.fst = w1.map Prod.fst) (hadR : R.map Prod.fst = R1.map Prod.fst) (hn : L.length = n) (hup : xupd (is.zip w1) (List.range n) L = L') :
    Met l y ws rm (xPre D cl as tys (L ++ R)) (xWi D cl (L ++ R) (fun r w => r = x ∧ w = L' ++ R1)) 0 0 (va_B (L ++ R)) := by
  have hBw : ∀ q, va_B (wc ++ R) q → va_B (L ++ R) q := fun q hq => by
    obtain ⟨e, he⟩ := xB_mem hq
    rcases List.mem_append.mp he with h | h
    · exact xB_l q (xsubB hsub q (xB_in (c := (q, e)) h))
    · exact xB_r q (xB_in (c := (q, e)) h)
  refine xframe0 hM (fun _ hP => va_P.app (xsubP hsub (xP_l hP)) (xP_r hP)) (fun hD => xD_app ((xD_l hD).sub is hnd hsub) (xD_r hD) fun c hc d hd e => ?_) hBw fun H H1 hP hD hk hP1 => ?_
  · obtain ⟨e2, he⟩ := xB_mem (xsubB hsub c.1 (xB_in hc))
    exact xD_ne hD he hd e
  · have hk1 : ∀ q : Nat, q < H.size → ¬ va_B (wc ++ R) q → H1[q]? = H[q]? := hk
    refine va_P.app ?_ (xP_r hP1)
    have hPL := xP_l hP
    have hDL := xD_l hD
    have key : ∀ (k : Nat) (q : Nat × va_E), (xupd (is.zip w1) (List.range n) L)[k]? = some q → va_at D cl q H1 := by
      intro k q hq
      rw [xupd_get _ _ L k (by simp [hn])] at hq
      cases hw : L[k]? with
      | none => rw [hw] at hq; cases hq
      | some c =>
        have hlt : k < L.length := (List.getElem?_eq_some_iff.mp hw).1
        have hkk : (List.range n)[k]? = some k := by rw [← hn]; simp [hlt]
        rw [hw] at hq
        simp only [Option.bind_some, hkk, Option.map_some, Option.some.injEq] at hq
        rcases xfind_spec k c (is.zip w1) with h | ⟨h1, h2⟩
        · rw [hq] at h
          obtain ⟨j, hj⟩ := List.getElem?_of_mem h
          exact xP_in (xP_l hP1) (List.mem_of_getElem? (List.getElem?_zip_eq_some.mp hj).2)
        · rw [h2] at hq
          subst hq
          refine (hPL k c hw).kept (hk c.1 (hPL k c hw).lt fun hb => ?_)
          obtain ⟨e, he⟩ := xB_mem hb
          rcases List.mem_append.mp he with h | h
          · obtain ⟨j, hj⟩ := List.getElem?_of_mem h
            have b := congrArg (fun l => l[j]?) hsub
            simp only [List.getElem?_map, hj, Option.map_some] at b
            cases hi : is[j]? with
            | none => rw [hi] at b; cases b
            | some i =>
              rw [hi] at b
              have b2 : L[i]? = some (c.1, e) := by simpa using b
              have e3 := hDL.1 k i c (c.1, e) hw b2 rfl
              subst e3
              have hjl : j < w1.length := by
                have := congrArg List.length hadr
                simp at this
                rw [← this]
                exact (List.getElem?_eq_some_iff.mp hj).1
              exact h1 (w1[j]) (List.mem_of_getElem? (i := j) (List.getElem?_zip_eq_some.mpr ⟨hi, List.getElem?_eq_getElem hjl⟩))
          · exact xD_ne hD (List.mem_of_getElem? hw) h rfl
    rw [hup] at key
    exact key
end FRAME
