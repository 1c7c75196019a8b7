/-! Contracts in the whole worlds. -/
def xRM : Room := { frames := 6, cells := 0, slots := 0, locals := 250 }
/-- method y at as: from the world W to W', answering r -/
def pX (l : Launch) (D : va_G) (tys : List (ClassId × FieldType)) (y : MethodName) (ws : List Cond) (as : List Value) (W W' : va_W) (r : Int32) : Prop :=
  Met l y ws xRM (xPre D vwCl as tys W) (xWi D vwCl W (fun r0 w => r0 = r ∧ w = W')) 0 0 (va_B W)
/-- the same of a float, the world as it was -/
def pXf (l : Launch) (D : va_G) (tys : List (ClassId × FieldType)) (y : MethodName) (ws : List Cond) (as : List Value) (W : va_W) (r : UInt32) : Prop :=
  Met l y ws xRM (xPre D vwCl as tys W) (vp_Sf (fun r0 => r0 = r)) 0 0 (fun _ => False)
theorem pX.r {l : Launch} {D : va_G} {tys : List (ClassId × FieldType)} {y : MethodName} {ws : List Cond} {as : List Value} {W W' : va_W} {r r' : Int32} (h : pX l D tys y ws as W W' r) (e : r = r') : pX l D tys y ws as W W' r' := by
  rw [← e]
  exact h
theorem pXf.r {l : Launch} {D : va_G} {tys : List (ClassId × FieldType)} {y : MethodName} {ws : List Cond} {as : List Value} {W : va_W} {r r' : UInt32} (h : pXf l D tys y ws as W r) (e : r = r') : pXf l D tys y ws as W r' := by
  rw [← e]
  exact h
section FRAME1
variable {l : Launch} {y : MethodName} {ws : List Cond} {rm : Room} {D : va_G} {cl : List vw_C} {as : List Value} {tys : List (ClassId × FieldType)} {wc w1 W W' V V1 : va_W} {x : Int32} {xf : UInt32}
theorem xframeR1 (hM : Met l y ws rm (xPre D cl as tys wc) (vp_Si (fun r => r = x)) 0 0 (fun _ => False)) (is : List Nat) (hsub : is.map (fun i => W[i]?) = wc.map some) (hnd : va_nd is = true) : Met l y ws rm (xPre D cl as tys W) (xWi D cl W (fun r w => r = x ∧ w = W)) 0 0 (va_B W) :=
  xframeR0 hM (fun _ hP => xsubP hsub hP) fun hD => hD.sub is hnd hsub
theorem xframeF1 (hM : Met l y ws rm (xPre D cl as tys wc) (vp_Sf (fun r => r = xf)) 0 0 (fun _ => False)) (is : List Nat) (hsub : is.map (fun i => W[i]?) = wc.map some) (hnd : va_nd is = true) : Met l y ws rm (xPre D cl as tys W) (vp_Sf (fun r => r = xf)) 0 0 (fun _ => False) :=
  xframeF0 hM (fun _ hP => xsubP hsub hP) fun hD => hD.sub is hnd hsub
theorem xframeW1 (hM : Met l y ws rm (xPre D cl as tys wc) (xWi D cl wc (fun r w => r = x ∧ w = w1)) 0 0 (va_B wc)) (is : List Nat) (n : Nat) (hsub : is.map (fun i => W[i]?) = wc.map some) (hnd : va_nd is = true) (hadr : wc.map Prod.fst = w1.map Prod.fst) (hn : W.length = n) (hup : xupd (is.zip w1) (List.range n) W = W') :
    Met l y ws rm (xPre D cl as tys W) (xWi D cl W (fun r w => r = x ∧ w = W')) 0 0 (va_B W) :=
  xframe0 hM (fun _ hP => xsubP hsub hP) (fun hD => hD.sub is hnd hsub) (xsubB hsub) fun H H1 hP hD hk hP1 => by
    have a := (xset_P2 (is := is) (ks := List.range n) hP hD hsub hadr hk hP1 (by rw [hn])).1
    rw [hup] at a
    exact a
theorem xmetP (hM : Met l y ws rm (xPre D cl as tys W) (xWi D cl W (fun r w => r = x ∧ w = w1)) 0 0 (va_B W)) (p : W.Perm V) (p1 : w1.Perm V1) : Met l y ws rm (xPre D cl as tys V) (xWi D cl V (fun r w => r = x ∧ w = V1)) 0 0 (va_B V) :=
  xframe0 hM (fun _ hP => xP_perm p.symm hP) (fun hD => xD_perm p.symm hD) (fun q hq => by
    obtain ⟨e, he⟩ := xB_mem hq
    exact xB_in (c := (q, e)) (p.mem_iff.mp he)) fun H H1 _ _ _ hP1 => xP_perm p1 hP1
end FRAME1
theorem xperm3 {α : Type} (A R B : List α) : (A ++ (R ++ B)).Perm ((A ++ B) ++ R) := by
  rw [List.append_assoc]
  exact List.Perm.append_left A List.perm_append_comm
theorem nI_ex (x : Int32) : ∃ m : Nat, x = nI m := ⟨x.toBitVec.toNat, Int32.toBitVec_inj.mp (by
  show x.toBitVec = BitVec.ofNat 32 x.toBitVec.toNat
  simp)⟩
