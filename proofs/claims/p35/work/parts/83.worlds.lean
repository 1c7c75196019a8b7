/-! The whole worlds of the class and of the reference. -/
theorem xD_pw {A : Nat → Prop} {W : va_W} : va_D A W ↔ W.Pairwise (fun c d => c.1 ≠ d.1) ∧ ∀ c ∈ W, A c.1 := by
  constructor
  · intro h
    refine ⟨List.pairwise_iff_getElem.mpr fun i j hi hj hij e => ?_, fun c hc => xD_in h hc⟩
    have := h.1 i j W[i] W[j] (List.getElem?_eq_getElem hi) (List.getElem?_eq_getElem hj) e
    omega
  · rintro ⟨h1, h2⟩
    refine ⟨fun i j p q hp hq e => ?_, fun k q hk => h2 q (List.mem_of_getElem? hk)⟩
    obtain ⟨hi, rfl⟩ := List.getElem?_eq_some_iff.mp hp
    obtain ⟨hj, rfl⟩ := List.getElem?_eq_some_iff.mp hq
    rcases Nat.lt_trichotomy i j with h | h | h
    · exact absurd e (List.pairwise_iff_getElem.mp h1 i j hi hj h)
    · exact h
    · exact absurd e.symm (List.pairwise_iff_getElem.mp h1 j i hj hi h)
theorem xD_perm {A : Nat → Prop} {W W' : va_W} (p : W.Perm W') (h : va_D A W) : va_D A W' := by
  obtain ⟨h1, h2⟩ := xD_pw.mp h
  exact xD_pw.mpr ⟨(p.pairwise_iff (fun e q => e q.symm)).mp h1, fun c hc => h2 c (p.mem_iff.mpr hc)⟩
theorem xP_perm {D : va_G} {cl : List vw_C} {W W' : va_W} {H : Heap} (p : W.Perm W') (h : va_P D cl W H) : va_P D cl W' H := xP_of fun _ hc => xP_in h (p.mem_iff.mpr hc)
theorem xperm9 {α : Type} {A N1 N2 N3 HH HI FD F : List α} (hF : (A ++ (FD ++ HH)).Perm F) : ((((((A ++ N1) ++ N2) ++ N3) ++ HH) ++ HI) ++ FD).Perm ((((F ++ N1) ++ N2) ++ N3) ++ HI) := by
  have e1 : ((((((A ++ N1) ++ N2) ++ N3) ++ HH) ++ HI) ++ FD) = A ++ (((N1 ++ (N2 ++ N3)) ++ HH) ++ HI ++ FD) := by simp only [List.append_assoc]
  have e2 : ((((A ++ (FD ++ HH)) ++ N1) ++ N2) ++ N3) ++ HI = A ++ (FD ++ ((HH ++ (N1 ++ (N2 ++ N3))) ++ HI)) := by simp only [List.append_assoc]
  refine List.Perm.trans ?_ ((((hF.append_right N1).append_right N2).append_right N3).append_right HI)
  rw [e1, e2]
  exact List.Perm.append_left A (List.perm_append_comm.trans (List.Perm.append_left FD (List.Perm.append_right HI List.perm_append_comm)))
/-- the front of the class's world: itself, its text, its plan, its reader, its history -/
def clsF (cI cF cC cQ cS : ClassId) (b : Nat → Nat) (o0 s0 t0 : Nat) (ad : Nat → Nat → Nat) (V : Nat → Int32) (E : Nat → Nat → Int32) (P : Nat → UInt32) : va_W :=
  [(b 0, .inr (9, [.ref o0, .ref s0, .ref t0, .ref (b 13), .ref (b 2), .ref (b 8), .ref (b 1), .int (V 0), .int (V 1)])), (b 1, .inl (cC, 60, .inl (E 0))),
   (b 2, .inr (2, [.int (V 2), .int (V 3), .int (V 4), .ref (b 3), .ref (b 4), .ref (b 5), .ref (b 6), .ref (b 7), .int (V 5), .int (V 6), .int (V 7)])),
   (b 3, .inl (cI, 40, .inl (E 1))), (b 4, .inl (cI, 40, .inl (E 2))), (b 5, .inl (cI, 40, .inl (E 3))), (b 6, .inl (cI, 40, .inl (E 4))), (b 7, .inl (cF, 40, .inr (.inr (.inl P)))),
   (b 8, .inr (1, [.int (V 8), .int (V 9), .int (V 10), .ref (b 9)])), (b 9, .inl (cQ, 3, .inr (.inr (.inr (.inr (xrow [b 10, b 11, b 12])))))), (b 10, .inl (cI, 16, .inl (E 5))), (b 11, .inl (cI, 16, .inl (E 6))), (b 12, .inl (cI, 16, .inl (E 7))),
   (b 13, .inr (4, [.ref (b 14), .int (V 11), .int (V 12)])), (b 14, .inl (cS, 4, .inr (.inr (.inr (.inr (xsa ad))))))]
def clsW (cI cF cC cQ cS : ClassId) (b o sn tr : Nat → Nat) (ad : Nat → Nat → Nat) (V : Nat → Int32) (E : Nat → Nat → Int32) (P : Nat → UInt32) (T Ts Tt : Nat → Nat → Int32) (S : Nat → Nat → Nat → Int32) : va_W :=
  (((clsF cI cF cC cQ cS b (o 0) (sn 0) (tr 0) ad V E P ++ stW cI cF cQ o T) ++ stW cI cF cQ sn Ts) ++ stW cI cF cQ tr Tt) ++ hiW cI cF cQ ad S
/-- the reference's world -/
def modW (cI cC cZ : ClassId) (b : Nat → Nat) (V : Nat → Int32) (Z : Nat → Nat → Int32) : va_W :=
  [(b 0, .inr (10, [.ref (b 1), .ref (b 2), .ref (b 3), .ref (b 4), .int (V 0), .int (V 1), .ref (b 5), .int (V 2), .ref (b 6), .ref (b 7), .ref (b 8), .ref (b 9), .int (V 3), .int (V 4), .int (V 5), .int (V 6), .int (V 7), .int (V 8), .ref (b 10)])),
   (b 1, .inl (cI, 1002, .inl (Z 0))), (b 2, .inl (cI, 4008, .inl (Z 1))), (b 3, .inl (cI, 1002, .inl (Z 2))), (b 4, .inl (cI, 1002, .inl (Z 3))), (b 5, .inl (cC, 60, .inl (Z 4))), (b 6, .inl (cZ, 40, .inl (Z 5))), (b 7, .inl (cI, 40, .inl (Z 6))), (b 8, .inl (cI, 40, .inl (Z 7))), (b 9, .inl (cI, 40, .inl (Z 8))), (b 10, .inl (cI, 60, .inl (Z 9)))]
/-- what the reference holds at the start -/
def zT0 : Nat → Nat → Int32 := fun k => cond (Nat.beq k 0) (upd (upd (upd (upd (upd (upd (upd (upd (upd (fun _ => nI 0) 5 (nI 4)) 6 (nI 50)) 954 (nI 100)) 955 (nI 50)) 956 (nI 25)) 957 (nI 10)) 959 (nI 1101004800)) 960 (nI 1109393408)) 961 (nI 1116471296)) (fun _ => nI 0)
