/-! Steps of the whole relation: acts, undo, keep, restore, texts. -/
theorem RelS.zcp {T : Nat → Nat → Int32} {a b : Nat → Int32} (h : RelS T a) : RelS T (zcp a b 1002) := h.congr fun k hk => if_pos hk
theorem RelH.pop {ol sz : Nat} {S : Nat → Nat → Nat → Int32} {past : Nat → Int32} (h : RelH ol sz S past) (h0 : 0 < sz) : RelS (S ((ol + (sz - 1)) % 4)) (fun i => past ((sz - 1) * 1002 + i)) ∧ RelH ol (sz - 1) S past :=
  ⟨h.2.2 (sz - 1) (by omega), h.1, by have := h.2.1; omega, fun k hk => h.2.2 k (by omega)⟩
/-- an act: what was is kept, now is another -/
theorem Rel.act {V V' : Nat → Int32} {E : Nat → Nat → Int32} {T Ts T' : Nat → Nat → Int32} {S : Nat → Nat → Nat → Int32} {M M' : Nat → Int32} {Z Z' : Nat → Nat → Int32} {ol sz : Nat} (h : Rel V E T Ts S M Z) (h11 : V 11 = nI ol) (h12 : V 12 = nI sz) (hol : ol < 4) (hsz : sz ≤ 4) (hT : RelS T' (Z' 0))
    (v11 : V' 11 = nI (xol ol sz)) (v12 : V' 12 = nI (xsz sz)) (v0 : V' 0 = V 0) (v1 : V' 1 = V 1) (m0 : M' 0 = nI (if sz = 4 then 4 else sz + 1)) (m1 : M' 1 = M 1) (m2 : M' 2 = M 2) (z1 : Z' 1 = zrec (Z 0) (Z 1) sz) (z2 : Z' 2 = Z 2) (z4 : Z' 4 = Z 4) :
    Rel V' E T' Ts (xupS S ((ol + sz) % 4) T) M' Z' := by
  obtain ⟨r1, ⟨ol', sz', e1, e2, e3, rH⟩, r3, r4⟩ := h
  have eo : ol' = ol := nI_inj (by have := rH.1; omega) (by omega) (e1.symm.trans h11)
  have es : sz' = sz := nI_inj (by have := rH.2.1; omega) (by omega) (e2.symm.trans h12)
  subst eo; subst es
  refine ⟨hT, ⟨xol ol' sz', xsz sz', v11, v12, m0, by rw [z1]; exact rH.push r1⟩, ?_, ?_⟩
  · rw [v1, m1, z2]; exact r3
  · rw [v0, m2, z4]; exact r4
