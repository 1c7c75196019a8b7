/-! Pairs: both methods over related worlds. -/
theorem xif1_ok {Q : Prop} [Decidable Q] {a : Int32} (ha : a ≠ nI 0) (h : (if Q then a else nI 0) = nI 0) : ¬ Q := fun q => ha (by rw [if_pos q] at h; exact h)
theorem xif2_ok {Q R : Prop} [Decidable Q] [Decidable R] {a c : Int32} (ha : a ≠ nI 0) (hc : c ≠ nI 0) (h : (if Q then a else if R then c else nI 0) = nI 0) : ¬ Q ∧ ¬ R := by
  have q : ¬ Q := fun q => ha (by rw [if_pos q] at h; exact h)
  rw [if_neg q] at h
  exact ⟨q, xif1_ok hc h⟩
def Pair (l : Launch) (dC : Nat → ClassId) (dI : Nat → Nat → Nat) (cI cF cC cZ cQ cS : ClassId) (b o sn tr : Nat → Nat) (ad : Nat → Nat → Nat) (bm : Nat → Nat) (y9 : MethodName) (w9 : List Cond) (y10 : MethodName) (w10 : List Cond) (as : List Value) (V : Nat → Int32) (E : Nat → Nat → Int32) (P : Nat → UInt32) (T Ts Tt : Nat → Nat → Int32) (S : Nat → Nat → Nat → Int32) (M : Nat → Int32) (Z : Nat → Nat → Int32) : Prop :=
  ∃ (r : Int32) (V' : Nat → Int32) (E' : Nat → Nat → Int32) (P' : Nat → UInt32) (T' Ts' Tt' : Nat → Nat → Int32) (S' : Nat → Nat → Nat → Int32) (M' : Nat → Int32) (Z' : Nat → Nat → Int32), Rel V' E' T' Ts' S' M' Z' ∧
    pX l (dC, dI) (xtys cI cF cC cZ cQ cS) y9 w9 (.ref (b 0) :: as) (clsW cI cF cC cQ cS b o sn tr ad V E P T Ts Tt S) (clsW cI cF cC cQ cS b o sn tr ad V' E' P' T' Ts' Tt' S') r ∧
    pX l (dC, dI) (xtys cI cF cC cZ cQ cS) y10 w10 (.ref (bm 0) :: as) (modW cI cC cZ bm M Z) (modW cI cC cZ bm M' Z') r
section PAIRS
variable {l : Launch} {dC : Nat → ClassId} {dI : Nat → Nat → Nat} {cI cF cC cZ cQ cS : ClassId} {b o sn tr : Nat → Nat} {ad : Nat → Nat → Nat} {bm : Nat → Nat} {V : Nat → Int32} {E : Nat → Nat → Int32} {P : Nat → UInt32} {T Ts Tt : Nat → Nat → Int32} {S : Nat → Nat → Nat → Int32} {M : Nat → Int32} {Z : Nat → Nat → Int32}
set_option maxHeartbeats 4000000 in
set_option maxRecDepth 100000 in
theorem P_addGood (h : Rel V E T Ts S M Z) (price life : Int32) : Pair l dC dI cI cF cC cZ cQ cS b o sn tr ad bm yX9_addGood wsX9_addGood yX10_addGood wsX10_addGood [.int price, .int life] V E P T Ts Tt S M Z := by
  obtain ⟨⟨gz, bz, oz, tk, lz, nx, hN⟩, ⟨ol, sz, v11, v12, m0, hH⟩, hK, tl, htl, v0, m2, htx⟩ := id h
  have hol : ol < 4 := hH.1
  have hsz : sz ≤ 4 := hH.2.1
  have hgz : gz ≤ 12 := hN.1.1.1
  have hbz : bz ≤ 40 := hN.1.1.2.1
  have hoz : oz ≤ 30 := hN.1.1.2.2.1
  have hlz : lz ≤ 10 := hN.1.1.2.2.2.1
  have hnx : nx < 10 := hN.1.1.2.2.2.2.1
  have c0 : T 0 0 = nI gz := hN.1.2.1.1
  have c5 : T 5 0 = nI bz := hN.1.2.1.2.1
  have c16 : T 16 0 = nI oz := hN.1.2.1.2.2.1
  have c17 : T 17 0 = nI tk := hN.1.2.1.2.2.2.1
  have c32 : T 32 0 = nI lz := hN.1.2.1.2.2.2.2.1
  have c33 : T 33 0 = nI nx := hN.1.2.1.2.2.2.2.2
  have a1 : Z 0 1 = nI gz := hN.1.2.2.1.1
  have a2 : Z 0 2 = nI bz := hN.1.2.2.1.2.1
  have a3 : Z 0 3 = nI oz := hN.1.2.2.1.2.2.1
  have a8 : Z 0 8 = nI tk := hN.1.2.2.1.2.2.2.1
  have a9 : Z 0 9 = nI lz := hN.1.2.2.1.2.2.2.2.1
  have a40 : T 40 0 = Z 0 0 := hN.1.2.2.1.2.2.2.2.2.1
  have a39 : T 39 0 = Z 0 7 := hN.1.2.2.1.2.2.2.2.2.2
  by_cases he : eAddGood price life gz = nI 0
  · obtain ⟨q1, q2⟩ := xif2_ok (by decide) (by decide) he
    have hpr : nI 1 ≤ price ∧ price ≤ nI 9999 := Classical.byContradiction fun c => q1 (Or.inl c)
    have hli : nI 1 ≤ life ∧ life ≤ nI 60 := Classical.byContradiction fun c => q1 (Or.inr c)
    have hg12 : gz < 12 := by omega
    exact ⟨_, upd (upd V 11 (nI (xol ol sz))) 12 (nI (xsz sz)), E, P, xT (xT (xT T 0 (fun _ => nI (gz + 1))) 1 (upd (T 1) gz price)) 2 (upd (T 2) gz life), Ts, Tt, xupS S ((ol + sz) % 4) T, upd M 0 (nI (if sz = 4 then 4 else sz + 1)), xT (xT Z 0 (zaddg (Z 0) price life gz)) 1 (zrec (Z 0) (Z 1) sz), h.act v11 v12 hol hsz ⟨_, _, _, _, _, _, rAddGood hN hg12 hli⟩ rfl rfl rfl rfl rfl rfl rfl rfl rfl rfl, (l_X9_addGoods l dC dI cI cF cC cZ cQ cS b o sn tr ad V E P T Ts Tt S ol sz gz price life (by first | assumption | omega) (by first | assumption | omega) (by first | assumption | omega) (by first | assumption | omega) (by first | assumption | omega) (by first | assumption | omega) (by first | assumption | omega) (by first | assumption | omega)), (l_X10_addGoods l dC dI cI cF cC cZ cQ cS bm M Z sz price life gz (by first | assumption | omega) (by first | assumption | omega) (by first | assumption | omega) (by first | assumption | omega) (by first | assumption | omega) (by first | assumption | omega)).r rfl⟩
  · exact ⟨_, V, E, P, T, Ts, Tt, S, M, Z, h, (l_X9_addGoode l dC dI cI cF cC cZ cQ cS b o sn tr ad V E P T Ts Tt S gz price life (by first | assumption | omega) (by first | assumption | omega) (by first | assumption | omega)), (l_X10_addGoode l dC dI cI cF cC cZ cQ cS bm M Z price life gz (by first | assumption | omega) (by first | assumption | omega) (by first | assumption | omega)).r rfl⟩
set_option maxHeartbeats 4000000 in
set_option maxRecDepth 100000 in
theorem P_setPrice (h : Rel V E T Ts S M Z) (gq pv : Int32) : Pair l dC dI cI cF cC cZ cQ cS b o sn tr ad bm yX9_setPrice wsX9_setPrice yX10_setPrice wsX10_setPrice [.int gq, .int pv] V E P T Ts Tt S M Z := by
  obtain ⟨⟨gz, bz, oz, tk, lz, nx, hN⟩, ⟨ol, sz, v11, v12, m0, hH⟩, hK, tl, htl, v0, m2, htx⟩ := id h
  have hol : ol < 4 := hH.1
  have hsz : sz ≤ 4 := hH.2.1
  have hgz : gz ≤ 12 := hN.1.1.1
  have hbz : bz ≤ 40 := hN.1.1.2.1
  have hoz : oz ≤ 30 := hN.1.1.2.2.1
  have hlz : lz ≤ 10 := hN.1.1.2.2.2.1
  have hnx : nx < 10 := hN.1.1.2.2.2.2.1
  have c0 : T 0 0 = nI gz := hN.1.2.1.1
  have c5 : T 5 0 = nI bz := hN.1.2.1.2.1
  have c16 : T 16 0 = nI oz := hN.1.2.1.2.2.1
  have c17 : T 17 0 = nI tk := hN.1.2.1.2.2.2.1
  have c32 : T 32 0 = nI lz := hN.1.2.1.2.2.2.2.1
  have c33 : T 33 0 = nI nx := hN.1.2.1.2.2.2.2.2
  have a1 : Z 0 1 = nI gz := hN.1.2.2.1.1
  have a2 : Z 0 2 = nI bz := hN.1.2.2.1.2.1
  have a3 : Z 0 3 = nI oz := hN.1.2.2.1.2.2.1
  have a8 : Z 0 8 = nI tk := hN.1.2.2.1.2.2.2.1
  have a9 : Z 0 9 = nI lz := hN.1.2.2.1.2.2.2.2.1
  have a40 : T 40 0 = Z 0 0 := hN.1.2.2.1.2.2.2.2.2.1
  have a39 : T 39 0 = Z 0 7 := hN.1.2.2.1.2.2.2.2.2.2
  by_cases hg : xhas gq gz
  · obtain ⟨kg, hk, rfl⟩ := xhas_n hg (by omega)
    have e0 : T 1 kg = zG (Z 0) kg 0 := (hN.2.1 kg (by omega)).1
    by_cases he : eSetPrice pv (T 1 kg) = nI 0
    · obtain ⟨q1, hne⟩ := xif2_ok (by decide) (by decide) he
      have hpr := Classical.not_not.mp q1
      have hne2 : ¬ zG (Z 0) kg 0 = pv := by rw [← e0]; exact hne
      exact ⟨_, upd (upd V 11 (nI (xol ol sz))) 12 (nI (xsz sz)), E, P, xT (xT T 0 (fun _ => nI gz)) 1 (upd (T 1) kg pv), Ts, Tt, xupS S ((ol + sz) % 4) T, upd M 0 (nI (if sz = 4 then 4 else sz + 1)), xT (xT Z 0 (upd (Z 0) (10 + 7 * kg + 0) pv)) 1 (zrec (Z 0) (Z 1) sz), h.act v11 v12 hol hsz ⟨_, _, _, _, _, _, rSetPrice hN hk⟩ rfl rfl rfl rfl rfl rfl rfl rfl rfl rfl, (l_X9_setPrices l dC dI cI cF cC cZ cQ cS b o sn tr ad V E P T Ts Tt S ol sz gz kg pv (by first | assumption | omega) (by first | assumption | omega) (by first | assumption | omega) (by first | assumption | omega) (by first | assumption | omega) (by first | assumption | omega) (by first | assumption | omega) (by first | assumption | omega) (by first | assumption | omega)), (l_X10_setPrices l dC dI cI cF cC cZ cQ cS bm M Z sz gz kg pv (by first | assumption | omega) (by first | assumption | omega) (by first | assumption | omega) (by first | assumption | omega) (by first | assumption | omega) (by first | assumption | omega) (by first | assumption | omega)).r e0.symm⟩
    · have he2 : ¬ eSetPrice pv (zG (Z 0) kg 0) = nI 0 := by rw [← e0]; exact he
      exact ⟨_, V, E, P, T, Ts, Tt, S, M, Z, h, (l_X9_setPricee l dC dI cI cF cC cZ cQ cS b o sn tr ad V E P T Ts Tt S gz kg pv (by first | assumption | omega) (by first | assumption | omega) (by first | assumption | omega) (by first | assumption | omega)), (l_X10_setPricee l dC dI cI cF cC cZ cQ cS bm M Z gz kg pv (by first | assumption | omega) (by first | assumption | omega) (by first | assumption | omega) (by first | assumption | omega)).r (by rw [e0])⟩
  · exact ⟨_, V, E, P, T, Ts, Tt, S, M, Z, h, (l_X9_setPriceu l dC dI cI cF cC cZ cQ cS b o sn tr ad V E P T Ts Tt S gz gq pv (by first | assumption | omega) (by first | assumption | omega) (by first | assumption | omega)), (l_X10_setPriceu l dC dI cI cF cC cZ cQ cS bm M Z gz gq pv (by first | assumption | omega) (by first | assumption | omega) (by first | assumption | omega)).r rfl⟩
set_option maxHeartbeats 4000000 in
set_option maxRecDepth 100000 in
theorem P_addSubstitute (h : Rel V E T Ts S M Z) (gq sq pv : Int32) : Pair l dC dI cI cF cC cZ cQ cS b o sn tr ad bm yX9_addSubstitute wsX9_addSubstitute yX10_addSubstitute wsX10_addSubstitute [.int gq, .int sq, .int pv] V E P T Ts Tt S M Z := by
  obtain ⟨⟨gz, bz, oz, tk, lz, nx, hN⟩, ⟨ol, sz, v11, v12, m0, hH⟩, hK, tl, htl, v0, m2, htx⟩ := id h
  have hol : ol < 4 := hH.1
  have hsz : sz ≤ 4 := hH.2.1
  have hgz : gz ≤ 12 := hN.1.1.1
  have hbz : bz ≤ 40 := hN.1.1.2.1
  have hoz : oz ≤ 30 := hN.1.1.2.2.1
  have hlz : lz ≤ 10 := hN.1.1.2.2.2.1
  have hnx : nx < 10 := hN.1.1.2.2.2.2.1
  have c0 : T 0 0 = nI gz := hN.1.2.1.1
  have c5 : T 5 0 = nI bz := hN.1.2.1.2.1
  have c16 : T 16 0 = nI oz := hN.1.2.1.2.2.1
  have c17 : T 17 0 = nI tk := hN.1.2.1.2.2.2.1
  have c32 : T 32 0 = nI lz := hN.1.2.1.2.2.2.2.1
  have c33 : T 33 0 = nI nx := hN.1.2.1.2.2.2.2.2
  have a1 : Z 0 1 = nI gz := hN.1.2.2.1.1
  have a2 : Z 0 2 = nI bz := hN.1.2.2.1.2.1
  have a3 : Z 0 3 = nI oz := hN.1.2.2.1.2.2.1
  have a8 : Z 0 8 = nI tk := hN.1.2.2.1.2.2.2.1
  have a9 : Z 0 9 = nI lz := hN.1.2.2.1.2.2.2.2.1
  have a40 : T 40 0 = Z 0 0 := hN.1.2.2.1.2.2.2.2.2.1
  have a39 : T 39 0 = Z 0 7 := hN.1.2.2.1.2.2.2.2.2.2
  by_cases he : eAsU gq sq gz = nI 0
  · have q0 := xif1_ok (by decide) he
    have hg1 : xhas gq gz := Classical.byContradiction fun c => q0 (Or.inl c)
    have hg2 : xhas sq gz := Classical.byContradiction fun c => q0 (Or.inr c)
    obtain ⟨kg, hk, rfl⟩ := xhas_n hg1 (by omega)
    obtain ⟨ks, hks, rfl⟩ := xhas_n hg2 (by omega)
    obtain ⟨-, -, -, lm, hl4, -, l3, l2, lj⟩ := hN.2.1 kg (by omega)
    by_cases hbad : kg = ks ∨ ¬ (nI 0 ≤ pv ∧ pv ≤ nI lm)
    · exact ⟨_, V, E, P, T, Ts, Tt, S, M, Z, h, (l_X9_addSubstituteb l dC dI cI cF cC cZ cQ cS b o sn tr ad V E P T Ts Tt S gz kg ks lm pv (by first | assumption | omega) (by first | assumption | omega) (by first | assumption | omega) (by first | assumption | omega) (by first | assumption | omega) (by first | assumption | omega) (by first | assumption | omega)), (l_X10_addSubstituteb l dC dI cI cF cC cZ cQ cS bm M Z gz kg ks lm pv (by first | assumption | omega) (by first | assumption | omega) (by first | assumption | omega) (by first | assumption | omega) (by first | assumption | omega) (by first | assumption | omega) (by first | assumption | omega)).r rfl⟩
    · have hkk : ¬ kg = ks := fun c => hbad (Or.inl c)
      have hw : nI 0 ≤ pv ∧ pv ≤ nI lm := Classical.byContradiction fun c => hbad (Or.inr c)
      obtain ⟨pl, -, hpl, rfl⟩ := xnat_in (by decide) (by omega) hw
      have hiff : ∀ j, j < lm → (T 4 (kg * 4 + j) = nI ks ↔ Z 0 (10 + 7 * kg + 3 + j) = nI ks) := fun j hj => by
        obtain ⟨e, -, -, e3, e4⟩ := lj j hj
        rw [e3, e4]
      by_cases hex : ∃ j, j < lm ∧ T 4 (kg * 4 + j) = nI ks
      · have hex2 : ∃ j, j < lm ∧ Z 0 (10 + 7 * kg + 3 + j) = nI ks := by
          obtain ⟨j, j1, j2⟩ := hex
          exact ⟨j, j1, (hiff j j1).mp j2⟩
        exact ⟨_, V, E, P, T, Ts, Tt, S, M, Z, h, (l_X9_addSubstituten l dC dI cI cF cC cZ cQ cS b o sn tr ad V E P T Ts Tt S gz kg ks lm pl (by first | assumption | omega) (by first | assumption | omega) (by first | assumption | omega) (by first | assumption | omega) (by first | assumption | omega) (by first | assumption | omega) (by first | assumption | omega) (by first | assumption | omega) (by first | assumption | omega)), (l_X10_addSubstituten l dC dI cI cF cC cZ cQ cS bm M Z gz kg ks lm pl (by first | assumption | omega) (by first | assumption | omega) (by first | assumption | omega) (by first | assumption | omega) (by first | assumption | omega) (by first | assumption | omega) (by first | assumption | omega) (by first | assumption | omega) (by first | assumption | omega)).r rfl⟩
      · have hex2 : ¬ ∃ j, j < lm ∧ Z 0 (10 + 7 * kg + 3 + j) = nI ks := fun ⟨j, j1, j2⟩ => hex ⟨j, j1, (hiff j j1).mpr j2⟩
        by_cases hf4 : lm = 4
        · exact ⟨_, V, E, P, T, Ts, Tt, S, M, Z, h, (l_X9_addSubstitutef l dC dI cI cF cC cZ cQ cS b o sn tr ad V E P T Ts Tt S gz kg ks lm pl (by first | assumption | omega) (by first | assumption | omega) (by first | assumption | omega) (by first | assumption | omega) (by first | assumption | omega) (by first | assumption | omega) (by first | assumption | omega) (by first | assumption | omega) (by first | assumption | omega) (by first | assumption | omega)), (l_X10_addSubstitutef l dC dI cI cF cC cZ cQ cS bm M Z gz kg ks lm pl (by first | assumption | omega) (by first | assumption | omega) (by first | assumption | omega) (by first | assumption | omega) (by first | assumption | omega) (by first | assumption | omega) (by first | assumption | omega) (by first | assumption | omega) (by first | assumption | omega) (by first | assumption | omega)).r rfl⟩
        · have hl3 : lm < 4 := by omega
          exact ⟨_, upd (upd V 11 (nI (xol ol sz))) 12 (nI (xsz sz)), E, P, xT (xT (xT T 0 (fun _ => nI gz)) 3 (upd (T 3) kg (nI (lm + 1)))) 4 (xins (T 4) (kg * 4) lm pl (nI ks)), Ts, Tt, xupS S ((ol + sz) % 4) T, upd M 0 (nI (if sz = 4 then 4 else sz + 1)), xT (xT Z 0 (upd (xins (Z 0) (10 + 7 * kg + 3) lm pl (nI ks)) (10 + 7 * kg + 2) (nI (lm + 1)))) 1 (zrec (Z 0) (Z 1) sz), h.act v11 v12 hol hsz ⟨_, _, _, _, _, _, rAddSub hN hk hks (fun c => hkk c.symm) l3 hl3 hpl⟩ rfl rfl rfl rfl rfl rfl rfl rfl rfl rfl, (l_X9_addSubstitutes l dC dI cI cF cC cZ cQ cS b o sn tr ad V E P T Ts Tt S ol sz gz kg ks lm pl (by first | assumption | omega) (by first | assumption | omega) (by first | assumption | omega) (by first | assumption | omega) (by first | assumption | omega) (by first | assumption | omega) (by first | assumption | omega) (by first | assumption | omega) (by first | assumption | omega) (by first | assumption | omega) (by first | assumption | omega) (by first | assumption | omega) (by first | assumption | omega) (by first | assumption | omega)), (l_X10_addSubstitutes l dC dI cI cF cC cZ cQ cS bm M Z sz gz kg ks lm pl (by first | assumption | omega) (by first | assumption | omega) (by first | assumption | omega) (by first | assumption | omega) (by first | assumption | omega) (by first | assumption | omega) (by first | assumption | omega) (by first | assumption | omega) (by first | assumption | omega) (by first | assumption | omega) (by first | assumption | omega) (by first | assumption | omega) (by first | assumption | omega)).r rfl⟩
  · exact ⟨_, V, E, P, T, Ts, Tt, S, M, Z, h, (l_X9_addSubstituteu l dC dI cI cF cC cZ cQ cS b o sn tr ad V E P T Ts Tt S gz gq sq pv (by first | assumption | omega) (by first | assumption | omega) (by first | assumption | omega)), (l_X10_addSubstituteu l dC dI cI cF cC cZ cQ cS bm M Z gz gq sq pv (by first | assumption | omega) (by first | assumption | omega) (by first | assumption | omega)).r rfl⟩
set_option maxHeartbeats 4000000 in
set_option maxRecDepth 100000 in
theorem P_removeSubstitute (h : Rel V E T Ts S M Z) (gq v : Int32) : Pair l dC dI cI cF cC cZ cQ cS b o sn tr ad bm yX9_removeSubstitute wsX9_removeSubstitute yX10_removeSubstitute wsX10_removeSubstitute [.int gq, .int v] V E P T Ts Tt S M Z := by
  obtain ⟨⟨gz, bz, oz, tk, lz, nx, hN⟩, ⟨ol, sz, v11, v12, m0, hH⟩, hK, tl, htl, v0, m2, htx⟩ := id h
  have hol : ol < 4 := hH.1
  have hsz : sz ≤ 4 := hH.2.1
  have hgz : gz ≤ 12 := hN.1.1.1
  have hbz : bz ≤ 40 := hN.1.1.2.1
  have hoz : oz ≤ 30 := hN.1.1.2.2.1
  have hlz : lz ≤ 10 := hN.1.1.2.2.2.1
  have hnx : nx < 10 := hN.1.1.2.2.2.2.1
  have c0 : T 0 0 = nI gz := hN.1.2.1.1
  have c5 : T 5 0 = nI bz := hN.1.2.1.2.1
  have c16 : T 16 0 = nI oz := hN.1.2.1.2.2.1
  have c17 : T 17 0 = nI tk := hN.1.2.1.2.2.2.1
  have c32 : T 32 0 = nI lz := hN.1.2.1.2.2.2.2.1
  have c33 : T 33 0 = nI nx := hN.1.2.1.2.2.2.2.2
  have a1 : Z 0 1 = nI gz := hN.1.2.2.1.1
  have a2 : Z 0 2 = nI bz := hN.1.2.2.1.2.1
  have a3 : Z 0 3 = nI oz := hN.1.2.2.1.2.2.1
  have a8 : Z 0 8 = nI tk := hN.1.2.2.1.2.2.2.1
  have a9 : Z 0 9 = nI lz := hN.1.2.2.1.2.2.2.2.1
  have a40 : T 40 0 = Z 0 0 := hN.1.2.2.1.2.2.2.2.2.1
  have a39 : T 39 0 = Z 0 7 := hN.1.2.2.1.2.2.2.2.2.2
  by_cases hg : xhas gq gz
  · obtain ⟨kg, hk, rfl⟩ := xhas_n hg (by omega)
    obtain ⟨-, -, -, lm, hl4, -, l3, l2, lj⟩ := hN.2.1 kg (by omega)
    by_cases he : ePl v (T 3 kg) = nI 0
    · obtain ⟨q1, q2⟩ := xif2_ok (by decide) (by decide) he
      obtain ⟨pl, hpb, rfl⟩ := nI_of q1
      have hpl : pl < lm := by
        rw [l3] at q2
        exact Nat.lt_of_not_le fun c => q2 (nI_le c hpb)
      obtain ⟨e, -, -, e3, e4⟩ := lj pl hpl
      exact ⟨_, upd (upd V 11 (nI (xol ol sz))) 12 (nI (xsz sz)), E, P, xT (xT (xT T 0 (fun _ => nI gz)) 3 (upd (T 3) kg (nI (lm - 1)))) 4 (xshl (T 4) (kg * 4) pl (lm - 1)), Ts, Tt, xupS S ((ol + sz) % 4) T, upd M 0 (nI (if sz = 4 then 4 else sz + 1)), xT (xT Z 0 (zrem (Z 0) kg pl lm)) 1 (zrec (Z 0) (Z 1) sz), h.act v11 v12 hol hsz ⟨_, _, _, _, _, _, rRemSub hN hk l3 hl4 hpl⟩ rfl rfl rfl rfl rfl rfl rfl rfl rfl rfl, (l_X9_removeSubstitutes l dC dI cI cF cC cZ cQ cS b o sn tr ad V E P T Ts Tt S ol sz gz kg lm pl (by first | assumption | omega) (by first | assumption | omega) (by first | assumption | omega) (by first | assumption | omega) (by first | assumption | omega) (by first | assumption | omega) (by first | assumption | omega) (by first | assumption | omega) (by first | assumption | omega) (by first | assumption | omega)), (l_X10_removeSubstitutes l dC dI cI cF cC cZ cQ cS bm M Z sz gz kg lm pl (by first | assumption | omega) (by first | assumption | omega) (by first | assumption | omega) (by first | assumption | omega) (by first | assumption | omega) (by first | assumption | omega) (by first | assumption | omega) (by first | assumption | omega)).r (by rw [e3]; exact e4)⟩
    · have he2 : ¬ ePl v (zG (Z 0) kg 2) = nI 0 := by rw [l2, ← l3]; exact he
      exact ⟨_, V, E, P, T, Ts, Tt, S, M, Z, h, (l_X9_removeSubstitutee l dC dI cI cF cC cZ cQ cS b o sn tr ad V E P T Ts Tt S gz kg v (by first | assumption | omega) (by first | assumption | omega) (by first | assumption | omega) he), (l_X10_removeSubstitutee l dC dI cI cF cC cZ cQ cS bm M Z gz kg v (by first | assumption | omega) (by first | assumption | omega) (by first | assumption | omega) he2).r (by rw [l2, ← l3])⟩
  · exact ⟨_, V, E, P, T, Ts, Tt, S, M, Z, h, (l_X9_removeSubstituteu l dC dI cI cF cC cZ cQ cS b o sn tr ad V E P T Ts Tt S gz gq v (by first | assumption | omega) (by first | assumption | omega) (by first | assumption | omega)), (l_X10_removeSubstituteu l dC dI cI cF cC cZ cQ cS bm M Z gz gq v (by first | assumption | omega) (by first | assumption | omega) (by first | assumption | omega)).r rfl⟩
set_option maxHeartbeats 4000000 in
set_option maxRecDepth 100000 in
theorem P_substitute (h : Rel V E T Ts S M Z) (gq v : Int32) : Pair l dC dI cI cF cC cZ cQ cS b o sn tr ad bm yX9_substitute wsX9_substitute yX10_substitute wsX10_substitute [.int gq, .int v] V E P T Ts Tt S M Z := by
  obtain ⟨⟨gz, bz, oz, tk, lz, nx, hN⟩, ⟨ol, sz, v11, v12, m0, hH⟩, hK, tl, htl, v0, m2, htx⟩ := id h
  have hol : ol < 4 := hH.1
  have hsz : sz ≤ 4 := hH.2.1
  have hgz : gz ≤ 12 := hN.1.1.1
  have hbz : bz ≤ 40 := hN.1.1.2.1
  have hoz : oz ≤ 30 := hN.1.1.2.2.1
  have hlz : lz ≤ 10 := hN.1.1.2.2.2.1
  have hnx : nx < 10 := hN.1.1.2.2.2.2.1
  have c0 : T 0 0 = nI gz := hN.1.2.1.1
  have c5 : T 5 0 = nI bz := hN.1.2.1.2.1
  have c16 : T 16 0 = nI oz := hN.1.2.1.2.2.1
  have c17 : T 17 0 = nI tk := hN.1.2.1.2.2.2.1
  have c32 : T 32 0 = nI lz := hN.1.2.1.2.2.2.2.1
  have c33 : T 33 0 = nI nx := hN.1.2.1.2.2.2.2.2
  have a1 : Z 0 1 = nI gz := hN.1.2.2.1.1
  have a2 : Z 0 2 = nI bz := hN.1.2.2.1.2.1
  have a3 : Z 0 3 = nI oz := hN.1.2.2.1.2.2.1
  have a8 : Z 0 8 = nI tk := hN.1.2.2.1.2.2.2.1
  have a9 : Z 0 9 = nI lz := hN.1.2.2.1.2.2.2.2.1
  have a40 : T 40 0 = Z 0 0 := hN.1.2.2.1.2.2.2.2.2.1
  have a39 : T 39 0 = Z 0 7 := hN.1.2.2.1.2.2.2.2.2.2
  by_cases hg : xhas gq gz
  · obtain ⟨kg, hk, rfl⟩ := xhas_n hg (by omega)
    obtain ⟨-, -, -, lm, hl4, -, l3, l2, lj⟩ := hN.2.1 kg (by omega)
    by_cases he : ePl v (T 3 kg) = nI 0
    · obtain ⟨q1, q2⟩ := xif2_ok (by decide) (by decide) he
      obtain ⟨pl, hpb, rfl⟩ := nI_of q1
      have hpl : pl < lm := by
        rw [l3] at q2
        exact Nat.lt_of_not_le fun c => q2 (nI_le c hpb)
      obtain ⟨e, -, -, e3, e4⟩ := lj pl hpl
      exact ⟨_, V, E, P, T, Ts, Tt, S, M, Z, h, (l_X9_substitutes l dC dI cI cF cC cZ cQ cS b o sn tr ad V E P T Ts Tt S gz kg lm pl (by first | assumption | omega) (by first | assumption | omega) (by first | assumption | omega) (by first | assumption | omega) (by first | assumption | omega) (by first | assumption | omega)), (l_X10_substitutes l dC dI cI cF cC cZ cQ cS bm M Z gz kg lm pl (by first | assumption | omega) (by first | assumption | omega) (by first | assumption | omega) (by first | assumption | omega) (by first | assumption | omega) (by first | assumption | omega)).r (by rw [e3]; unfold zG; rw [show 10 + 7 * kg + (3 + pl) = 10 + 7 * kg + 3 + pl by omega]; exact e4)⟩
    · have he2 : ¬ ePl v (zG (Z 0) kg 2) = nI 0 := by rw [l2, ← l3]; exact he
      exact ⟨_, V, E, P, T, Ts, Tt, S, M, Z, h, (l_X9_substitutee l dC dI cI cF cC cZ cQ cS b o sn tr ad V E P T Ts Tt S gz kg v (by first | assumption | omega) (by first | assumption | omega) (by first | assumption | omega) he), (l_X10_substitutee l dC dI cI cF cC cZ cQ cS bm M Z gz kg v (by first | assumption | omega) (by first | assumption | omega) (by first | assumption | omega) he2).r (by rw [l2, ← l3])⟩
  · exact ⟨_, V, E, P, T, Ts, Tt, S, M, Z, h, (l_X9_substituteu l dC dI cI cF cC cZ cQ cS b o sn tr ad V E P T Ts Tt S gz gq v (by first | assumption | omega) (by first | assumption | omega) (by first | assumption | omega)), (l_X10_substituteu l dC dI cI cF cC cZ cQ cS bm M Z gz gq v (by first | assumption | omega) (by first | assumption | omega) (by first | assumption | omega)).r rfl⟩
theorem xstLt {x : Int32} {m : Nat} (hm : m ≤ 100) : x < nI m ↔ x ≤ nI m - nI 1 := by
  rw [Int32.lt_iff_toInt_lt, Int32.le_iff_toInt_le, nI_subi (by omega) (by omega), nI_toInt (by omega)]
  omega
theorem xstGt {x : Int32} {m : Nat} (hm : m ≤ 100) : nI m < x ↔ nI m + nI 1 ≤ x := by
  rw [nI_add, Int32.lt_iff_toInt_lt, Int32.le_iff_toInt_le, nI_toInt (by omega), nI_toInt (by omega)]
  omega
theorem xstM {x : Int32} : (-1) < x ↔ nI 0 ≤ x := by
  rw [Int32.lt_iff_toInt_lt, Int32.le_iff_toInt_le, nI_toInt (by omega), show ((-1 : Int32)).toInt = -1 by decide]
  omega
set_option maxHeartbeats 4000000 in
set_option maxRecDepth 100000 in
theorem P_setStage (h : Rel V E T Ts S M Z) (sq mq mk : Int32) : Pair l dC dI cI cF cC cZ cQ cS b o sn tr ad bm yX9_setStage wsX9_setStage yX10_setStage wsX10_setStage [.int sq, .int mq, .int mk] V E P T Ts Tt S M Z := by
  obtain ⟨⟨gz, bz, oz, tk, lz, nx, hN⟩, ⟨ol, sz, v11, v12, m0, hH⟩, hK, tl, htl, v0, m2, htx⟩ := id h
  have hol : ol < 4 := hH.1
  have hsz : sz ≤ 4 := hH.2.1
  have hgz : gz ≤ 12 := hN.1.1.1
  have hbz : bz ≤ 40 := hN.1.1.2.1
  have hoz : oz ≤ 30 := hN.1.1.2.2.1
  have hlz : lz ≤ 10 := hN.1.1.2.2.2.1
  have hnx : nx < 10 := hN.1.1.2.2.2.2.1
  have c0 : T 0 0 = nI gz := hN.1.2.1.1
  have c5 : T 5 0 = nI bz := hN.1.2.1.2.1
  have c16 : T 16 0 = nI oz := hN.1.2.1.2.2.1
  have c17 : T 17 0 = nI tk := hN.1.2.1.2.2.2.1
  have c32 : T 32 0 = nI lz := hN.1.2.1.2.2.2.2.1
  have c33 : T 33 0 = nI nx := hN.1.2.1.2.2.2.2.2
  have a1 : Z 0 1 = nI gz := hN.1.2.2.1.1
  have a2 : Z 0 2 = nI bz := hN.1.2.2.1.2.1
  have a3 : Z 0 3 = nI oz := hN.1.2.2.1.2.2.1
  have a8 : Z 0 8 = nI tk := hN.1.2.2.1.2.2.2.1
  have a9 : Z 0 9 = nI lz := hN.1.2.2.1.2.2.2.2.1
  have a40 : T 40 0 = Z 0 0 := hN.1.2.2.1.2.2.2.2.2.1
  have a39 : T 39 0 = Z 0 7 := hN.1.2.2.1.2.2.2.2.2.2
  by_cases hw : nI 1 ≤ sq ∧ sq ≤ nI 3
  · obtain ⟨st, hs1, hs3, rfl⟩ := xnat_in (by decide) (by decide) hw
    have hst : 1 ≤ st ∧ st ≤ 3 := ⟨hs1, hs3⟩
    have hS := hN.2.2.2.2.2.1
    obtain ⟨p1, -, -, mp, mp1, mp2⟩ := hS (st - 1) (by omega)
    obtain ⟨s1, s2, ⟨ob, ob1, ob2⟩, ms, ms1, ms2⟩ := hS st (by omega)
    have hmo : T 31 st = nI ob := ob2
    have hz58 : Z 0 (958 + st) = nI ob := s2.symm.trans ob2
    have hz54 : Z 0 (954 + st) = T 30 st := s1.symm
    have u1 : mq < T 30 (st - 1) ↔ mq ≤ Z 0 (954 + st - 1) - nI 1 := by
      rw [show 954 + st - 1 = 954 + (st - 1) by omega, ← p1, mp2]
      exact xstLt mp1
    have u2 : (if st + 1 < 4 then T 30 (st + 1) else (-1)) < mq ↔ (if st = 3 then nI 0 else Z 0 (955 + st) + nI 1) ≤ mq := by
      by_cases c : st = 3
      · rw [if_pos c, if_neg (by omega)]
        exact xstM
      · obtain ⟨n1, -, -, mn, mn1, mn2⟩ := hS (st + 1) (by omega)
        rw [if_neg c, if_pos (by omega), show 955 + st = 954 + (st + 1) by omega, ← n1, mn2]
        exact xstGt mn1
    by_cases hb9 : (mq < T 30 (st - 1) ∧ (if st + 1 < 4 then T 30 (st + 1) else (-1)) < mq) ∧ nI 0 ≤ mk ∧ mk ≤ nI 1120403456
    · obtain ⟨hrm, hrg⟩ := hb9
      have hrm2 : (if st = 3 then nI 0 else Z 0 (955 + st) + nI 1) ≤ mq ∧ mq ≤ Z 0 (954 + st - 1) - nI 1 := ⟨u2.mp hrm.2, u1.mp hrm.1⟩
      obtain ⟨mb, -, hmb, rfl⟩ := xnat_in (by decide) (by decide) hrg
      by_cases hsame : T 30 st = mq ∧ ob = mb
      · obtain ⟨hsh, hbb⟩ := hsame
        exact ⟨_, V, E, P, T, Ts, Tt, S, M, Z, h, (l_X9_setStagee l dC dI cI cF cC cZ cQ cS b o sn tr ad V E P T Ts Tt S st mq mb ob (by first | assumption | omega) (by first | assumption | omega) (by first | assumption | omega) (by first | assumption | omega) (by first | assumption | omega) ob1 (by first | assumption | omega) (by first | assumption | omega) (by first | assumption | omega)), (l_X10_setStagee l dC dI cI cF cC cZ cQ cS bm M Z st mq (nI mb) (by first | assumption | omega) (by first | assumption | omega) (by first | assumption | omega) (by first | assumption | omega) (hz54.trans hsh) (by rw [hz58, hbb])).r rfl⟩
      · have hne2 : ¬ (Z 0 (954 + st) = mq ∧ Z 0 (958 + st) = nI mb) := fun ⟨e1, e2⟩ => hsame ⟨s1.trans e1, nI_inj (by omega) (by omega) (hz58.symm.trans e2)⟩
        have hmq : ∃ m : Nat, m ≤ 100 ∧ mq = nI m := by
          have lo : nI 0 ≤ mq := by
            have := hrm.2
            split at this
            · obtain ⟨-, -, -, mn, mn1, mn2⟩ := hS (st + 1) (by omega)
              rw [mn2] at this
              exact Int32.le_of_lt (Int32.lt_of_le_of_lt (nI_le (Nat.zero_le mn) (by omega)) this)
            · exact xstM.mp this
          have hi : mq ≤ nI 100 := by
            have := hrm.1
            rw [mp2] at this
            exact Int32.le_trans (Int32.le_of_lt this) (nI_le mp1 (by decide))
          obtain ⟨m, -, m2, m3⟩ := xnat_in (by decide) (by decide) ⟨lo, hi⟩
          exact ⟨m, m2, m3⟩
        exact ⟨_, upd (upd V 11 (nI (xol ol sz))) 12 (nI (xsz sz)), E, P, xT (xT T 30 (upd (T 30) st mq)) 31 (upd (T 31) st (nI mb)), Ts, Tt, xupS S ((ol + sz) % 4) T, upd M 0 (nI (if sz = 4 then 4 else sz + 1)), xT (xT Z 0 (upd (upd (Z 0) (954 + st) mq) (958 + st) (nI mb))) 1 (zrec (Z 0) (Z 1) sz), h.act v11 v12 hol hsz ⟨_, _, _, _, _, _, rSetStage hN hst hmb hmq⟩ rfl rfl rfl rfl rfl rfl rfl rfl rfl rfl, (l_X9_setStages l dC dI cI cF cC cZ cQ cS b o sn tr ad V E P T Ts Tt S ol sz st mq mb ob (by first | assumption | omega) (by first | assumption | omega) (by first | assumption | omega) (by first | assumption | omega) (by first | assumption | omega) (by first | assumption | omega) (by first | assumption | omega) (by first | assumption | omega) (by first | assumption | omega) ob1 (by first | assumption | omega) hsame), (l_X10_setStages l dC dI cI cF cC cZ cQ cS bm M Z sz st mq (nI mb) (by first | assumption | omega) (by first | assumption | omega) (by first | assumption | omega) (by first | assumption | omega) (by first | assumption | omega) (by first | assumption | omega) (by first | assumption | omega)).r hz54⟩
    · have hb2 : ¬ (((if st = 3 then nI 0 else Z 0 (955 + st) + nI 1) ≤ mq ∧ mq ≤ Z 0 (954 + st - 1) - nI 1) ∧ nI 0 ≤ mk ∧ mk ≤ nI 1120403456) := fun c => hb9 ⟨⟨u1.mpr c.1.2, u2.mpr c.1.1⟩, c.2⟩
      exact ⟨_, V, E, P, T, Ts, Tt, S, M, Z, h, (l_X9_setStageb l dC dI cI cF cC cZ cQ cS b o sn tr ad V E P T Ts Tt S st mq mk (by first | assumption | omega) (by first | assumption | omega) (by first | assumption | omega)), (l_X10_setStageb l dC dI cI cF cC cZ cQ cS bm M Z st mq mk (by first | assumption | omega) (by first | assumption | omega) (by first | assumption | omega)).r rfl⟩
  · exact ⟨_, V, E, P, T, Ts, Tt, S, M, Z, h, (l_X9_setStageu l dC dI cI cF cC cZ cQ cS b o sn tr ad V E P T Ts Tt S sq mq mk (by first | assumption | omega)), (l_X10_setStageu l dC dI cI cF cC cZ cQ cS bm M Z sq mq mk (by first | assumption | omega)).r rfl⟩
set_option maxHeartbeats 4000000 in
set_option maxRecDepth 100000 in
theorem P_set (h : Rel V E T Ts S M Z) (wh v : Int32) : Pair l dC dI cI cF cC cZ cQ cS b o sn tr ad bm yX9_set wsX9_set yX10_set wsX10_set [.int wh, .int v] V E P T Ts Tt S M Z := by
  obtain ⟨⟨gz, bz, oz, tk, lz, nx, hN⟩, ⟨ol, sz, v11, v12, m0, hH⟩, hK, tl, htl, v0, m2, htx⟩ := id h
  have hol : ol < 4 := hH.1
  have hsz : sz ≤ 4 := hH.2.1
  have hgz : gz ≤ 12 := hN.1.1.1
  have hbz : bz ≤ 40 := hN.1.1.2.1
  have hoz : oz ≤ 30 := hN.1.1.2.2.1
  have hlz : lz ≤ 10 := hN.1.1.2.2.2.1
  have hnx : nx < 10 := hN.1.1.2.2.2.2.1
  have c0 : T 0 0 = nI gz := hN.1.2.1.1
  have c5 : T 5 0 = nI bz := hN.1.2.1.2.1
  have c16 : T 16 0 = nI oz := hN.1.2.1.2.2.1
  have c17 : T 17 0 = nI tk := hN.1.2.1.2.2.2.1
  have c32 : T 32 0 = nI lz := hN.1.2.1.2.2.2.2.1
  have c33 : T 33 0 = nI nx := hN.1.2.1.2.2.2.2.2
  have a1 : Z 0 1 = nI gz := hN.1.2.2.1.1
  have a2 : Z 0 2 = nI bz := hN.1.2.2.1.2.1
  have a3 : Z 0 3 = nI oz := hN.1.2.2.1.2.2.1
  have a8 : Z 0 8 = nI tk := hN.1.2.2.1.2.2.2.1
  have a9 : Z 0 9 = nI lz := hN.1.2.2.1.2.2.2.2.1
  have a40 : T 40 0 = Z 0 0 := hN.1.2.2.1.2.2.2.2.2.1
  have a39 : T 39 0 = Z 0 7 := hN.1.2.2.1.2.2.2.2.2.2
  by_cases w0 : wh = nI 0
  · subst w0
    by_cases hw : nI 0 ≤ v ∧ v ≤ nI 2
    · have hs9 : ¬ xisset (nI 0) v = 0 := by
        have : xisset (nI 0) v = nI 1 := by
          unfold xisset
          rw [if_pos rfl, if_pos hw]
        rw [this]
        decide
      have e0 : Z 0 4 = T 38 0 := (hN.2.2.2.2.2.2.2 0 (by decide)).symm
      by_cases hv : T 38 0 = v
      · exact ⟨_, V, E, P, T, Ts, Tt, S, M, Z, h, (l_X9_sete l dC dI cI cF cC cZ cQ cS b o sn tr ad V E P T Ts Tt S 0 v (by decide) (by first | assumption | omega) (by first | assumption | omega)), (l_X10_sete0 l dC dI cI cF cC cZ cQ cS bm M Z v (by first | assumption | omega) (e0.trans hv)).r rfl⟩
      · exact ⟨_, upd (upd V 11 (nI (xol ol sz))) 12 (nI (xsz sz)), E, P, xT T 38 (upd (T 38) 0 v), Ts, Tt, xupS S ((ol + sz) % 4) T, upd M 0 (nI (if sz = 4 then 4 else sz + 1)), xT (xT Z 0 (upd (Z 0) 4 v)) 1 (zrec (Z 0) (Z 1) sz), h.act v11 v12 hol hsz ⟨_, _, _, _, _, _, rSet (wn := 0) hN (by decide) (fun c => by obtain ⟨m, -, q1, q2⟩ := xnat_in (by decide) (by decide) hw; exact ⟨m, q1, q2⟩)⟩ rfl rfl rfl rfl rfl rfl rfl rfl rfl rfl, (l_X9_sets l dC dI cI cF cC cZ cQ cS b o sn tr ad V E P T Ts Tt S ol sz 0 v (by first | assumption | omega) (by first | assumption | omega) (by first | assumption | omega) (by first | assumption | omega) (by decide) (by first | assumption | omega) (by first | assumption | omega)), (l_X10_sets0 l dC dI cI cF cC cZ cQ cS bm M Z sz v (by first | assumption | omega) (by first | assumption | omega) (by first | assumption | omega) (fun c => hv (e0.symm.trans c))).r e0⟩
    · have hbd : xisset (nI 0) v = 0 := by
        unfold xisset
        rw [if_pos rfl, if_neg hw]
        rfl
      exact ⟨_, V, E, P, T, Ts, Tt, S, M, Z, h, (l_X9_setb l dC dI cI cF cC cZ cQ cS b o sn tr ad V E P T Ts Tt S (nI 0) v (by first | assumption | omega)), (l_X10_setb0 l dC dI cI cF cC cZ cQ cS bm M Z v (by first | assumption | omega)).r rfl⟩
  by_cases w1 : wh = nI 1
  · subst w1
    by_cases hw : nI 1 ≤ v ∧ v ≤ nI 4
    · have hs9 : ¬ xisset (nI 1) v = 0 := by
        have : xisset (nI 1) v = nI 1 := by
          unfold xisset
          rw [if_neg (by decide : ¬ nI 1 = nI 0)]; rw [if_pos rfl, if_pos hw]
        rw [this]
        decide
      have e0 : Z 0 5 = T 38 1 := (hN.2.2.2.2.2.2.2 1 (by decide)).symm
      by_cases hv : T 38 1 = v
      · exact ⟨_, V, E, P, T, Ts, Tt, S, M, Z, h, (l_X9_sete l dC dI cI cF cC cZ cQ cS b o sn tr ad V E P T Ts Tt S 1 v (by decide) (by first | assumption | omega) (by first | assumption | omega)), (l_X10_sete1 l dC dI cI cF cC cZ cQ cS bm M Z v (by first | assumption | omega) (e0.trans hv)).r rfl⟩
      · exact ⟨_, upd (upd V 11 (nI (xol ol sz))) 12 (nI (xsz sz)), E, P, xT T 38 (upd (T 38) 1 v), Ts, Tt, xupS S ((ol + sz) % 4) T, upd M 0 (nI (if sz = 4 then 4 else sz + 1)), xT (xT Z 0 (upd (Z 0) 5 v)) 1 (zrec (Z 0) (Z 1) sz), h.act v11 v12 hol hsz ⟨_, _, _, _, _, _, rSet (wn := 1) hN (by decide) (fun c => absurd c (by decide))⟩ rfl rfl rfl rfl rfl rfl rfl rfl rfl rfl, (l_X9_sets l dC dI cI cF cC cZ cQ cS b o sn tr ad V E P T Ts Tt S ol sz 1 v (by first | assumption | omega) (by first | assumption | omega) (by first | assumption | omega) (by first | assumption | omega) (by decide) (by first | assumption | omega) (by first | assumption | omega)), (l_X10_sets1 l dC dI cI cF cC cZ cQ cS bm M Z sz v (by first | assumption | omega) (by first | assumption | omega) (by first | assumption | omega) (fun c => hv (e0.symm.trans c))).r e0⟩
    · have hbd : xisset (nI 1) v = 0 := by
        unfold xisset
        rw [if_neg (by decide : ¬ nI 1 = nI 0)]; rw [if_pos rfl, if_neg hw]
        rfl
      exact ⟨_, V, E, P, T, Ts, Tt, S, M, Z, h, (l_X9_setb l dC dI cI cF cC cZ cQ cS b o sn tr ad V E P T Ts Tt S (nI 1) v (by first | assumption | omega)), (l_X10_setb1 l dC dI cI cF cC cZ cQ cS bm M Z v (by first | assumption | omega)).r rfl⟩
  by_cases w2 : wh = nI 2
  · subst w2
    by_cases hw : nI 0 ≤ v ∧ v ≤ nI 999
    · have hs9 : ¬ xisset (nI 2) v = 0 := by
        have : xisset (nI 2) v = nI 1 := by
          unfold xisset
          rw [if_neg (by decide : ¬ nI 2 = nI 0)]; rw [if_neg (by decide : ¬ nI 2 = nI 1)]; rw [if_pos rfl, if_pos hw]
        rw [this]
        decide
      have e0 : Z 0 6 = T 38 2 := (hN.2.2.2.2.2.2.2 2 (by decide)).symm
      by_cases hv : T 38 2 = v
      · exact ⟨_, V, E, P, T, Ts, Tt, S, M, Z, h, (l_X9_sete l dC dI cI cF cC cZ cQ cS b o sn tr ad V E P T Ts Tt S 2 v (by decide) (by first | assumption | omega) (by first | assumption | omega)), (l_X10_sete2 l dC dI cI cF cC cZ cQ cS bm M Z v (by first | assumption | omega) (e0.trans hv)).r rfl⟩
      · exact ⟨_, upd (upd V 11 (nI (xol ol sz))) 12 (nI (xsz sz)), E, P, xT T 38 (upd (T 38) 2 v), Ts, Tt, xupS S ((ol + sz) % 4) T, upd M 0 (nI (if sz = 4 then 4 else sz + 1)), xT (xT Z 0 (upd (Z 0) 6 v)) 1 (zrec (Z 0) (Z 1) sz), h.act v11 v12 hol hsz ⟨_, _, _, _, _, _, rSet (wn := 2) hN (by decide) (fun c => absurd c (by decide))⟩ rfl rfl rfl rfl rfl rfl rfl rfl rfl rfl, (l_X9_sets l dC dI cI cF cC cZ cQ cS b o sn tr ad V E P T Ts Tt S ol sz 2 v (by first | assumption | omega) (by first | assumption | omega) (by first | assumption | omega) (by first | assumption | omega) (by decide) (by first | assumption | omega) (by first | assumption | omega)), (l_X10_sets2 l dC dI cI cF cC cZ cQ cS bm M Z sz v (by first | assumption | omega) (by first | assumption | omega) (by first | assumption | omega) (fun c => hv (e0.symm.trans c))).r e0⟩
    · have hbd : xisset (nI 2) v = 0 := by
        unfold xisset
        rw [if_neg (by decide : ¬ nI 2 = nI 0)]; rw [if_neg (by decide : ¬ nI 2 = nI 1)]; rw [if_pos rfl, if_neg hw]
        rfl
      exact ⟨_, V, E, P, T, Ts, Tt, S, M, Z, h, (l_X9_setb l dC dI cI cF cC cZ cQ cS b o sn tr ad V E P T Ts Tt S (nI 2) v (by first | assumption | omega)), (l_X10_setb2 l dC dI cI cF cC cZ cQ cS bm M Z v (by first | assumption | omega)).r rfl⟩
  have hbd : xisset wh v = 0 := by
    unfold xisset
    rw [if_neg w0, if_neg w1, if_neg w2]
    rfl
  exact ⟨_, V, E, P, T, Ts, Tt, S, M, Z, h, (l_X9_setb l dC dI cI cF cC cZ cQ cS b o sn tr ad V E P T Ts Tt S wh v (by first | assumption | omega)), (l_X10_setbx l dC dI cI cF cC cZ cQ cS bm M Z wh v (by first | assumption | omega) (by first | assumption | omega) (by first | assumption | omega)).r rfl⟩
set_option maxHeartbeats 4000000 in
set_option maxRecDepth 100000 in
theorem P_setRebate (h : Rel V E T Ts S M Z) (mk : Int32) : Pair l dC dI cI cF cC cZ cQ cS b o sn tr ad bm yX9_setRebate wsX9_setRebate yX10_setRebate wsX10_setRebate [.int mk] V E P T Ts Tt S M Z := by
  obtain ⟨⟨gz, bz, oz, tk, lz, nx, hN⟩, ⟨ol, sz, v11, v12, m0, hH⟩, hK, tl, htl, v0, m2, htx⟩ := id h
  have hol : ol < 4 := hH.1
  have hsz : sz ≤ 4 := hH.2.1
  have hgz : gz ≤ 12 := hN.1.1.1
  have hbz : bz ≤ 40 := hN.1.1.2.1
  have hoz : oz ≤ 30 := hN.1.1.2.2.1
  have hlz : lz ≤ 10 := hN.1.1.2.2.2.1
  have hnx : nx < 10 := hN.1.1.2.2.2.2.1
  have c0 : T 0 0 = nI gz := hN.1.2.1.1
  have c5 : T 5 0 = nI bz := hN.1.2.1.2.1
  have c16 : T 16 0 = nI oz := hN.1.2.1.2.2.1
  have c17 : T 17 0 = nI tk := hN.1.2.1.2.2.2.1
  have c32 : T 32 0 = nI lz := hN.1.2.1.2.2.2.2.1
  have c33 : T 33 0 = nI nx := hN.1.2.1.2.2.2.2.2
  have a1 : Z 0 1 = nI gz := hN.1.2.2.1.1
  have a2 : Z 0 2 = nI bz := hN.1.2.2.1.2.1
  have a3 : Z 0 3 = nI oz := hN.1.2.2.1.2.2.1
  have a8 : Z 0 8 = nI tk := hN.1.2.2.1.2.2.2.1
  have a9 : Z 0 9 = nI lz := hN.1.2.2.1.2.2.2.2.1
  have a40 : T 40 0 = Z 0 0 := hN.1.2.2.1.2.2.2.2.2.1
  have a39 : T 39 0 = Z 0 7 := hN.1.2.2.1.2.2.2.2.2.2
  by_cases hw : nI 0 ≤ mk ∧ mk ≤ nI 1106247680
  · obtain ⟨mb, -, hmb, rfl⟩ := xnat_in (by decide) (by decide) hw
    obtain ⟨ob, ob1, hro⟩ := hN.1.2.2.2.1
    by_cases hbb : ob = mb
    · exact ⟨_, V, E, P, T, Ts, Tt, S, M, Z, h, (l_X9_setRebatee l dC dI cI cF cC cZ cQ cS b o sn tr ad V E P T Ts Tt S mb ob (by first | assumption | omega) (by omega) (by omega) (by first | assumption | omega) (by first | assumption | omega)), (l_X10_setRebatee l dC dI cI cF cC cZ cQ cS bm M Z (nI mb) (by first | assumption | omega) (by rw [← a39, hro, hbb])).r rfl⟩
    · exact ⟨_, upd (upd V 11 (nI (xol ol sz))) 12 (nI (xsz sz)), E, P, xT T 39 (fun _ => (nI mb)), Ts, Tt, xupS S ((ol + sz) % 4) T, upd M 0 (nI (if sz = 4 then 4 else sz + 1)), xT (xT Z 0 (upd (Z 0) 7 (nI mb))) 1 (zrec (Z 0) (Z 1) sz), h.act v11 v12 hol hsz ⟨_, _, _, _, _, _, rSetRebate hN hmb⟩ rfl rfl rfl rfl rfl rfl rfl rfl rfl rfl, (l_X9_setRebates l dC dI cI cF cC cZ cQ cS b o sn tr ad V E P T Ts Tt S ol sz mb ob (by first | assumption | omega) (by first | assumption | omega) (by first | assumption | omega) (by first | assumption | omega) (by first | assumption | omega) (by omega) (by omega) (by first | assumption | omega) (by first | assumption | omega)), (l_X10_setRebates l dC dI cI cF cC cZ cQ cS bm M Z sz (nI mb) (by first | assumption | omega) (by first | assumption | omega) (by first | assumption | omega) (fun c => hbb (nI_inj (by omega) (by omega) (hro.symm.trans (a39.trans c))))).r rfl⟩
  · exact ⟨_, V, E, P, T, Ts, Tt, S, M, Z, h, (l_X9_setRebateb l dC dI cI cF cC cZ cQ cS b o sn tr ad V E P T Ts Tt S mk (by first | assumption | omega)), (l_X10_setRebateb l dC dI cI cF cC cZ cQ cS bm M Z mk (by first | assumption | omega)).r rfl⟩
set_option maxHeartbeats 4000000 in
set_option maxRecDepth 100000 in
theorem P_bring (h : Rel V E T Ts S M Z) (gq un dl : Int32) : Pair l dC dI cI cF cC cZ cQ cS b o sn tr ad bm yX9_bring wsX9_bring yX10_bring wsX10_bring [.int gq, .int un, .int dl] V E P T Ts Tt S M Z := by
  obtain ⟨⟨gz, bz, oz, tk, lz, nx, hN⟩, ⟨ol, sz, v11, v12, m0, hH⟩, hK, tl, htl, v0, m2, htx⟩ := id h
  have hol : ol < 4 := hH.1
  have hsz : sz ≤ 4 := hH.2.1
  have hgz : gz ≤ 12 := hN.1.1.1
  have hbz : bz ≤ 40 := hN.1.1.2.1
  have hoz : oz ≤ 30 := hN.1.1.2.2.1
  have hlz : lz ≤ 10 := hN.1.1.2.2.2.1
  have hnx : nx < 10 := hN.1.1.2.2.2.2.1
  have c0 : T 0 0 = nI gz := hN.1.2.1.1
  have c5 : T 5 0 = nI bz := hN.1.2.1.2.1
  have c16 : T 16 0 = nI oz := hN.1.2.1.2.2.1
  have c17 : T 17 0 = nI tk := hN.1.2.1.2.2.2.1
  have c32 : T 32 0 = nI lz := hN.1.2.1.2.2.2.2.1
  have c33 : T 33 0 = nI nx := hN.1.2.1.2.2.2.2.2
  have a1 : Z 0 1 = nI gz := hN.1.2.2.1.1
  have a2 : Z 0 2 = nI bz := hN.1.2.2.1.2.1
  have a3 : Z 0 3 = nI oz := hN.1.2.2.1.2.2.1
  have a8 : Z 0 8 = nI tk := hN.1.2.2.1.2.2.2.1
  have a9 : Z 0 9 = nI lz := hN.1.2.2.1.2.2.2.2.1
  have a40 : T 40 0 = Z 0 0 := hN.1.2.2.1.2.2.2.2.2.1
  have a39 : T 39 0 = Z 0 7 := hN.1.2.2.1.2.2.2.2.2.2
  by_cases hg : xhas gq gz
  · obtain ⟨kg, hk, rfl⟩ := xhas_n hg (by omega)
    have e1 : T 2 kg = zG (Z 0) kg 1 := (hN.2.1 kg (by omega)).2.1
    by_cases he : eBring un dl (T 2 kg) bz = nI 0
    · obtain ⟨q1, q2⟩ := xif2_ok (by decide) (by decide) he
      have hsu := Classical.not_not.mp q1
      have hb40 : bz < 40 := by omega
      have hdl2 : nI 1 ≤ dl ∧ dl ≤ zG (Z 0) kg 1 := by rw [← e1]; exact hsu.2
      exact ⟨_, upd (upd V 11 (nI (xol ol sz))) 12 (nI (xsz sz)), E, P, xT (xT (xT (xT (xT (xT (xT (xT (xT (xT (xT (xT T 0 (fun _ => nI gz)) 5 (fun _ => nI (bz + 1))) 6 (upd (T 6) bz (nI kg))) 7 (upd (T 7) bz un)) 8 (upd (T 8) bz dl)) 9 (upd (T 9) bz un)) 32 (fun _ => nI (min (lz + 1) 10))) 33 (fun _ => nI ((nx + 1) % 10))) 34 (upd (T 34) nx (nI 0))) 35 (upd (T 35) nx (nI bz))) 36 (upd (T 36) nx un)) 37 (upd (T 37) nx (T 40 0)), Ts, Tt, xupS S ((ol + sz) % 4) T, upd M 0 (nI (if sz = 4 then 4 else sz + 1)), xT (xT Z 0 (zputb (Z 0) (nI kg) un dl bz)) 1 (zrec (Z 0) (Z 1) sz), h.act v11 v12 hol hsz ⟨_, _, _, _, _, _, rBring hN (Nat.le_refl _) hk hb40 hsu.1 hsu.2⟩ rfl rfl rfl rfl rfl rfl rfl rfl rfl rfl, (l_X9_brings l dC dI cI cF cC cZ cQ cS b o sn tr ad V E P T Ts Tt S ol sz gz bz lz nx kg un dl (by first | assumption | omega) (by first | assumption | omega) (by first | assumption | omega) (by first | assumption | omega) (by first | assumption | omega) (by first | assumption | omega) (by first | assumption | omega) (by first | assumption | omega) (by first | assumption | omega) (by first | assumption | omega) (by first | assumption | omega) (by first | assumption | omega) (by first | assumption | omega) (by first | assumption | omega)), (l_X10_brings l dC dI cI cF cC cZ cQ cS bm M Z sz gz bz kg un dl (by first | assumption | omega) (by first | assumption | omega) (by first | assumption | omega) (by first | assumption | omega) (by first | assumption | omega) (by first | assumption | omega) (by first | assumption | omega) hsu.1 hdl2).r rfl⟩
    · have he2 : ¬ eBring un dl (zG (Z 0) kg 1) bz = nI 0 := by rw [← e1]; exact he
      exact ⟨_, V, E, P, T, Ts, Tt, S, M, Z, h, (l_X9_bringe l dC dI cI cF cC cZ cQ cS b o sn tr ad V E P T Ts Tt S gz bz kg un dl (by first | assumption | omega) (by first | assumption | omega) (by first | assumption | omega) (by first | assumption | omega) (by first | assumption | omega) (by first | assumption | omega)), (l_X10_bringe l dC dI cI cF cC cZ cQ cS bm M Z gz kg un dl bz (by first | assumption | omega) (by first | assumption | omega) (by first | assumption | omega) (by first | assumption | omega) (by first | assumption | omega) (by first | assumption | omega)).r (by rw [e1])⟩
  · exact ⟨_, V, E, P, T, Ts, Tt, S, M, Z, h, (l_X9_bringu l dC dI cI cF cC cZ cQ cS b o sn tr ad V E P T Ts Tt S gz gq un dl (by first | assumption | omega) (by first | assumption | omega) (by first | assumption | omega)), (l_X10_bringu l dC dI cI cF cC cZ cQ cS bm M Z gz gq un dl (by first | assumption | omega) (by first | assumption | omega) (by first | assumption | omega)).r rfl⟩
set_option maxHeartbeats 4000000 in
set_option maxRecDepth 100000 in
theorem P_breakUnits (h : Rel V E T Ts S M Z) (bq un : Int32) : Pair l dC dI cI cF cC cZ cQ cS b o sn tr ad bm yX9_breakUnits wsX9_breakUnits yX10_breakUnits wsX10_breakUnits [.int bq, .int un] V E P T Ts Tt S M Z := by
  obtain ⟨⟨gz, bz, oz, tk, lz, nx, hN⟩, ⟨ol, sz, v11, v12, m0, hH⟩, hK, tl, htl, v0, m2, htx⟩ := id h
  have hol : ol < 4 := hH.1
  have hsz : sz ≤ 4 := hH.2.1
  have hgz : gz ≤ 12 := hN.1.1.1
  have hbz : bz ≤ 40 := hN.1.1.2.1
  have hoz : oz ≤ 30 := hN.1.1.2.2.1
  have hlz : lz ≤ 10 := hN.1.1.2.2.2.1
  have hnx : nx < 10 := hN.1.1.2.2.2.2.1
  have c0 : T 0 0 = nI gz := hN.1.2.1.1
  have c5 : T 5 0 = nI bz := hN.1.2.1.2.1
  have c16 : T 16 0 = nI oz := hN.1.2.1.2.2.1
  have c17 : T 17 0 = nI tk := hN.1.2.1.2.2.2.1
  have c32 : T 32 0 = nI lz := hN.1.2.1.2.2.2.2.1
  have c33 : T 33 0 = nI nx := hN.1.2.1.2.2.2.2.2
  have a1 : Z 0 1 = nI gz := hN.1.2.2.1.1
  have a2 : Z 0 2 = nI bz := hN.1.2.2.1.2.1
  have a3 : Z 0 3 = nI oz := hN.1.2.2.1.2.2.1
  have a8 : Z 0 8 = nI tk := hN.1.2.2.1.2.2.2.1
  have a9 : Z 0 9 = nI lz := hN.1.2.2.1.2.2.2.2.1
  have a40 : T 40 0 = Z 0 0 := hN.1.2.2.1.2.2.2.2.2.1
  have a39 : T 39 0 = Z 0 7 := hN.1.2.2.1.2.2.2.2.2.2
  by_cases hg : xhas bq bz
  · obtain ⟨kb, hk, rfl⟩ := xhas_n hg (by omega)
    obtain ⟨⟨-, -, -, e3, -⟩, -, b11, -⟩ := hN.2.2.1 kb (by omega)
    obtain ⟨-, -, us, us1, us2⟩ := b11 hk
    by_cases he : eBreak un (T 9 kb) = nI 0
    · obtain ⟨q1, q2⟩ := xif2_ok (by decide) (by decide) he
      have hun := Classical.not_not.mp q1
      have hsh : un ≤ T 9 kb := Classical.not_not.mp q2
      have hsh2 : un ≤ zB (Z 0) kb 3 := by rw [← e3]; exact hsh
      obtain ⟨m, -, m1, rfl⟩ := xnat_in (by decide) (by decide) hun
      have hm : m ≤ us := by
        rw [us2] at hsh
        exact (nI_le_iff (by omega) (by omega)).mp hsh
      have hr : zB (zwaste (Z 0) kb (nI m) 1) kb 3 = T 9 kb - nI m := by
        have := (zmove_at (z := Z 0) (b := kb) (w := 7) (kd := nI 3) (u := nI m) (by omega) (by omega) (by omega)).1
        rw [e3]
        exact this
      have key : RelN 1 gz bz oz tk (min (lz + 1) 10) ((nx + 1) % 10) (xT (xT (xT (xT (xT (xT (xT (xT (xT T 5 (fun _ => nI bz)) 9 (upd (T 9) kb ((T 9) kb - (nI m)))) 14 (upd (T 14) kb ((T 14) kb + (nI m)))) 32 (fun _ => nI (min (lz + 1) 10))) 33 (fun _ => nI ((nx + 1) % 10))) 34 (upd (T 34) nx (nI 3))) 35 (upd (T 35) nx (nI kb))) 36 (upd (T 36) nx (nI m))) 37 (upd (T 37) nx (T 40 0))) (zwaste (Z 0) kb (nI m) 1) :=
        RelN.congrT (rMove14 (kd := nI 3) hN hk us2 (by omega) hm) (fun k hk => by
          rcases hk with rfl | rfl | rfl | rfl | rfl | rfl | rfl | rfl <;> first | rfl | exact c0.symm | exact c5.symm | exact c16.symm | exact c17.symm | exact c32.symm | exact c33.symm) (fun k _ hk => by
          by_cases q : k = 9 ∨ k = 14 ∨ k = 34 ∨ k = 35 ∨ k = 36 ∨ k = 37
          · rcases q with rfl | rfl | rfl | rfl | rfl | rfl <;> rfl
          · exact Eq.trans (b := T k) (by rw [xT_ne _ _ (by omega), xT_ne _ _ (by omega), xT_ne _ _ (by omega), xT_ne _ _ (by omega), xT_ne _ _ (by omega), xT_ne _ _ (by omega), xT_ne _ _ (by omega), xT_ne _ _ (by omega), xT_ne _ _ (by omega)]) (by rw [xT_ne _ _ (by omega), xT_ne _ _ (by omega), xT_ne _ _ (by omega), xT_ne _ _ (by omega), xT_ne _ _ (by omega), xT_ne _ _ (by omega), xT_ne _ _ (by omega), xT_ne _ _ (by omega)]))
      exact ⟨_, upd (upd V 11 (nI (xol ol sz))) 12 (nI (xsz sz)), E, P, xT (xT (xT (xT (xT (xT (xT (xT (xT T 5 (fun _ => nI bz)) 9 (upd (T 9) kb ((T 9) kb - (nI m)))) 14 (upd (T 14) kb ((T 14) kb + (nI m)))) 32 (fun _ => nI (min (lz + 1) 10))) 33 (fun _ => nI ((nx + 1) % 10))) 34 (upd (T 34) nx (nI 3))) 35 (upd (T 35) nx (nI kb))) 36 (upd (T 36) nx (nI m))) 37 (upd (T 37) nx (T 40 0)), Ts, Tt, xupS S ((ol + sz) % 4) T, upd M 0 (nI (if sz = 4 then 4 else sz + 1)), xT (xT Z 0 (zwaste (Z 0) kb (nI m) 1)) 1 (zrec (Z 0) (Z 1) sz), h.act v11 v12 hol hsz ⟨_, _, _, _, _, _, key⟩ rfl rfl rfl rfl rfl rfl rfl rfl rfl rfl, (l_X9_breakUnitss l dC dI cI cF cC cZ cQ cS b o sn tr ad V E P T Ts Tt S ol sz bz lz nx kb (nI m) (by first | assumption | omega) (by first | assumption | omega) (by first | assumption | omega) (by first | assumption | omega) (by first | assumption | omega) (by first | assumption | omega) (by first | assumption | omega) (by first | assumption | omega) (by first | assumption | omega) (by first | assumption | omega) (by first | assumption | omega) (by first | assumption | omega) (by first | assumption | omega)), (l_X10_breakUnitss l dC dI cI cF cC cZ cQ cS bm M Z sz bz kb (nI m) (by first | assumption | omega) (by first | assumption | omega) (by first | assumption | omega) (by first | assumption | omega) (by first | assumption | omega) (by first | assumption | omega) (by first | assumption | omega)).r hr⟩
    · have he2 : ¬ eBreak un (zB (Z 0) kb 3) = nI 0 := by rw [← e3]; exact he
      exact ⟨_, V, E, P, T, Ts, Tt, S, M, Z, h, (l_X9_breakUnitse l dC dI cI cF cC cZ cQ cS b o sn tr ad V E P T Ts Tt S bz kb un (by first | assumption | omega) (by first | assumption | omega) (by first | assumption | omega) (by first | assumption | omega)), (l_X10_breakUnitse l dC dI cI cF cC cZ cQ cS bm M Z bz kb un (by first | assumption | omega) (by first | assumption | omega) (by first | assumption | omega) (by first | assumption | omega)).r (by rw [e3])⟩
  · exact ⟨_, V, E, P, T, Ts, Tt, S, M, Z, h, (l_X9_breakUnitsu l dC dI cI cF cC cZ cQ cS b o sn tr ad V E P T Ts Tt S bz bq un (by first | assumption | omega) (by first | assumption | omega) (by first | assumption | omega)), (l_X10_breakUnitsu l dC dI cI cF cC cZ cQ cS bm M Z bz bq un (by first | assumption | omega) (by first | assumption | omega) (by first | assumption | omega)).r rfl⟩
set_option maxHeartbeats 4000000 in
set_option maxRecDepth 100000 in
theorem P_recall (h : Rel V E T Ts S M Z) (gq : Int32) : Pair l dC dI cI cF cC cZ cQ cS b o sn tr ad bm yX9_recall wsX9_recall yX10_recall wsX10_recall [.int gq] V E P T Ts Tt S M Z := by
  obtain ⟨⟨gz, bz, oz, tk, lz, nx, hN⟩, ⟨ol, sz, v11, v12, m0, hH⟩, hK, tl, htl, v0, m2, htx⟩ := id h
  have hol : ol < 4 := hH.1
  have hsz : sz ≤ 4 := hH.2.1
  have hgz : gz ≤ 12 := hN.1.1.1
  have hbz : bz ≤ 40 := hN.1.1.2.1
  have hoz : oz ≤ 30 := hN.1.1.2.2.1
  have hlz : lz ≤ 10 := hN.1.1.2.2.2.1
  have hnx : nx < 10 := hN.1.1.2.2.2.2.1
  have c0 : T 0 0 = nI gz := hN.1.2.1.1
  have c5 : T 5 0 = nI bz := hN.1.2.1.2.1
  have c16 : T 16 0 = nI oz := hN.1.2.1.2.2.1
  have c17 : T 17 0 = nI tk := hN.1.2.1.2.2.2.1
  have c32 : T 32 0 = nI lz := hN.1.2.1.2.2.2.2.1
  have c33 : T 33 0 = nI nx := hN.1.2.1.2.2.2.2.2
  have a1 : Z 0 1 = nI gz := hN.1.2.2.1.1
  have a2 : Z 0 2 = nI bz := hN.1.2.2.1.2.1
  have a3 : Z 0 3 = nI oz := hN.1.2.2.1.2.2.1
  have a8 : Z 0 8 = nI tk := hN.1.2.2.1.2.2.2.1
  have a9 : Z 0 9 = nI lz := hN.1.2.2.1.2.2.2.2.1
  have a40 : T 40 0 = Z 0 0 := hN.1.2.2.1.2.2.2.2.2.1
  have a39 : T 39 0 = Z 0 7 := hN.1.2.2.1.2.2.2.2.2.2
  by_cases hg : xhas gq gz
  · obtain ⟨kg, hk, rfl⟩ := xhas_n hg (by omega)
    have e0 : xsumIf (T 6) (nI kg) (T 9) bz = zsumIf (Z 0) 3 (nI kg) bz := eSumIf fun k hk => ⟨(hN.2.2.1 k (by omega)).1.1, (hN.2.2.1 k (by omega)).1.2.2.2.1⟩
    by_cases he : eRecall (xsumIf (T 6) (nI kg) (T 9) bz) = nI 0
    · have hun := xif1_ok (by decide) he
      have hun2 : ¬ zsumIf (Z 0) 3 (nI kg) bz = 0 := by rw [← e0]; exact hun
      have key : RelN 1 gz bz oz tk (xwg (T 6) (nI kg) (T 40 0) (T 9, T 15, lz, nx, T 34, T 35, T 36, T 37) bz).2.2.1 (xwg (T 6) (nI kg) (T 40 0) (T 9, T 15, lz, nx, T 34, T 35, T 36, T 37) bz).2.2.2.1 (xT (xT (xT (xT (xT (xT (xT (xT (xT (xT T 0 (fun _ => nI gz)) 5 (fun _ => nI bz)) 9 ((xwg (T 6) (nI kg) (T 40 0) ((T 9), (T 15), lz, nx, (T 34), (T 35), (T 36), (T 37)) bz).1)) 15 ((xwg (T 6) (nI kg) (T 40 0) ((T 9), (T 15), lz, nx, (T 34), (T 35), (T 36), (T 37)) bz).2.1)) 32 (fun _ => nI ((xwg (T 6) (nI kg) (T 40 0) ((T 9), (T 15), lz, nx, (T 34), (T 35), (T 36), (T 37)) bz).2.2.1))) 33 (fun _ => nI ((xwg (T 6) (nI kg) (T 40 0) ((T 9), (T 15), lz, nx, (T 34), (T 35), (T 36), (T 37)) bz).2.2.2.1))) 34 ((xwg (T 6) (nI kg) (T 40 0) ((T 9), (T 15), lz, nx, (T 34), (T 35), (T 36), (T 37)) bz).2.2.2.2.1)) 35 ((xwg (T 6) (nI kg) (T 40 0) ((T 9), (T 15), lz, nx, (T 34), (T 35), (T 36), (T 37)) bz).2.2.2.2.2.1)) 36 ((xwg (T 6) (nI kg) (T 40 0) ((T 9), (T 15), lz, nx, (T 34), (T 35), (T 36), (T 37)) bz).2.2.2.2.2.2.1)) 37 ((xwg (T 6) (nI kg) (T 40 0) ((T 9), (T 15), lz, nx, (T 34), (T 35), (T 36), (T 37)) bz).2.2.2.2.2.2.2)) (zrc (Z 0) (nI kg) bz) :=
        RelN.congrT (rRecall hN bz (Nat.le_refl _)) (fun k hk => by
          rcases hk with rfl | rfl | rfl | rfl | rfl | rfl | rfl | rfl <;> first | rfl | exact c0.symm | exact c5.symm | exact c16.symm | exact c17.symm | exact c32.symm | exact c33.symm) (fun k _ hk => by
          by_cases q : k = 9 ∨ k = 15 ∨ k = 34 ∨ k = 35 ∨ k = 36 ∨ k = 37
          · rcases q with rfl | rfl | rfl | rfl | rfl | rfl <;> rfl
          · exact Eq.trans (b := T k) (by rw [xT_ne _ _ (by omega), xT_ne _ _ (by omega), xT_ne _ _ (by omega), xT_ne _ _ (by omega), xT_ne _ _ (by omega), xT_ne _ _ (by omega), xT_ne _ _ (by omega), xT_ne _ _ (by omega), xT_ne _ _ (by omega), xT_ne _ _ (by omega)]) (by rw [xwT_ne _ _ _ (by omega)]))
      exact ⟨_, upd (upd V 11 (nI (xol ol sz))) 12 (nI (xsz sz)), E, P, xT (xT (xT (xT (xT (xT (xT (xT (xT (xT T 0 (fun _ => nI gz)) 5 (fun _ => nI bz)) 9 ((xwg (T 6) (nI kg) (T 40 0) ((T 9), (T 15), lz, nx, (T 34), (T 35), (T 36), (T 37)) bz).1)) 15 ((xwg (T 6) (nI kg) (T 40 0) ((T 9), (T 15), lz, nx, (T 34), (T 35), (T 36), (T 37)) bz).2.1)) 32 (fun _ => nI ((xwg (T 6) (nI kg) (T 40 0) ((T 9), (T 15), lz, nx, (T 34), (T 35), (T 36), (T 37)) bz).2.2.1))) 33 (fun _ => nI ((xwg (T 6) (nI kg) (T 40 0) ((T 9), (T 15), lz, nx, (T 34), (T 35), (T 36), (T 37)) bz).2.2.2.1))) 34 ((xwg (T 6) (nI kg) (T 40 0) ((T 9), (T 15), lz, nx, (T 34), (T 35), (T 36), (T 37)) bz).2.2.2.2.1)) 35 ((xwg (T 6) (nI kg) (T 40 0) ((T 9), (T 15), lz, nx, (T 34), (T 35), (T 36), (T 37)) bz).2.2.2.2.2.1)) 36 ((xwg (T 6) (nI kg) (T 40 0) ((T 9), (T 15), lz, nx, (T 34), (T 35), (T 36), (T 37)) bz).2.2.2.2.2.2.1)) 37 ((xwg (T 6) (nI kg) (T 40 0) ((T 9), (T 15), lz, nx, (T 34), (T 35), (T 36), (T 37)) bz).2.2.2.2.2.2.2), Ts, Tt, xupS S ((ol + sz) % 4) T, upd M 0 (nI (if sz = 4 then 4 else sz + 1)), xT (xT Z 0 (zrc (Z 0) (nI kg) bz)) 1 (zrec (Z 0) (Z 1) sz), h.act v11 v12 hol hsz ⟨_, _, _, _, _, _, key⟩ rfl rfl rfl rfl rfl rfl rfl rfl rfl rfl, (l_X9_recalls l dC dI cI cF cC cZ cQ cS b o sn tr ad V E P T Ts Tt S ol sz gz bz lz nx kg (by first | assumption | omega) (by first | assumption | omega) (by first | assumption | omega) (by first | assumption | omega) (by first | assumption | omega) (by first | assumption | omega) (by first | assumption | omega) (by first | assumption | omega) (by first | assumption | omega) (by first | assumption | omega) (by first | assumption | omega) (by first | assumption | omega) (by first | assumption | omega) (by first | assumption | omega)), (l_X10_recalls l dC dI cI cF cC cZ cQ cS bm M Z sz gz bz kg (by first | assumption | omega) (by first | assumption | omega) (by first | assumption | omega) (by first | assumption | omega) (by first | assumption | omega) (by first | assumption | omega) (by first | assumption | omega) (by first | assumption | omega)).r e0.symm⟩
    · have he2 : ¬ eRecall (zsumIf (Z 0) 3 (nI kg) bz) = nI 0 := by rw [← e0]; exact he
      exact ⟨_, V, E, P, T, Ts, Tt, S, M, Z, h, (l_X9_recalle l dC dI cI cF cC cZ cQ cS b o sn tr ad V E P T Ts Tt S gz bz kg (by first | assumption | omega) (by first | assumption | omega) (by first | assumption | omega) (by first | assumption | omega) (by first | assumption | omega) (by first | assumption | omega)), (l_X10_recalle l dC dI cI cF cC cZ cQ cS bm M Z gz kg bz (by first | assumption | omega) (by first | assumption | omega) (by first | assumption | omega) (by first | assumption | omega) (by first | assumption | omega) (by first | assumption | omega)).r (by rw [e0])⟩
  · exact ⟨_, V, E, P, T, Ts, Tt, S, M, Z, h, (l_X9_recallu l dC dI cI cF cC cZ cQ cS b o sn tr ad V E P T Ts Tt S gz gq (by first | assumption | omega) (by first | assumption | omega) (by first | assumption | omega)), (l_X10_recallu l dC dI cI cF cC cZ cQ cS bm M Z gz gq (by first | assumption | omega) (by first | assumption | omega) (by first | assumption | omega)).r rfl⟩
set_option maxHeartbeats 4000000 in
set_option maxRecDepth 100000 in
theorem P_pass (h : Rel V E T Ts S M Z) (days : Int32) : Pair l dC dI cI cF cC cZ cQ cS b o sn tr ad bm yX9_pass wsX9_pass yX10_pass wsX10_pass [.int days] V E P T Ts Tt S M Z := by
  obtain ⟨⟨gz, bz, oz, tk, lz, nx, hN⟩, ⟨ol, sz, v11, v12, m0, hH⟩, hK, tl, htl, v0, m2, htx⟩ := id h
  have hol : ol < 4 := hH.1
  have hsz : sz ≤ 4 := hH.2.1
  have hgz : gz ≤ 12 := hN.1.1.1
  have hbz : bz ≤ 40 := hN.1.1.2.1
  have hoz : oz ≤ 30 := hN.1.1.2.2.1
  have hlz : lz ≤ 10 := hN.1.1.2.2.2.1
  have hnx : nx < 10 := hN.1.1.2.2.2.2.1
  have c0 : T 0 0 = nI gz := hN.1.2.1.1
  have c5 : T 5 0 = nI bz := hN.1.2.1.2.1
  have c16 : T 16 0 = nI oz := hN.1.2.1.2.2.1
  have c17 : T 17 0 = nI tk := hN.1.2.1.2.2.2.1
  have c32 : T 32 0 = nI lz := hN.1.2.1.2.2.2.2.1
  have c33 : T 33 0 = nI nx := hN.1.2.1.2.2.2.2.2
  have a1 : Z 0 1 = nI gz := hN.1.2.2.1.1
  have a2 : Z 0 2 = nI bz := hN.1.2.2.1.2.1
  have a3 : Z 0 3 = nI oz := hN.1.2.2.1.2.2.1
  have a8 : Z 0 8 = nI tk := hN.1.2.2.1.2.2.2.1
  have a9 : Z 0 9 = nI lz := hN.1.2.2.1.2.2.2.2.1
  have a40 : T 40 0 = Z 0 0 := hN.1.2.2.1.2.2.2.2.2.1
  have a39 : T 39 0 = Z 0 7 := hN.1.2.2.1.2.2.2.2.2.2
  by_cases he : ePass days (T 40 0) = nI 0
  · obtain ⟨q1, q2⟩ := xif2_ok (by decide) (by decide) he
    have hd := Classical.not_not.mp q1
    have hdy := Classical.not_not.mp q2
    obtain ⟨dn, -, hdn, rfl⟩ := xnat_in (by decide) (by decide) hd
    have hdy2 : Z 0 0 + nI dn ≤ nI 9999 := by rw [← a40]; exact hdy
    obtain ⟨hga, hgi⟩ := qIdx hN
    obtain ⟨kr, kN⟩ := rPass hN dn
    have key : RelN 1 gz bz oz tk (xpass bz (T 6) (T 2) (T 30) (T 38 1) (T 38 2) (nI 0, T 40 0, T 8, T 9, T 13, T 11, lz, nx, T 34, T 35, T 36, T 37) dn).2.2.2.2.2.2.1 (xpass bz (T 6) (T 2) (T 30) (T 38 1) (T 38 2) (nI 0, T 40 0, T 8, T 9, T 13, T 11, lz, nx, T 34, T 35, T 36, T 37) dn).2.2.2.2.2.2.2.1 (xT (xT (xT (xT (xT (xT (xT (xT (xT (xT (xT (xT T 5 (fun _ => nI bz)) 8 ((xpass bz (T 6) (T 2) (T 30) ((T 38) 1) ((T 38) 2) (nI 0, T 40 0, T 8, T 9, T 13, T 11, lz, nx, T 34, T 35, T 36, T 37) dn).2.2.1)) 9 ((xpass bz (T 6) (T 2) (T 30) ((T 38) 1) ((T 38) 2) (nI 0, T 40 0, T 8, T 9, T 13, T 11, lz, nx, T 34, T 35, T 36, T 37) dn).2.2.2.1)) 11 ((xpass bz (T 6) (T 2) (T 30) ((T 38) 1) ((T 38) 2) (nI 0, T 40 0, T 8, T 9, T 13, T 11, lz, nx, T 34, T 35, T 36, T 37) dn).2.2.2.2.2.1)) 13 ((xpass bz (T 6) (T 2) (T 30) ((T 38) 1) ((T 38) 2) (nI 0, T 40 0, T 8, T 9, T 13, T 11, lz, nx, T 34, T 35, T 36, T 37) dn).2.2.2.2.1)) 32 (fun _ => nI ((xpass bz (T 6) (T 2) (T 30) ((T 38) 1) ((T 38) 2) (nI 0, T 40 0, T 8, T 9, T 13, T 11, lz, nx, T 34, T 35, T 36, T 37) dn).2.2.2.2.2.2.1))) 33 (fun _ => nI ((xpass bz (T 6) (T 2) (T 30) ((T 38) 1) ((T 38) 2) (nI 0, T 40 0, T 8, T 9, T 13, T 11, lz, nx, T 34, T 35, T 36, T 37) dn).2.2.2.2.2.2.2.1))) 34 ((xpass bz (T 6) (T 2) (T 30) ((T 38) 1) ((T 38) 2) (nI 0, T 40 0, T 8, T 9, T 13, T 11, lz, nx, T 34, T 35, T 36, T 37) dn).2.2.2.2.2.2.2.2.1)) 35 ((xpass bz (T 6) (T 2) (T 30) ((T 38) 1) ((T 38) 2) (nI 0, T 40 0, T 8, T 9, T 13, T 11, lz, nx, T 34, T 35, T 36, T 37) dn).2.2.2.2.2.2.2.2.2.1)) 36 ((xpass bz (T 6) (T 2) (T 30) ((T 38) 1) ((T 38) 2) (nI 0, T 40 0, T 8, T 9, T 13, T 11, lz, nx, T 34, T 35, T 36, T 37) dn).2.2.2.2.2.2.2.2.2.2.1)) 37 ((xpass bz (T 6) (T 2) (T 30) ((T 38) 1) ((T 38) 2) (nI 0, T 40 0, T 8, T 9, T 13, T 11, lz, nx, T 34, T 35, T 36, T 37) dn).2.2.2.2.2.2.2.2.2.2.2)) 40 (fun _ => (xpass bz (T 6) (T 2) (T 30) ((T 38) 1) ((T 38) 2) (nI 0, T 40 0, T 8, T 9, T 13, T 11, lz, nx, T 34, T 35, T 36, T 37) dn).2.1)) (zps (Z 0) bz dn).2 :=
      RelN.congrT kN (fun k hk => by
        rcases hk with rfl | rfl | rfl | rfl | rfl | rfl | rfl | rfl <;> first | rfl | exact c0.symm | exact c5.symm | exact c16.symm | exact c17.symm | exact c32.symm | exact c33.symm) (fun k _ hk => by
        by_cases q : k = 8 ∨ k = 9 ∨ k = 11 ∨ k = 13 ∨ k = 34 ∨ k = 35 ∨ k = 36 ∨ k = 37
        · rcases q with rfl | rfl | rfl | rfl | rfl | rfl | rfl | rfl <;> rfl
        · exact Eq.trans (b := T k) (by rw [xT_ne _ _ (by omega), xT_ne _ _ (by omega), xT_ne _ _ (by omega), xT_ne _ _ (by omega), xT_ne _ _ (by omega), xT_ne _ _ (by omega), xT_ne _ _ (by omega), xT_ne _ _ (by omega), xT_ne _ _ (by omega), xT_ne _ _ (by omega), xT_ne _ _ (by omega), xT_ne _ _ (by omega)]) (by rw [xpT_ne _ _ (by omega)]))
    exact ⟨_, upd (upd V 11 (nI (xol ol sz))) 12 (nI (xsz sz)), E, P, xT (xT (xT (xT (xT (xT (xT (xT (xT (xT (xT (xT T 5 (fun _ => nI bz)) 8 ((xpass bz (T 6) (T 2) (T 30) ((T 38) 1) ((T 38) 2) (nI 0, T 40 0, T 8, T 9, T 13, T 11, lz, nx, T 34, T 35, T 36, T 37) dn).2.2.1)) 9 ((xpass bz (T 6) (T 2) (T 30) ((T 38) 1) ((T 38) 2) (nI 0, T 40 0, T 8, T 9, T 13, T 11, lz, nx, T 34, T 35, T 36, T 37) dn).2.2.2.1)) 11 ((xpass bz (T 6) (T 2) (T 30) ((T 38) 1) ((T 38) 2) (nI 0, T 40 0, T 8, T 9, T 13, T 11, lz, nx, T 34, T 35, T 36, T 37) dn).2.2.2.2.2.1)) 13 ((xpass bz (T 6) (T 2) (T 30) ((T 38) 1) ((T 38) 2) (nI 0, T 40 0, T 8, T 9, T 13, T 11, lz, nx, T 34, T 35, T 36, T 37) dn).2.2.2.2.1)) 32 (fun _ => nI ((xpass bz (T 6) (T 2) (T 30) ((T 38) 1) ((T 38) 2) (nI 0, T 40 0, T 8, T 9, T 13, T 11, lz, nx, T 34, T 35, T 36, T 37) dn).2.2.2.2.2.2.1))) 33 (fun _ => nI ((xpass bz (T 6) (T 2) (T 30) ((T 38) 1) ((T 38) 2) (nI 0, T 40 0, T 8, T 9, T 13, T 11, lz, nx, T 34, T 35, T 36, T 37) dn).2.2.2.2.2.2.2.1))) 34 ((xpass bz (T 6) (T 2) (T 30) ((T 38) 1) ((T 38) 2) (nI 0, T 40 0, T 8, T 9, T 13, T 11, lz, nx, T 34, T 35, T 36, T 37) dn).2.2.2.2.2.2.2.2.1)) 35 ((xpass bz (T 6) (T 2) (T 30) ((T 38) 1) ((T 38) 2) (nI 0, T 40 0, T 8, T 9, T 13, T 11, lz, nx, T 34, T 35, T 36, T 37) dn).2.2.2.2.2.2.2.2.2.1)) 36 ((xpass bz (T 6) (T 2) (T 30) ((T 38) 1) ((T 38) 2) (nI 0, T 40 0, T 8, T 9, T 13, T 11, lz, nx, T 34, T 35, T 36, T 37) dn).2.2.2.2.2.2.2.2.2.2.1)) 37 ((xpass bz (T 6) (T 2) (T 30) ((T 38) 1) ((T 38) 2) (nI 0, T 40 0, T 8, T 9, T 13, T 11, lz, nx, T 34, T 35, T 36, T 37) dn).2.2.2.2.2.2.2.2.2.2.2)) 40 (fun _ => (xpass bz (T 6) (T 2) (T 30) ((T 38) 1) ((T 38) 2) (nI 0, T 40 0, T 8, T 9, T 13, T 11, lz, nx, T 34, T 35, T 36, T 37) dn).2.1), Ts, Tt, xupS S ((ol + sz) % 4) T, upd M 0 (nI (if sz = 4 then 4 else sz + 1)), xT (xT Z 0 ((zps (Z 0) bz dn).2)) 1 (zrec (Z 0) (Z 1) sz), h.act v11 v12 hol hsz ⟨_, _, _, _, _, _, key⟩ rfl rfl rfl rfl rfl rfl rfl rfl rfl rfl, (l_X9_passs l dC dI cI cF cC cZ cQ cS b o sn tr ad V E P T Ts Tt S ol sz bz lz nx dn (by first | assumption | omega) (by first | assumption | omega) (by first | assumption | omega) (by first | assumption | omega) (by first | assumption | omega) (by first | assumption | omega) (by first | assumption | omega) (by first | assumption | omega) (by first | assumption | omega) (by first | assumption | omega) (by first | assumption | omega) (by first | assumption | omega) (by first | assumption | omega) (by first | assumption | omega)), (l_X10_passs l dC dI cI cF cC cZ cQ cS bm M Z sz bz dn (by first | assumption | omega) (by first | assumption | omega) (by first | assumption | omega) (by first | assumption | omega) (by first | assumption | omega) (by first | assumption | omega) (by first | assumption | omega) (by first | assumption | omega)).r kr.symm⟩
  · have he2 : ¬ ePass days (Z 0 0) = nI 0 := by rw [← a40]; exact he
    exact ⟨_, V, E, P, T, Ts, Tt, S, M, Z, h, (l_X9_passe l dC dI cI cF cC cZ cQ cS b o sn tr ad V E P T Ts Tt S days (by first | assumption | omega)), (l_X10_passe l dC dI cI cF cC cZ cQ cS bm M Z days (by first | assumption | omega)).r (by rw [a40])⟩
end PAIRS
