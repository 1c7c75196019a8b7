/-! Pairs: texts, memory, what is told. -/
section PAIRS
variable {l : Launch} {dC : Nat → ClassId} {dI : Nat → Nat → Nat} {cI cF cC cZ cQ cS : ClassId} {b o sn tr : Nat → Nat} {ad : Nat → Nat → Nat} {bm : Nat → Nat} {V : Nat → Int32} {E : Nat → Nat → Int32} {P : Nat → UInt32} {T Ts Tt : Nat → Nat → Int32} {S : Nat → Nat → Nat → Int32} {M : Nat → Int32} {Z : Nat → Nat → Int32}
set_option maxHeartbeats 4000000 in
set_option maxRecDepth 100000 in
theorem P_type (h : Rel V E T Ts S M Z) (ch : Int32) (hch : vp_nar .char ch = ch) : Pair l dC dI cI cF cC cZ cQ cS b o sn tr ad bm yX9_type wsX9_type yX10_type wsX10_type [.int ch] V E P T Ts Tt S M Z := by
  obtain ⟨⟨gz, bz, oz, tk, lz, nx, hN⟩, ⟨ol, sz, v11, v12, m0, hH⟩, hK, tl, htl, v0, m2, htx⟩ := id h
  have hol : ol < 4 := hH.1
  have hsz : sz ≤ 4 := hH.2.1
  have hgz : gz ≤ 12 := hN.1.1.1
  have hbz : bz ≤ 40 := hN.1.1.2.1
  have hoz : oz ≤ 30 := hN.1.1.2.2.1
  have hlz : lz ≤ 10 := hN.1.1.2.2.2.1
  have hnx : nx < 10 := hN.1.1.2.2.2.2.1
  have c0 : T 0 0 = nI gz := hN.1.2.1.1
  have c5 : T 5 0 = nI bz := hN.1.2.1.2.1
  have c16 : T 16 0 = nI oz := hN.1.2.1.2.2.1
  have c17 : T 17 0 = nI tk := hN.1.2.1.2.2.2.1
  have c32 : T 32 0 = nI lz := hN.1.2.1.2.2.2.2.1
  have c33 : T 33 0 = nI nx := hN.1.2.1.2.2.2.2.2
  have a1 : Z 0 1 = nI gz := hN.1.2.2.1.1
  have a2 : Z 0 2 = nI bz := hN.1.2.2.1.2.1
  have a3 : Z 0 3 = nI oz := hN.1.2.2.1.2.2.1
  have a8 : Z 0 8 = nI tk := hN.1.2.2.1.2.2.2.1
  have a9 : Z 0 9 = nI lz := hN.1.2.2.1.2.2.2.2.1
  have a40 : T 40 0 = Z 0 0 := hN.1.2.2.1.2.2.2.2.2.1
  have a39 : T 39 0 = Z 0 7 := hN.1.2.2.1.2.2.2.2.2.2
  have hq : V 0 = nI tl := v0
  by_cases h60 : tl = 60
  · exact ⟨_, V, E, P, T, Ts, Tt, S, M, Z, h, (l_X9_typee l dC dI cI cF cC cZ cQ cS b o sn tr ad V E P T Ts Tt S tl ch (by first | assumption | omega) h60), (l_X10_typee l dC dI cI cF cC cZ cQ cS bm M Z tl ch (by first | assumption | omega) h60).r rfl⟩
  · have hlt : tl < 60 := by omega
    refine ⟨_, upd V 0 (nI (tl + 1)), xT E 0 (upd (E 0) tl ch), P, T, Ts, Tt, S, upd M 2 (nI (tl + 1)), xT Z 4 (upd (Z 4) tl ch), ⟨⟨gz, bz, oz, tk, lz, nx, hN⟩, ⟨ol, sz, v11, v12, m0, hH⟩, hK, tl + 1, by omega, rfl, rfl, fun k hk => ?_⟩, (l_X9_types l dC dI cI cF cC cZ cQ cS b o sn tr ad V E P T Ts Tt S tl ch (by first | assumption | omega) (by first | assumption | omega) (by first | assumption | omega)), (l_X10_types l dC dI cI cF cC cZ cQ cS bm M Z tl ch (by first | assumption | omega) (by first | assumption | omega) (by first | assumption | omega)).r rfl⟩
    show upd (E 0) tl ch k = upd (Z 4) tl ch k
    by_cases e : k = tl
    · rw [e, upd_at, upd_at]
    · rw [upd_ne _ _ e, upd_ne _ _ e]
      exact htx k (by omega)
set_option maxHeartbeats 4000000 in
set_option maxRecDepth 100000 in
theorem P_clearText (h : Rel V E T Ts S M Z) : Pair l dC dI cI cF cC cZ cQ cS b o sn tr ad bm yX9_clearText wsX9_clearText yX10_clearText wsX10_clearText [] V E P T Ts Tt S M Z := by
  obtain ⟨⟨gz, bz, oz, tk, lz, nx, hN⟩, ⟨ol, sz, v11, v12, m0, hH⟩, hK, tl, htl, v0, m2, htx⟩ := id h
  have hol : ol < 4 := hH.1
  have hsz : sz ≤ 4 := hH.2.1
  have hgz : gz ≤ 12 := hN.1.1.1
  have hbz : bz ≤ 40 := hN.1.1.2.1
  have hoz : oz ≤ 30 := hN.1.1.2.2.1
  have hlz : lz ≤ 10 := hN.1.1.2.2.2.1
  have hnx : nx < 10 := hN.1.1.2.2.2.2.1
  have c0 : T 0 0 = nI gz := hN.1.2.1.1
  have c5 : T 5 0 = nI bz := hN.1.2.1.2.1
  have c16 : T 16 0 = nI oz := hN.1.2.1.2.2.1
  have c17 : T 17 0 = nI tk := hN.1.2.1.2.2.2.1
  have c32 : T 32 0 = nI lz := hN.1.2.1.2.2.2.2.1
  have c33 : T 33 0 = nI nx := hN.1.2.1.2.2.2.2.2
  have a1 : Z 0 1 = nI gz := hN.1.2.2.1.1
  have a2 : Z 0 2 = nI bz := hN.1.2.2.1.2.1
  have a3 : Z 0 3 = nI oz := hN.1.2.2.1.2.2.1
  have a8 : Z 0 8 = nI tk := hN.1.2.2.1.2.2.2.1
  have a9 : Z 0 9 = nI lz := hN.1.2.2.1.2.2.2.2.1
  have a40 : T 40 0 = Z 0 0 := hN.1.2.2.1.2.2.2.2.2.1
  have a39 : T 39 0 = Z 0 7 := hN.1.2.2.1.2.2.2.2.2.2
  exact ⟨_, upd V 0 (nI 0), E, P, T, Ts, Tt, S, upd M 2 (nI 0), Z, ⟨⟨gz, bz, oz, tk, lz, nx, hN⟩, ⟨ol, sz, v11, v12, m0, hH⟩, hK, 0, by omega, rfl, rfl, fun k hk => absurd hk (Nat.not_lt_zero k)⟩, (l_X9_clearText l dC dI cI cF cC cZ cQ cS b o sn tr ad V E P T Ts Tt S tl (by first | assumption | omega)), (l_X10_clearText l dC dI cI cF cC cZ cQ cS bm M Z tl (by first | assumption | omega)).r rfl⟩
set_option maxHeartbeats 4000000 in
set_option maxRecDepth 100000 in
theorem P_undo (h : Rel V E T Ts S M Z) : Pair l dC dI cI cF cC cZ cQ cS b o sn tr ad bm yX9_undo wsX9_undo yX10_undo wsX10_undo [] V E P T Ts Tt S M Z := by
  obtain ⟨⟨gz, bz, oz, tk, lz, nx, hN⟩, ⟨ol, sz, v11, v12, m0, hH⟩, hK, tl, htl, v0, m2, htx⟩ := id h
  have hol : ol < 4 := hH.1
  have hsz : sz ≤ 4 := hH.2.1
  have hgz : gz ≤ 12 := hN.1.1.1
  have hbz : bz ≤ 40 := hN.1.1.2.1
  have hoz : oz ≤ 30 := hN.1.1.2.2.1
  have hlz : lz ≤ 10 := hN.1.1.2.2.2.1
  have hnx : nx < 10 := hN.1.1.2.2.2.2.1
  have c0 : T 0 0 = nI gz := hN.1.2.1.1
  have c5 : T 5 0 = nI bz := hN.1.2.1.2.1
  have c16 : T 16 0 = nI oz := hN.1.2.1.2.2.1
  have c17 : T 17 0 = nI tk := hN.1.2.1.2.2.2.1
  have c32 : T 32 0 = nI lz := hN.1.2.1.2.2.2.2.1
  have c33 : T 33 0 = nI nx := hN.1.2.1.2.2.2.2.2
  have a1 : Z 0 1 = nI gz := hN.1.2.2.1.1
  have a2 : Z 0 2 = nI bz := hN.1.2.2.1.2.1
  have a3 : Z 0 3 = nI oz := hN.1.2.2.1.2.2.1
  have a8 : Z 0 8 = nI tk := hN.1.2.2.1.2.2.2.1
  have a9 : Z 0 9 = nI lz := hN.1.2.2.1.2.2.2.2.1
  have a40 : T 40 0 = Z 0 0 := hN.1.2.2.1.2.2.2.2.2.1
  have a39 : T 39 0 = Z 0 7 := hN.1.2.2.1.2.2.2.2.2.2
  by_cases h0 : sz = 0
  · subst h0
    exact ⟨_, V, E, P, T, Ts, Tt, S, M, Z, h, (l_X9_undoe l dC dI cI cF cC cZ cQ cS b o sn tr ad V E P T Ts Tt S (by first | assumption | omega)), (l_X10_undoe l dC dI cI cF cC cZ cQ cS bm M Z (by first | assumption | omega)).r rfl⟩
  · have hp : 0 < sz ∧ sz ≤ 4 := ⟨by omega, hsz⟩
    have hp1 : 1 ≤ sz ∧ sz ≤ 4 := ⟨by omega, hsz⟩
    obtain ⟨p1, p2⟩ := hH.pop (by omega)
    exact ⟨_, upd V 12 (nI (sz - 1)), E, P, S ((ol + (sz - 1)) % 4), Ts, Tt, S, upd M 0 (nI (sz - 1)), xT Z 0 (zcp (fun j => (Z 1) ((sz - 1) * 1002 + j)) (Z 0) 1002), ⟨p1.zcp, ⟨ol, sz - 1, v11, rfl, rfl, p2⟩, hK, tl, htl, v0, m2, htx⟩, (l_X9_undos l dC dI cI cF cC cZ cQ cS b o sn tr ad V E P T Ts Tt S ol sz (by first | assumption | omega) (by first | assumption | omega) (by first | assumption | omega) hp), (l_X10_undos l dC dI cI cF cC cZ cQ cS bm M Z sz (by first | assumption | omega) hp1).r rfl⟩
set_option maxHeartbeats 4000000 in
set_option maxRecDepth 100000 in
theorem P_keep (h : Rel V E T Ts S M Z) : Pair l dC dI cI cF cC cZ cQ cS b o sn tr ad bm yX9_keep wsX9_keep yX10_keep wsX10_keep [] V E P T Ts Tt S M Z := by
  obtain ⟨⟨gz, bz, oz, tk, lz, nx, hN⟩, ⟨ol, sz, v11, v12, m0, hH⟩, hK, tl, htl, v0, m2, htx⟩ := id h
  have hol : ol < 4 := hH.1
  have hsz : sz ≤ 4 := hH.2.1
  have hgz : gz ≤ 12 := hN.1.1.1
  have hbz : bz ≤ 40 := hN.1.1.2.1
  have hoz : oz ≤ 30 := hN.1.1.2.2.1
  have hlz : lz ≤ 10 := hN.1.1.2.2.2.1
  have hnx : nx < 10 := hN.1.1.2.2.2.2.1
  have c0 : T 0 0 = nI gz := hN.1.2.1.1
  have c5 : T 5 0 = nI bz := hN.1.2.1.2.1
  have c16 : T 16 0 = nI oz := hN.1.2.1.2.2.1
  have c17 : T 17 0 = nI tk := hN.1.2.1.2.2.2.1
  have c32 : T 32 0 = nI lz := hN.1.2.1.2.2.2.2.1
  have c33 : T 33 0 = nI nx := hN.1.2.1.2.2.2.2.2
  have a1 : Z 0 1 = nI gz := hN.1.2.2.1.1
  have a2 : Z 0 2 = nI bz := hN.1.2.2.1.2.1
  have a3 : Z 0 3 = nI oz := hN.1.2.2.1.2.2.1
  have a8 : Z 0 8 = nI tk := hN.1.2.2.1.2.2.2.1
  have a9 : Z 0 9 = nI lz := hN.1.2.2.1.2.2.2.2.1
  have a40 : T 40 0 = Z 0 0 := hN.1.2.2.1.2.2.2.2.2.1
  have a39 : T 39 0 = Z 0 7 := hN.1.2.2.1.2.2.2.2.2.2
  exact ⟨_, upd V 1 (nI 1), E, P, T, T, Tt, S, upd M 1 (nI 1), xT Z 2 (zcp (Z 0) (Z 2) 1002), ⟨⟨gz, bz, oz, tk, lz, nx, hN⟩, ⟨ol, sz, v11, v12, m0, hH⟩, Or.inr ⟨rfl, rfl, RelS.zcp ⟨gz, bz, oz, tk, lz, nx, hN⟩⟩, tl, htl, v0, m2, htx⟩, (l_X9_keep l dC dI cI cF cC cZ cQ cS b o sn tr ad V E P T Ts Tt S ), (l_X10_keep l dC dI cI cF cC cZ cQ cS bm M Z ).r a40.symm⟩
set_option maxHeartbeats 4000000 in
set_option maxRecDepth 100000 in
theorem P_restore (h : Rel V E T Ts S M Z) : Pair l dC dI cI cF cC cZ cQ cS b o sn tr ad bm yX9_restore wsX9_restore yX10_restore wsX10_restore [] V E P T Ts Tt S M Z := by
  obtain ⟨⟨gz, bz, oz, tk, lz, nx, hN⟩, ⟨ol, sz, v11, v12, m0, hH⟩, hK, tl, htl, v0, m2, htx⟩ := id h
  have hol : ol < 4 := hH.1
  have hsz : sz ≤ 4 := hH.2.1
  have hgz : gz ≤ 12 := hN.1.1.1
  have hbz : bz ≤ 40 := hN.1.1.2.1
  have hoz : oz ≤ 30 := hN.1.1.2.2.1
  have hlz : lz ≤ 10 := hN.1.1.2.2.2.1
  have hnx : nx < 10 := hN.1.1.2.2.2.2.1
  have c0 : T 0 0 = nI gz := hN.1.2.1.1
  have c5 : T 5 0 = nI bz := hN.1.2.1.2.1
  have c16 : T 16 0 = nI oz := hN.1.2.1.2.2.1
  have c17 : T 17 0 = nI tk := hN.1.2.1.2.2.2.1
  have c32 : T 32 0 = nI lz := hN.1.2.1.2.2.2.2.1
  have c33 : T 33 0 = nI nx := hN.1.2.1.2.2.2.2.2
  have a1 : Z 0 1 = nI gz := hN.1.2.2.1.1
  have a2 : Z 0 2 = nI bz := hN.1.2.2.1.2.1
  have a3 : Z 0 3 = nI oz := hN.1.2.2.1.2.2.1
  have a8 : Z 0 8 = nI tk := hN.1.2.2.1.2.2.2.1
  have a9 : Z 0 9 = nI lz := hN.1.2.2.1.2.2.2.2.1
  have a40 : T 40 0 = Z 0 0 := hN.1.2.2.1.2.2.2.2.2.1
  have a39 : T 39 0 = Z 0 7 := hN.1.2.2.1.2.2.2.2.2.2
  rcases hK with ⟨k1, k2⟩ | ⟨k1, k2, k3⟩
  · exact ⟨_, V, E, P, T, Ts, Tt, S, M, Z, h, (l_X9_restoree l dC dI cI cF cC cZ cQ cS b o sn tr ad V E P T Ts Tt S (by first | assumption | omega)), (l_X10_restoree l dC dI cI cF cC cZ cQ cS bm M Z (by first | assumption | omega)).r rfl⟩
  · have hr : zcp (Z 2) (Z 0) 1002 0 = Ts 40 0 := by
      obtain ⟨g1, g2, g3, g4, g5, g6, hN2⟩ := k3
      exact (if_pos (by decide)).trans hN2.1.2.2.1.2.2.2.2.2.1.symm
    exact ⟨_, upd (upd V 11 (nI (xol ol sz))) 12 (nI (xsz sz)), E, P, Ts, Ts, Tt, xupS S ((ol + sz) % 4) T, upd M 0 (nI (if sz = 4 then 4 else sz + 1)), xT (xT Z 0 (zcp (Z 2) (Z 0) 1002)) 1 (zrec (Z 0) (Z 1) sz), h.act v11 v12 hol hsz k3.zcp rfl rfl rfl rfl rfl rfl rfl rfl rfl rfl, (l_X9_restores l dC dI cI cF cC cZ cQ cS b o sn tr ad V E P T Ts Tt S ol sz (by first | assumption | omega) (by first | assumption | omega) (by first | assumption | omega) (by first | assumption | omega) (by first | assumption | omega)), (l_X10_restores l dC dI cI cF cC cZ cQ cS bm M Z sz (by first | assumption | omega) (by first | assumption | omega) (by first | assumption | omega)).r hr⟩
set_option maxHeartbeats 4000000 in
set_option maxRecDepth 100000 in
theorem P_good (h : Rel V E T Ts S M Z) (gq wh : Int32) : Pair l dC dI cI cF cC cZ cQ cS b o sn tr ad bm yX9_good wsX9_good yX10_good wsX10_good [.int gq, .int wh] V E P T Ts Tt S M Z := by
  obtain ⟨⟨gz, bz, oz, tk, lz, nx, hN⟩, ⟨ol, sz, v11, v12, m0, hH⟩, hK, tl, htl, v0, m2, htx⟩ := id h
  have hol : ol < 4 := hH.1
  have hsz : sz ≤ 4 := hH.2.1
  have hgz : gz ≤ 12 := hN.1.1.1
  have hbz : bz ≤ 40 := hN.1.1.2.1
  have hoz : oz ≤ 30 := hN.1.1.2.2.1
  have hlz : lz ≤ 10 := hN.1.1.2.2.2.1
  have hnx : nx < 10 := hN.1.1.2.2.2.2.1
  have c0 : T 0 0 = nI gz := hN.1.2.1.1
  have c5 : T 5 0 = nI bz := hN.1.2.1.2.1
  have c16 : T 16 0 = nI oz := hN.1.2.1.2.2.1
  have c17 : T 17 0 = nI tk := hN.1.2.1.2.2.2.1
  have c32 : T 32 0 = nI lz := hN.1.2.1.2.2.2.2.1
  have c33 : T 33 0 = nI nx := hN.1.2.1.2.2.2.2.2
  have a1 : Z 0 1 = nI gz := hN.1.2.2.1.1
  have a2 : Z 0 2 = nI bz := hN.1.2.2.1.2.1
  have a3 : Z 0 3 = nI oz := hN.1.2.2.1.2.2.1
  have a8 : Z 0 8 = nI tk := hN.1.2.2.1.2.2.2.1
  have a9 : Z 0 9 = nI lz := hN.1.2.2.1.2.2.2.2.1
  have a40 : T 40 0 = Z 0 0 := hN.1.2.2.1.2.2.2.2.2.1
  have a39 : T 39 0 = Z 0 7 := hN.1.2.2.1.2.2.2.2.2.2
  by_cases hg : xhas gq gz
  · obtain ⟨kg, hk, rfl⟩ := xhas_n hg (by omega)
    by_cases hw : nI 0 ≤ wh ∧ wh ≤ nI 6
    · obtain ⟨wn, -, hwn, rfl⟩ := xnat_in (by decide) (by decide) hw
      exact ⟨_, V, E, P, T, Ts, Tt, S, M, Z, h, (l_X9_goods l dC dI cI cF cC cZ cQ cS b o sn tr ad V E P T Ts Tt S gz bz oz kg (nI wn) (by first | assumption | omega) (by first | assumption | omega) (by first | assumption | omega) (by first | assumption | omega) (by first | assumption | omega) (by first | assumption | omega) (by first | assumption | omega)), (l_X10_goods l dC dI cI cF cC cZ cQ cS bm M Z gz kg wn bz oz (by first | assumption | omega) (by first | assumption | omega) (by first | assumption | omega) (by first | assumption | omega) (by first | assumption | omega) (by first | assumption | omega) (by first | assumption | omega) (by first | assumption | omega) (by first | assumption | omega)).r ((qGood hN hk hwn).symm)⟩
    · exact ⟨_, V, E, P, T, Ts, Tt, S, M, Z, h, (l_X9_goods l dC dI cI cF cC cZ cQ cS b o sn tr ad V E P T Ts Tt S gz bz oz kg wh (by first | assumption | omega) (by first | assumption | omega) (by first | assumption | omega) (by first | assumption | omega) (by first | assumption | omega) (by first | assumption | omega) (by first | assumption | omega)), (l_X10_goodb l dC dI cI cF cC cZ cQ cS bm M Z gz kg wh (by first | assumption | omega) (by first | assumption | omega) (by first | assumption | omega) (by first | assumption | omega)).r ((eGoodBad hw).symm)⟩
  · exact ⟨_, V, E, P, T, Ts, Tt, S, M, Z, h, (l_X9_goodu l dC dI cI cF cC cZ cQ cS b o sn tr ad V E P T Ts Tt S gz gq wh (by first | assumption | omega) (by first | assumption | omega) (by first | assumption | omega)), (l_X10_goodu l dC dI cI cF cC cZ cQ cS bm M Z gz gq wh (by first | assumption | omega) (by first | assumption | omega) (by first | assumption | omega)).r rfl⟩
set_option maxHeartbeats 4000000 in
set_option maxRecDepth 100000 in
theorem P_batch (h : Rel V E T Ts S M Z) (bq wh : Int32) : Pair l dC dI cI cF cC cZ cQ cS b o sn tr ad bm yX9_batch wsX9_batch yX10_batch wsX10_batch [.int bq, .int wh] V E P T Ts Tt S M Z := by
  obtain ⟨⟨gz, bz, oz, tk, lz, nx, hN⟩, ⟨ol, sz, v11, v12, m0, hH⟩, hK, tl, htl, v0, m2, htx⟩ := id h
  have hol : ol < 4 := hH.1
  have hsz : sz ≤ 4 := hH.2.1
  have hgz : gz ≤ 12 := hN.1.1.1
  have hbz : bz ≤ 40 := hN.1.1.2.1
  have hoz : oz ≤ 30 := hN.1.1.2.2.1
  have hlz : lz ≤ 10 := hN.1.1.2.2.2.1
  have hnx : nx < 10 := hN.1.1.2.2.2.2.1
  have c0 : T 0 0 = nI gz := hN.1.2.1.1
  have c5 : T 5 0 = nI bz := hN.1.2.1.2.1
  have c16 : T 16 0 = nI oz := hN.1.2.1.2.2.1
  have c17 : T 17 0 = nI tk := hN.1.2.1.2.2.2.1
  have c32 : T 32 0 = nI lz := hN.1.2.1.2.2.2.2.1
  have c33 : T 33 0 = nI nx := hN.1.2.1.2.2.2.2.2
  have a1 : Z 0 1 = nI gz := hN.1.2.2.1.1
  have a2 : Z 0 2 = nI bz := hN.1.2.2.1.2.1
  have a3 : Z 0 3 = nI oz := hN.1.2.2.1.2.2.1
  have a8 : Z 0 8 = nI tk := hN.1.2.2.1.2.2.2.1
  have a9 : Z 0 9 = nI lz := hN.1.2.2.1.2.2.2.2.1
  have a40 : T 40 0 = Z 0 0 := hN.1.2.2.1.2.2.2.2.2.1
  have a39 : T 39 0 = Z 0 7 := hN.1.2.2.1.2.2.2.2.2.2
  by_cases hg : xhas bq bz
  · obtain ⟨kb, hk, rfl⟩ := xhas_n hg (by omega)
    obtain ⟨hga, hgi⟩ := qIdx hN
    have hg0 := hgi kb hk
    have hga0 := hga kb hk
    by_cases hw : nI 0 ≤ wh ∧ wh ≤ nI 11
    · obtain ⟨wn, -, hwn, rfl⟩ := xnat_in (by decide) (by decide) hw
      exact ⟨_, V, E, P, T, Ts, Tt, S, M, Z, h, (l_X9_batchs l dC dI cI cF cC cZ cQ cS b o sn tr ad V E P T Ts Tt S bz kb (nI wn) (by first | assumption | omega) (by first | assumption | omega) (by first | assumption | omega) (by first | assumption | omega)), (l_X10_batchs l dC dI cI cF cC cZ cQ cS bm M Z bz kb wn (by first | assumption | omega) (by first | assumption | omega) (by first | assumption | omega) (by first | assumption | omega) (by first | assumption | omega) (by first | assumption | omega)).r ((qBatch hN hk hwn).symm)⟩
    · exact ⟨_, V, E, P, T, Ts, Tt, S, M, Z, h, (l_X9_batchs l dC dI cI cF cC cZ cQ cS b o sn tr ad V E P T Ts Tt S bz kb wh (by first | assumption | omega) (by first | assumption | omega) (by first | assumption | omega) (by first | assumption | omega)), (l_X10_batchb l dC dI cI cF cC cZ cQ cS bm M Z bz kb wh (by first | assumption | omega) (by first | assumption | omega) (by first | assumption | omega) (by first | assumption | omega)).r ((eBatchBad hw).symm)⟩
  · exact ⟨_, V, E, P, T, Ts, Tt, S, M, Z, h, (l_X9_batchu l dC dI cI cF cC cZ cQ cS b o sn tr ad V E P T Ts Tt S bz bq wh (by first | assumption | omega) (by first | assumption | omega) (by first | assumption | omega)), (l_X10_batchu l dC dI cI cF cC cZ cQ cS bm M Z bz bq wh (by first | assumption | omega) (by first | assumption | omega) (by first | assumption | omega)).r rfl⟩
set_option maxHeartbeats 4000000 in
set_option maxRecDepth 100000 in
theorem P_stage (h : Rel V E T Ts S M Z) (sq wh : Int32) : Pair l dC dI cI cF cC cZ cQ cS b o sn tr ad bm yX9_stage wsX9_stage yX10_stage wsX10_stage [.int sq, .int wh] V E P T Ts Tt S M Z := by
  obtain ⟨⟨gz, bz, oz, tk, lz, nx, hN⟩, ⟨ol, sz, v11, v12, m0, hH⟩, hK, tl, htl, v0, m2, htx⟩ := id h
  have hol : ol < 4 := hH.1
  have hsz : sz ≤ 4 := hH.2.1
  have hgz : gz ≤ 12 := hN.1.1.1
  have hbz : bz ≤ 40 := hN.1.1.2.1
  have hoz : oz ≤ 30 := hN.1.1.2.2.1
  have hlz : lz ≤ 10 := hN.1.1.2.2.2.1
  have hnx : nx < 10 := hN.1.1.2.2.2.2.1
  have c0 : T 0 0 = nI gz := hN.1.2.1.1
  have c5 : T 5 0 = nI bz := hN.1.2.1.2.1
  have c16 : T 16 0 = nI oz := hN.1.2.1.2.2.1
  have c17 : T 17 0 = nI tk := hN.1.2.1.2.2.2.1
  have c32 : T 32 0 = nI lz := hN.1.2.1.2.2.2.2.1
  have c33 : T 33 0 = nI nx := hN.1.2.1.2.2.2.2.2
  have a1 : Z 0 1 = nI gz := hN.1.2.2.1.1
  have a2 : Z 0 2 = nI bz := hN.1.2.2.1.2.1
  have a3 : Z 0 3 = nI oz := hN.1.2.2.1.2.2.1
  have a8 : Z 0 8 = nI tk := hN.1.2.2.1.2.2.2.1
  have a9 : Z 0 9 = nI lz := hN.1.2.2.1.2.2.2.2.1
  have a40 : T 40 0 = Z 0 0 := hN.1.2.2.1.2.2.2.2.2.1
  have a39 : T 39 0 = Z 0 7 := hN.1.2.2.1.2.2.2.2.2.2
  by_cases hg : xhas sq 4
  · obtain ⟨sn9, hsn, rfl⟩ := xhas_n hg (by omega)
    obtain ⟨hga, hgi⟩ := qIdx hN
    have hs4 : nI 0 ≤ nI sn9 ∧ nI sn9 ≤ nI 3 := ⟨nI_le (by omega) (by omega), nI_le (by omega) (by omega)⟩
    by_cases hw : nI 0 ≤ wh ∧ wh ≤ nI 2
    · obtain ⟨wn, -, hwn, rfl⟩ := xnat_in (by decide) (by decide) hw
      exact ⟨_, V, E, P, T, Ts, Tt, S, M, Z, h, (l_X9_stages l dC dI cI cF cC cZ cQ cS b o sn tr ad V E P T Ts Tt S bz sn9 (nI wn) (by first | assumption | omega) (by first | assumption | omega) (by first | assumption | omega) (by first | assumption | omega)), (l_X10_stages l dC dI cI cF cC cZ cQ cS bm M Z bz sn9 wn (by first | assumption | omega) (by first | assumption | omega) (by first | assumption | omega) (by first | assumption | omega) (by first | assumption | omega) (by first | assumption | omega) (by first | assumption | omega)).r ((qStage hN hsn hwn).symm)⟩
    · exact ⟨_, V, E, P, T, Ts, Tt, S, M, Z, h, (l_X9_stages l dC dI cI cF cC cZ cQ cS b o sn tr ad V E P T Ts Tt S bz sn9 wh (by first | assumption | omega) (by first | assumption | omega) (by first | assumption | omega) (by first | assumption | omega)), (l_X10_stageb l dC dI cI cF cC cZ cQ cS bm M Z sn9 wh (by first | assumption | omega) (by first | assumption | omega)).r ((eStageBad hw).symm)⟩
  · exact ⟨_, V, E, P, T, Ts, Tt, S, M, Z, h, (l_X9_stageu l dC dI cI cF cC cZ cQ cS b o sn tr ad V E P T Ts Tt S sq wh (by first | assumption | omega)), (l_X10_stageu l dC dI cI cF cC cZ cQ cS bm M Z sq wh (by first | assumption | omega)).r rfl⟩
set_option maxHeartbeats 4000000 in
set_option maxRecDepth 100000 in
theorem P_orderTold (h : Rel V E T Ts S M Z) (oq wh : Int32) : Pair l dC dI cI cF cC cZ cQ cS b o sn tr ad bm yX9_orderTold wsX9_orderTold yX10_orderTold wsX10_orderTold [.int oq, .int wh] V E P T Ts Tt S M Z := by
  obtain ⟨⟨gz, bz, oz, tk, lz, nx, hN⟩, ⟨ol, sz, v11, v12, m0, hH⟩, hK, tl, htl, v0, m2, htx⟩ := id h
  have hol : ol < 4 := hH.1
  have hsz : sz ≤ 4 := hH.2.1
  have hgz : gz ≤ 12 := hN.1.1.1
  have hbz : bz ≤ 40 := hN.1.1.2.1
  have hoz : oz ≤ 30 := hN.1.1.2.2.1
  have hlz : lz ≤ 10 := hN.1.1.2.2.2.1
  have hnx : nx < 10 := hN.1.1.2.2.2.2.1
  have c0 : T 0 0 = nI gz := hN.1.2.1.1
  have c5 : T 5 0 = nI bz := hN.1.2.1.2.1
  have c16 : T 16 0 = nI oz := hN.1.2.1.2.2.1
  have c17 : T 17 0 = nI tk := hN.1.2.1.2.2.2.1
  have c32 : T 32 0 = nI lz := hN.1.2.1.2.2.2.2.1
  have c33 : T 33 0 = nI nx := hN.1.2.1.2.2.2.2.2
  have a1 : Z 0 1 = nI gz := hN.1.2.2.1.1
  have a2 : Z 0 2 = nI bz := hN.1.2.2.1.2.1
  have a3 : Z 0 3 = nI oz := hN.1.2.2.1.2.2.1
  have a8 : Z 0 8 = nI tk := hN.1.2.2.1.2.2.2.1
  have a9 : Z 0 9 = nI lz := hN.1.2.2.1.2.2.2.2.1
  have a40 : T 40 0 = Z 0 0 := hN.1.2.2.1.2.2.2.2.2.1
  have a39 : T 39 0 = Z 0 7 := hN.1.2.2.1.2.2.2.2.2.2
  by_cases hg : xhas oq oz
  · obtain ⟨ko, hk, rfl⟩ := xhas_n hg (by omega)
    by_cases hw : nI 0 ≤ wh ∧ wh ≤ nI 8
    · obtain ⟨wn, -, hwn, rfl⟩ := xnat_in (by decide) (by decide) hw
      exact ⟨_, V, E, P, T, Ts, Tt, S, M, Z, h, (l_X9_orderTolds l dC dI cI cF cC cZ cQ cS b o sn tr ad V E P T Ts Tt S oz ko (nI wn) (by first | assumption | omega) (by first | assumption | omega) (by first | assumption | omega)), (l_X10_orderTolds l dC dI cI cF cC cZ cQ cS bm M Z oz ko wn (by first | assumption | omega) (by first | assumption | omega) (by first | assumption | omega) (by first | assumption | omega) (by first | assumption | omega)).r ((qOrder hN hk hwn).symm)⟩
    · exact ⟨_, V, E, P, T, Ts, Tt, S, M, Z, h, (l_X9_orderTolds l dC dI cI cF cC cZ cQ cS b o sn tr ad V E P T Ts Tt S oz ko wh (by first | assumption | omega) (by first | assumption | omega) (by first | assumption | omega)), (l_X10_orderToldb l dC dI cI cF cC cZ cQ cS bm M Z oz ko wh (by first | assumption | omega) (by first | assumption | omega) (by first | assumption | omega) (by first | assumption | omega)).r ((eOrderBad hw).symm)⟩
  · exact ⟨_, V, E, P, T, Ts, Tt, S, M, Z, h, (l_X9_orderToldu l dC dI cI cF cC cZ cQ cS b o sn tr ad V E P T Ts Tt S oz oq wh (by first | assumption | omega) (by first | assumption | omega) (by first | assumption | omega)), (l_X10_orderToldu l dC dI cI cF cC cZ cQ cS bm M Z oz oq wh (by first | assumption | omega) (by first | assumption | omega) (by first | assumption | omega)).r rfl⟩
set_option maxHeartbeats 4000000 in
set_option maxRecDepth 100000 in
theorem P_taken (h : Rel V E T Ts S M Z) (oq pq wh : Int32) : Pair l dC dI cI cF cC cZ cQ cS b o sn tr ad bm yX9_taken wsX9_taken yX10_taken wsX10_taken [.int oq, .int pq, .int wh] V E P T Ts Tt S M Z := by
  obtain ⟨⟨gz, bz, oz, tk, lz, nx, hN⟩, ⟨ol, sz, v11, v12, m0, hH⟩, hK, tl, htl, v0, m2, htx⟩ := id h
  have hol : ol < 4 := hH.1
  have hsz : sz ≤ 4 := hH.2.1
  have hgz : gz ≤ 12 := hN.1.1.1
  have hbz : bz ≤ 40 := hN.1.1.2.1
  have hoz : oz ≤ 30 := hN.1.1.2.2.1
  have hlz : lz ≤ 10 := hN.1.1.2.2.2.1
  have hnx : nx < 10 := hN.1.1.2.2.2.2.1
  have c0 : T 0 0 = nI gz := hN.1.2.1.1
  have c5 : T 5 0 = nI bz := hN.1.2.1.2.1
  have c16 : T 16 0 = nI oz := hN.1.2.1.2.2.1
  have c17 : T 17 0 = nI tk := hN.1.2.1.2.2.2.1
  have c32 : T 32 0 = nI lz := hN.1.2.1.2.2.2.2.1
  have c33 : T 33 0 = nI nx := hN.1.2.1.2.2.2.2.2
  have a1 : Z 0 1 = nI gz := hN.1.2.2.1.1
  have a2 : Z 0 2 = nI bz := hN.1.2.2.1.2.1
  have a3 : Z 0 3 = nI oz := hN.1.2.2.1.2.2.1
  have a8 : Z 0 8 = nI tk := hN.1.2.2.1.2.2.2.1
  have a9 : Z 0 9 = nI lz := hN.1.2.2.1.2.2.2.2.1
  have a40 : T 40 0 = Z 0 0 := hN.1.2.2.1.2.2.2.2.2.1
  have a39 : T 39 0 = Z 0 7 := hN.1.2.2.1.2.2.2.2.2.2
  by_cases hg : xhas oq oz
  · obtain ⟨ko, hk, rfl⟩ := xhas_n hg (by omega)
    obtain ⟨-, ⟨-, e9, -, -, e8⟩, b11, -⟩ := hN.2.2.2.1 ko (by omega)
    obtain ⟨ft, pt, f1, f2, f3⟩ := b11 hk
    have h70 := hN.tk70
    by_cases he : eTaken pq wh (T 24 ko) = nI 0
    · obtain ⟨q1, q2⟩ := xif2_ok (by decide) (by decide) he
      have hw : nI 0 ≤ wh ∧ wh ≤ nI 1 := Classical.byContradiction fun c => q1 (Or.inr c)
      obtain ⟨wn, -, hwn, rfl⟩ := xnat_in (by decide) (by decide) hw
      obtain ⟨pl, pb, rfl⟩ := nI_of (fun c => q1 (Or.inl c))
      have hpl : pl < pt := by
        have q3 := Classical.not_not.mp q2
        rw [f2] at q3
        exact Nat.lt_of_not_le fun c => Int32.not_le.mpr q3 (nI_le c pb)
      have hpt : zO (Z 0) ko 9 = nI pt := e9.symm.trans f2
      have hft : zO (Z 0) ko 8 = nI ft := e8.symm.trans f1
      exact ⟨_, V, E, P, T, Ts, Tt, S, M, Z, h, (l_X9_takens l dC dI cI cF cC cZ cQ cS b o sn tr ad V E P T Ts Tt S oz ko pt ft pl (nI wn) (by first | assumption | omega) (by first | assumption | omega) (by first | assumption | omega) f2 f1 (by first | assumption | omega) (by first | assumption | omega) (by first | assumption | omega)), (l_X10_takens l dC dI cI cF cC cZ cQ cS bm M Z oz ko pt ft pl wn (by first | assumption | omega) (by first | assumption | omega) (by first | assumption | omega) (by first | assumption | omega) (by first | assumption | omega) (by first | assumption | omega) (by first | assumption | omega) (by first | assumption | omega) (by first | assumption | omega)).r ((qTaken hN (by omega) hwn).symm)⟩
    · have he2 : ¬ eTaken pq wh (zO (Z 0) ko 9) = nI 0 := by rw [← e9]; exact he
      exact ⟨_, V, E, P, T, Ts, Tt, S, M, Z, h, (l_X9_takene l dC dI cI cF cC cZ cQ cS b o sn tr ad V E P T Ts Tt S oz ko pq wh (by first | assumption | omega) (by first | assumption | omega) (by first | assumption | omega) (by first | assumption | omega)), (l_X10_takene l dC dI cI cF cC cZ cQ cS bm M Z oz ko pq wh (by first | assumption | omega) (by first | assumption | omega) (by first | assumption | omega) (by first | assumption | omega)).r (by rw [e9])⟩
  · exact ⟨_, V, E, P, T, Ts, Tt, S, M, Z, h, (l_X9_takenu l dC dI cI cF cC cZ cQ cS b o sn tr ad V E P T Ts Tt S oz oq pq wh (by first | assumption | omega) (by first | assumption | omega) (by first | assumption | omega)), (l_X10_takenu l dC dI cI cF cC cZ cQ cS bm M Z oz oq pq wh (by first | assumption | omega) (by first | assumption | omega) (by first | assumption | omega)).r rfl⟩
set_option maxHeartbeats 4000000 in
set_option maxRecDepth 100000 in
theorem P_wouldExpire (h : Rel V E T Ts S M Z) (bq days : Int32) : Pair l dC dI cI cF cC cZ cQ cS b o sn tr ad bm yX9_wouldExpire wsX9_wouldExpire yX10_wouldExpire wsX10_wouldExpire [.int bq, .int days] V E P T Ts Tt S M Z := by
  obtain ⟨⟨gz, bz, oz, tk, lz, nx, hN⟩, ⟨ol, sz, v11, v12, m0, hH⟩, hK, tl, htl, v0, m2, htx⟩ := id h
  have hol : ol < 4 := hH.1
  have hsz : sz ≤ 4 := hH.2.1
  have hgz : gz ≤ 12 := hN.1.1.1
  have hbz : bz ≤ 40 := hN.1.1.2.1
  have hoz : oz ≤ 30 := hN.1.1.2.2.1
  have hlz : lz ≤ 10 := hN.1.1.2.2.2.1
  have hnx : nx < 10 := hN.1.1.2.2.2.2.1
  have c0 : T 0 0 = nI gz := hN.1.2.1.1
  have c5 : T 5 0 = nI bz := hN.1.2.1.2.1
  have c16 : T 16 0 = nI oz := hN.1.2.1.2.2.1
  have c17 : T 17 0 = nI tk := hN.1.2.1.2.2.2.1
  have c32 : T 32 0 = nI lz := hN.1.2.1.2.2.2.2.1
  have c33 : T 33 0 = nI nx := hN.1.2.1.2.2.2.2.2
  have a1 : Z 0 1 = nI gz := hN.1.2.2.1.1
  have a2 : Z 0 2 = nI bz := hN.1.2.2.1.2.1
  have a3 : Z 0 3 = nI oz := hN.1.2.2.1.2.2.1
  have a8 : Z 0 8 = nI tk := hN.1.2.2.1.2.2.2.1
  have a9 : Z 0 9 = nI lz := hN.1.2.2.1.2.2.2.2.1
  have a40 : T 40 0 = Z 0 0 := hN.1.2.2.1.2.2.2.2.2.1
  have a39 : T 39 0 = Z 0 7 := hN.1.2.2.1.2.2.2.2.2.2
  by_cases hg : xhas bq bz
  · obtain ⟨kb, hk, rfl⟩ := xhas_n hg (by omega)
    obtain ⟨hga, hgi⟩ := qIdx hN
    by_cases hd : nI 1 ≤ days ∧ days ≤ nI 60
    · obtain ⟨dn, -, hdn, rfl⟩ := xnat_in (by decide) (by decide) hd
      have key : RelN 1 gz bz oz tk lz nx (xT (xT (xT T 5 (fun _ => nI bz)) 32 (fun _ => nI lz)) 33 (fun _ => nI nx)) (zcp (zcp (Z 0) (Z 3) 1002) (zps (Z 0) bz dn).2 1002) :=
        RelN.congr (z := Z 0) (
          RelN.congrT hN (fun k hk => by
            rcases hk with rfl | rfl | rfl | rfl | rfl | rfl | rfl | rfl <;> first | rfl | exact c0.symm | exact c5.symm | exact c16.symm | exact c17.symm | exact c32.symm | exact c33.symm) (fun k _ hk => by
            rw [xT_ne _ _ (by omega), xT_ne _ _ (by omega), xT_ne _ _ (by omega)])
        ) (fun k hk => (if_pos hk).trans (if_pos hk))
      exact ⟨_, V, E, P, xT (xT (xT T 5 (fun _ => nI bz)) 32 (fun _ => nI lz)) 33 (fun _ => nI nx), Ts, xT (xT (xT (xT (xT (xT (xT (xT (xT (xT (xT (xT T 5 (fun _ => nI bz)) 8 ((xpass bz (T 6) (T 2) (T 30) ((T 38) 1) ((T 38) 2) (nI 0, T 40 0, T 8, T 9, T 13, T 11, lz, nx, T 34, T 35, T 36, T 37) dn).2.2.1)) 9 ((xpass bz (T 6) (T 2) (T 30) ((T 38) 1) ((T 38) 2) (nI 0, T 40 0, T 8, T 9, T 13, T 11, lz, nx, T 34, T 35, T 36, T 37) dn).2.2.2.1)) 11 ((xpass bz (T 6) (T 2) (T 30) ((T 38) 1) ((T 38) 2) (nI 0, T 40 0, T 8, T 9, T 13, T 11, lz, nx, T 34, T 35, T 36, T 37) dn).2.2.2.2.2.1)) 13 ((xpass bz (T 6) (T 2) (T 30) ((T 38) 1) ((T 38) 2) (nI 0, T 40 0, T 8, T 9, T 13, T 11, lz, nx, T 34, T 35, T 36, T 37) dn).2.2.2.2.1)) 32 (fun _ => nI ((xpass bz (T 6) (T 2) (T 30) ((T 38) 1) ((T 38) 2) (nI 0, T 40 0, T 8, T 9, T 13, T 11, lz, nx, T 34, T 35, T 36, T 37) dn).2.2.2.2.2.2.1))) 33 (fun _ => nI ((xpass bz (T 6) (T 2) (T 30) ((T 38) 1) ((T 38) 2) (nI 0, T 40 0, T 8, T 9, T 13, T 11, lz, nx, T 34, T 35, T 36, T 37) dn).2.2.2.2.2.2.2.1))) 34 ((xpass bz (T 6) (T 2) (T 30) ((T 38) 1) ((T 38) 2) (nI 0, T 40 0, T 8, T 9, T 13, T 11, lz, nx, T 34, T 35, T 36, T 37) dn).2.2.2.2.2.2.2.2.1)) 35 ((xpass bz (T 6) (T 2) (T 30) ((T 38) 1) ((T 38) 2) (nI 0, T 40 0, T 8, T 9, T 13, T 11, lz, nx, T 34, T 35, T 36, T 37) dn).2.2.2.2.2.2.2.2.2.1)) 36 ((xpass bz (T 6) (T 2) (T 30) ((T 38) 1) ((T 38) 2) (nI 0, T 40 0, T 8, T 9, T 13, T 11, lz, nx, T 34, T 35, T 36, T 37) dn).2.2.2.2.2.2.2.2.2.2.1)) 37 ((xpass bz (T 6) (T 2) (T 30) ((T 38) 1) ((T 38) 2) (nI 0, T 40 0, T 8, T 9, T 13, T 11, lz, nx, T 34, T 35, T 36, T 37) dn).2.2.2.2.2.2.2.2.2.2.2)) 40 (fun _ => (xpass bz (T 6) (T 2) (T 30) ((T 38) 1) ((T 38) 2) (nI 0, T 40 0, T 8, T 9, T 13, T 11, lz, nx, T 34, T 35, T 36, T 37) dn).2.1), S, M, xT (xT Z 0 (zcp (zcp (Z 0) (Z 3) 1002) (zps (Z 0) bz dn).2 1002)) 3 (zcp (Z 0) (Z 3) 1002), ⟨⟨gz, bz, oz, tk, lz, nx, key⟩, ⟨ol, sz, v11, v12, m0, hH⟩, hK, tl, htl, v0, m2, htx⟩, (l_X9_wouldExpires l dC dI cI cF cC cZ cQ cS b o sn tr ad V E P T Ts Tt S bz lz nx kb dn (by first | assumption | omega) (by first | assumption | omega) (by first | assumption | omega) (by first | assumption | omega) (by first | assumption | omega) (by first | assumption | omega) (by first | assumption | omega) (by first | assumption | omega) (by first | assumption | omega) (by first | assumption | omega)), (l_X10_wouldExpires l dC dI cI cF cC cZ cQ cS bm M Z bz kb dn (by first | assumption | omega) (by first | assumption | omega) (by first | assumption | omega) (by first | assumption | omega) (by first | assumption | omega) (by first | assumption | omega)).r ((qExpire hN hk).symm)⟩
    · exact ⟨_, V, E, P, T, Ts, Tt, S, M, Z, h, (l_X9_wouldExpiree l dC dI cI cF cC cZ cQ cS b o sn tr ad V E P T Ts Tt S bz kb days (by first | assumption | omega) (by first | assumption | omega) (by first | assumption | omega) (by first | assumption | omega)), (l_X10_wouldExpiree l dC dI cI cF cC cZ cQ cS bm M Z bz kb days (by first | assumption | omega) (by first | assumption | omega) (by first | assumption | omega) (by first | assumption | omega)).r rfl⟩
  · exact ⟨_, V, E, P, T, Ts, Tt, S, M, Z, h, (l_X9_wouldExpireu l dC dI cI cF cC cZ cQ cS b o sn tr ad V E P T Ts Tt S bz bq days (by first | assumption | omega) (by first | assumption | omega) (by first | assumption | omega)), (l_X10_wouldExpireu l dC dI cI cF cC cZ cQ cS bm M Z bz bq days (by first | assumption | omega) (by first | assumption | omega) (by first | assumption | omega)).r rfl⟩
set_option maxHeartbeats 4000000 in
set_option maxRecDepth 100000 in
theorem P_stageIn (h : Rel V E T Ts S M Z) (bq sv : Int32) : Pair l dC dI cI cF cC cZ cQ cS b o sn tr ad bm yX9_stageIn wsX9_stageIn yX10_stageIn wsX10_stageIn [.int bq, .int sv] V E P T Ts Tt S M Z := by
  obtain ⟨⟨gz, bz, oz, tk, lz, nx, hN⟩, ⟨ol, sz, v11, v12, m0, hH⟩, hK, tl, htl, v0, m2, htx⟩ := id h
  have hol : ol < 4 := hH.1
  have hsz : sz ≤ 4 := hH.2.1
  have hgz : gz ≤ 12 := hN.1.1.1
  have hbz : bz ≤ 40 := hN.1.1.2.1
  have hoz : oz ≤ 30 := hN.1.1.2.2.1
  have hlz : lz ≤ 10 := hN.1.1.2.2.2.1
  have hnx : nx < 10 := hN.1.1.2.2.2.2.1
  have c0 : T 0 0 = nI gz := hN.1.2.1.1
  have c5 : T 5 0 = nI bz := hN.1.2.1.2.1
  have c16 : T 16 0 = nI oz := hN.1.2.1.2.2.1
  have c17 : T 17 0 = nI tk := hN.1.2.1.2.2.2.1
  have c32 : T 32 0 = nI lz := hN.1.2.1.2.2.2.2.1
  have c33 : T 33 0 = nI nx := hN.1.2.1.2.2.2.2.2
  have a1 : Z 0 1 = nI gz := hN.1.2.2.1.1
  have a2 : Z 0 2 = nI bz := hN.1.2.2.1.2.1
  have a3 : Z 0 3 = nI oz := hN.1.2.2.1.2.2.1
  have a8 : Z 0 8 = nI tk := hN.1.2.2.1.2.2.2.1
  have a9 : Z 0 9 = nI lz := hN.1.2.2.1.2.2.2.2.1
  have a40 : T 40 0 = Z 0 0 := hN.1.2.2.1.2.2.2.2.2.1
  have a39 : T 39 0 = Z 0 7 := hN.1.2.2.1.2.2.2.2.2.2
  by_cases he : eSin bq sv bz = nI 0
  · have q0 := xif1_ok (by decide) he
    have hg : xhas bq bz := Classical.byContradiction fun c => q0 (Or.inl c)
    have hw : nI 1 ≤ sv ∧ sv ≤ nI 3 := Classical.byContradiction fun c => q0 (Or.inr c)
    obtain ⟨kb, hk, rfl⟩ := xhas_n hg (by omega)
    obtain ⟨sn9, hs1, hs3, rfl⟩ := xnat_in (by decide) (by decide) hw
    have hsn : 1 ≤ sn9 ∧ sn9 ≤ 3 := ⟨hs1, hs3⟩
    obtain ⟨⟨e0, -, e2, e3, -⟩, -, b11, -⟩ := hN.2.2.1 kb (by omega)
    obtain ⟨⟨gk, g1, hgk⟩, ⟨dl, hd60, hdl, -⟩, -⟩ := b11 hk
    have hg12 : gk < 12 := by omega
    have hgk2 : zB (Z 0) kb 0 = nI gk := e0.symm.trans hgk
    have hdl2 : zB (Z 0) kb 2 = nI dl := e2.symm.trans hdl
    by_cases hsh : T 9 kb = 0
    · have hsh2 : zB (Z 0) kb 3 = 0 := e3.symm.trans hsh
      exact ⟨_, V, E, P, T, Ts, Tt, S, M, Z, h, (l_X9_stageInn l dC dI cI cF cC cZ cQ cS b o sn tr ad V E P T Ts Tt S bz kb gk dl sn9 (by first | assumption | omega) (by first | assumption | omega) (by first | assumption | omega) (by first | assumption | omega) (by first | assumption | omega) (by first | assumption | omega) (by first | assumption | omega) (by first | assumption | omega) (by first | assumption | omega) (by first | assumption | omega)), (l_X10_stageInn l dC dI cI cF cC cZ cQ cS bm M Z bz kb gk dl sn9 (by first | assumption | omega) (by first | assumption | omega) (by first | assumption | omega) (by first | assumption | omega) (by first | assumption | omega) (by first | assumption | omega) (by first | assumption | omega) (by first | assumption | omega) (by first | assumption | omega) (by first | assumption | omega)).r rfl⟩
    · have hsh2 : ¬ zB (Z 0) kb 3 = 0 := fun c => hsh (e3.trans c)
      exact ⟨_, V, E, P, T, Ts, Tt, S, M, Z, h, (l_X9_stageIns l dC dI cI cF cC cZ cQ cS b o sn tr ad V E P T Ts Tt S bz kb gk dl sn9 (by first | assumption | omega) (by first | assumption | omega) (by first | assumption | omega) (by first | assumption | omega) (by first | assumption | omega) (by first | assumption | omega) (by first | assumption | omega) (by first | assumption | omega) (by first | assumption | omega) (by first | assumption | omega)), (l_X10_stageIns l dC dI cI cF cC cZ cQ cS bm M Z bz kb gk dl sn9 (by first | assumption | omega) (by first | assumption | omega) (by first | assumption | omega) (by first | assumption | omega) (by first | assumption | omega) (by first | assumption | omega) (by first | assumption | omega) (by first | assumption | omega) (by first | assumption | omega) (by first | assumption | omega)).r ((qReach hN hg12).symm)⟩
  · exact ⟨_, V, E, P, T, Ts, Tt, S, M, Z, h, (l_X9_stageInu l dC dI cI cF cC cZ cQ cS b o sn tr ad V E P T Ts Tt S bz bq sv (by first | assumption | omega) (by first | assumption | omega) (by first | assumption | omega)), (l_X10_stageInu l dC dI cI cF cC cZ cQ cS bm M Z bz bq sv (by first | assumption | omega) (by first | assumption | omega) (by first | assumption | omega)).r rfl⟩
set_option maxHeartbeats 4000000 in
set_option maxRecDepth 100000 in
theorem P_event (h : Rel V E T Ts S M Z) (bv wh : Int32) : Pair l dC dI cI cF cC cZ cQ cS b o sn tr ad bm yX9_event wsX9_event yX10_event wsX10_event [.int bv, .int wh] V E P T Ts Tt S M Z := by
  obtain ⟨⟨gz, bz, oz, tk, lz, nx, hN⟩, ⟨ol, sz, v11, v12, m0, hH⟩, hK, tl, htl, v0, m2, htx⟩ := id h
  have hol : ol < 4 := hH.1
  have hsz : sz ≤ 4 := hH.2.1
  have hgz : gz ≤ 12 := hN.1.1.1
  have hbz : bz ≤ 40 := hN.1.1.2.1
  have hoz : oz ≤ 30 := hN.1.1.2.2.1
  have hlz : lz ≤ 10 := hN.1.1.2.2.2.1
  have hnx : nx < 10 := hN.1.1.2.2.2.2.1
  have c0 : T 0 0 = nI gz := hN.1.2.1.1
  have c5 : T 5 0 = nI bz := hN.1.2.1.2.1
  have c16 : T 16 0 = nI oz := hN.1.2.1.2.2.1
  have c17 : T 17 0 = nI tk := hN.1.2.1.2.2.2.1
  have c32 : T 32 0 = nI lz := hN.1.2.1.2.2.2.2.1
  have c33 : T 33 0 = nI nx := hN.1.2.1.2.2.2.2.2
  have a1 : Z 0 1 = nI gz := hN.1.2.2.1.1
  have a2 : Z 0 2 = nI bz := hN.1.2.2.1.2.1
  have a3 : Z 0 3 = nI oz := hN.1.2.2.1.2.2.1
  have a8 : Z 0 8 = nI tk := hN.1.2.2.1.2.2.2.1
  have a9 : Z 0 9 = nI lz := hN.1.2.2.1.2.2.2.2.1
  have a40 : T 40 0 = Z 0 0 := hN.1.2.2.1.2.2.2.2.2.1
  have a39 : T 39 0 = Z 0 7 := hN.1.2.2.1.2.2.2.2.2.2
  by_cases he : eEvent bv wh lz = nI 0
  · obtain ⟨q1, q2⟩ := xif2_ok (by decide) (by decide) he
    have hw : nI 0 ≤ wh ∧ wh ≤ nI 3 := Classical.byContradiction fun c => q1 (Or.inr c)
    obtain ⟨wn, -, hwn, rfl⟩ := xnat_in (by decide) (by decide) hw
    obtain ⟨bk, pb, rfl⟩ := nI_of (fun c => q1 (Or.inl c))
    have hbk : bk < lz := by
      have q3 := Classical.not_not.mp q2
      exact Nat.lt_of_not_le fun c => Int32.not_le.mpr q3 (nI_le c pb)
    exact ⟨_, V, E, P, T, Ts, Tt, S, M, Z, h, (l_X9_events l dC dI cI cF cC cZ cQ cS b o sn tr ad V E P T Ts Tt S lz nx bk (nI wn) (by first | assumption | omega) (by first | assumption | omega) (by first | assumption | omega) (by first | assumption | omega) (by first | assumption | omega) (by first | assumption | omega)), (l_X10_events l dC dI cI cF cC cZ cQ cS bm M Z lz bk wn (by first | assumption | omega) (by first | assumption | omega) (by first | assumption | omega) (by first | assumption | omega) (by first | assumption | omega)).r ((qEvent hN hbk hwn).symm)⟩
  · exact ⟨_, V, E, P, T, Ts, Tt, S, M, Z, h, (l_X9_evente l dC dI cI cF cC cZ cQ cS b o sn tr ad V E P T Ts Tt S lz bv wh (by first | assumption | omega) (by first | assumption | omega)), (l_X10_evente l dC dI cI cF cC cZ cQ cS bm M Z lz bv wh (by first | assumption | omega) (by first | assumption | omega)).r rfl⟩
set_option maxHeartbeats 4000000 in
set_option maxRecDepth 100000 in
theorem P_takes (h : Rel V E T Ts S M Z) (so ib nu : Int32) : Pair l dC dI cI cF cC cZ cQ cS b o sn tr ad bm yX9_takes wsX9_takes yX10_takes wsX10_takes [.int so, .int ib, .int nu] V E P T Ts Tt S M Z := by
  obtain ⟨⟨gz, bz, oz, tk, lz, nx, hN⟩, ⟨ol, sz, v11, v12, m0, hH⟩, hK, tl, htl, v0, m2, htx⟩ := id h
  have hol : ol < 4 := hH.1
  have hsz : sz ≤ 4 := hH.2.1
  have hgz : gz ≤ 12 := hN.1.1.1
  have hbz : bz ≤ 40 := hN.1.1.2.1
  have hoz : oz ≤ 30 := hN.1.1.2.2.1
  have hlz : lz ≤ 10 := hN.1.1.2.2.2.1
  have hnx : nx < 10 := hN.1.1.2.2.2.2.1
  have c0 : T 0 0 = nI gz := hN.1.2.1.1
  have c5 : T 5 0 = nI bz := hN.1.2.1.2.1
  have c16 : T 16 0 = nI oz := hN.1.2.1.2.2.1
  have c17 : T 17 0 = nI tk := hN.1.2.1.2.2.2.1
  have c32 : T 32 0 = nI lz := hN.1.2.1.2.2.2.2.1
  have c33 : T 33 0 = nI nx := hN.1.2.1.2.2.2.2.2
  have a1 : Z 0 1 = nI gz := hN.1.2.2.1.1
  have a2 : Z 0 2 = nI bz := hN.1.2.2.1.2.1
  have a3 : Z 0 3 = nI oz := hN.1.2.2.1.2.2.1
  have a8 : Z 0 8 = nI tk := hN.1.2.2.1.2.2.2.1
  have a9 : Z 0 9 = nI lz := hN.1.2.2.1.2.2.2.2.1
  have a40 : T 40 0 = Z 0 0 := hN.1.2.2.1.2.2.2.2.2.1
  have a39 : T 39 0 = Z 0 7 := hN.1.2.2.1.2.2.2.2.2.2
  exact ⟨_, V, E, P, T, Ts, Tt, S, M, Z, h, (l_X9_takes l dC dI cI cF cC cZ cQ cS b o sn tr ad V E P T Ts Tt S gz bz so ib nu (by first | assumption | omega) (by first | assumption | omega) (by first | assumption | omega) (by first | assumption | omega)), (l_X10_takes l dC dI cI cF cC cZ cQ cS bm M Z gz bz so ib nu (by first | assumption | omega) (by first | assumption | omega) (by first | assumption | omega) (by first | assumption | omega)).r rfl⟩
set_option maxHeartbeats 4000000 in
set_option maxRecDepth 100000 in
theorem P_count (h : Rel V E T Ts S M Z) (wh : Int32) : Pair l dC dI cI cF cC cZ cQ cS b o sn tr ad bm yX9_count wsX9_count yX10_count wsX10_count [.int wh] V E P T Ts Tt S M Z := by
  obtain ⟨⟨gz, bz, oz, tk, lz, nx, hN⟩, ⟨ol, sz, v11, v12, m0, hH⟩, hK, tl, htl, v0, m2, htx⟩ := id h
  have hol : ol < 4 := hH.1
  have hsz : sz ≤ 4 := hH.2.1
  have hgz : gz ≤ 12 := hN.1.1.1
  have hbz : bz ≤ 40 := hN.1.1.2.1
  have hoz : oz ≤ 30 := hN.1.1.2.2.1
  have hlz : lz ≤ 10 := hN.1.1.2.2.2.1
  have hnx : nx < 10 := hN.1.1.2.2.2.2.1
  have c0 : T 0 0 = nI gz := hN.1.2.1.1
  have c5 : T 5 0 = nI bz := hN.1.2.1.2.1
  have c16 : T 16 0 = nI oz := hN.1.2.1.2.2.1
  have c17 : T 17 0 = nI tk := hN.1.2.1.2.2.2.1
  have c32 : T 32 0 = nI lz := hN.1.2.1.2.2.2.2.1
  have c33 : T 33 0 = nI nx := hN.1.2.1.2.2.2.2.2
  have a1 : Z 0 1 = nI gz := hN.1.2.2.1.1
  have a2 : Z 0 2 = nI bz := hN.1.2.2.1.2.1
  have a3 : Z 0 3 = nI oz := hN.1.2.2.1.2.2.1
  have a8 : Z 0 8 = nI tk := hN.1.2.2.1.2.2.2.1
  have a9 : Z 0 9 = nI lz := hN.1.2.2.1.2.2.2.2.1
  have a40 : T 40 0 = Z 0 0 := hN.1.2.2.1.2.2.2.2.2.1
  have a39 : T 39 0 = Z 0 7 := hN.1.2.2.1.2.2.2.2.2.2
  by_cases hw : nI 0 ≤ wh ∧ wh ≤ nI 18
  · obtain ⟨wn, -, hwn, rfl⟩ := xnat_in (by decide) (by decide) hw
    exact ⟨_, V, E, P, T, Ts, Tt, S, M, Z, h, (l_X9_count l dC dI cI cF cC cZ cQ cS b o sn tr ad V E P T Ts Tt S sz tl gz bz oz (nI wn) (by first | assumption | omega) (by first | assumption | omega) (by first | assumption | omega) (by first | assumption | omega) (by first | assumption | omega) (by first | assumption | omega) (by first | assumption | omega)), (l_X10_counts l dC dI cI cF cC cZ cQ cS bm M Z sz tl bz oz wn (by first | assumption | omega) (by first | assumption | omega) (by first | assumption | omega) (by first | assumption | omega) (by first | assumption | omega) (by first | assumption | omega) (by first | assumption | omega) (by first | assumption | omega)).r ((qCount hN hwn).symm)⟩
  · exact ⟨_, V, E, P, T, Ts, Tt, S, M, Z, h, (l_X9_count l dC dI cI cF cC cZ cQ cS b o sn tr ad V E P T Ts Tt S sz tl gz bz oz wh (by first | assumption | omega) (by first | assumption | omega) (by first | assumption | omega) (by first | assumption | omega) (by first | assumption | omega) (by first | assumption | omega) (by first | assumption | omega)), (l_X10_countb l dC dI cI cF cC cZ cQ cS bm M Z wh (by first | assumption | omega)).r ((eCountBad hw).symm)⟩
set_option maxHeartbeats 4000000 in
set_option maxRecDepth 100000 in
theorem P_unitPrice (h : Rel V E T Ts S M Z) (bq : Int32) : ∃ r : UInt32, pXf l (dC, dI) (xtys cI cF cC cZ cQ cS) yX9_unitPrice wsX9_unitPrice [.ref (b 0), .int bq] (clsW cI cF cC cQ cS b o sn tr ad V E P T Ts Tt S) r ∧ pXf l (dC, dI) (xtys cI cF cC cZ cQ cS) yX10_unitPrice wsX10_unitPrice [.ref (bm 0), .int bq] (modW cI cC cZ bm M Z) r := by
  obtain ⟨⟨gz, bz, oz, tk, lz, nx, hN⟩, ⟨ol, sz, v11, v12, m0, hH⟩, hK, tl, htl, v0, m2, htx⟩ := id h
  have hol : ol < 4 := hH.1
  have hsz : sz ≤ 4 := hH.2.1
  have hgz : gz ≤ 12 := hN.1.1.1
  have hbz : bz ≤ 40 := hN.1.1.2.1
  have hoz : oz ≤ 30 := hN.1.1.2.2.1
  have hlz : lz ≤ 10 := hN.1.1.2.2.2.1
  have hnx : nx < 10 := hN.1.1.2.2.2.2.1
  have c0 : T 0 0 = nI gz := hN.1.2.1.1
  have c5 : T 5 0 = nI bz := hN.1.2.1.2.1
  have c16 : T 16 0 = nI oz := hN.1.2.1.2.2.1
  have c17 : T 17 0 = nI tk := hN.1.2.1.2.2.2.1
  have c32 : T 32 0 = nI lz := hN.1.2.1.2.2.2.2.1
  have c33 : T 33 0 = nI nx := hN.1.2.1.2.2.2.2.2
  have a1 : Z 0 1 = nI gz := hN.1.2.2.1.1
  have a2 : Z 0 2 = nI bz := hN.1.2.2.1.2.1
  have a3 : Z 0 3 = nI oz := hN.1.2.2.1.2.2.1
  have a8 : Z 0 8 = nI tk := hN.1.2.2.1.2.2.2.1
  have a9 : Z 0 9 = nI lz := hN.1.2.2.1.2.2.2.2.1
  have a40 : T 40 0 = Z 0 0 := hN.1.2.2.1.2.2.2.2.2.1
  have a39 : T 39 0 = Z 0 7 := hN.1.2.2.1.2.2.2.2.2.2
  by_cases hg : xhas bq bz
  · obtain ⟨kb, hk, rfl⟩ := xhas_n hg (by omega)
    obtain ⟨hga, hgi⟩ := qIdx hN
    have hgb := hga kb hk
    have hmd := qMd hN
    have hmk := qBits hN
    exact ⟨_, (l_X9_unitPrices l dC dI cI cF cC cZ cQ cS b o sn tr ad V E P T Ts Tt S bz kb (by first | assumption | omega) (by first | assumption | omega) (by first | assumption | omega) (by first | assumption | omega) (by first | assumption | omega)), (l_X10_unitPrices l dC dI cI cF cC cZ cQ cS bm M Z bz kb (by first | assumption | omega) (by first | assumption | omega) (by first | assumption | omega) (by first | assumption | omega) (by first | assumption | omega)).r ((qPrice hN hk).symm)⟩
  · exact ⟨_, (l_X9_unitPriceu l dC dI cI cF cC cZ cQ cS b o sn tr ad V E P T Ts Tt S bz bq (by first | assumption | omega) (by first | assumption | omega) (by first | assumption | omega)), (l_X10_unitPriceu l dC dI cI cF cC cZ cQ cS bm M Z bz bq (by first | assumption | omega) (by first | assumption | omega) (by first | assumption | omega)).r rfl⟩
set_option maxHeartbeats 4000000 in
set_option maxRecDepth 100000 in
theorem P_markdown (h : Rel V E T Ts S M Z) (sq : Int32) : ∃ r : UInt32, pXf l (dC, dI) (xtys cI cF cC cZ cQ cS) yX9_markdown wsX9_markdown [.ref (b 0), .int sq] (clsW cI cF cC cQ cS b o sn tr ad V E P T Ts Tt S) r ∧ pXf l (dC, dI) (xtys cI cF cC cZ cQ cS) yX10_markdown wsX10_markdown [.ref (bm 0), .int sq] (modW cI cC cZ bm M Z) r := by
  obtain ⟨⟨gz, bz, oz, tk, lz, nx, hN⟩, ⟨ol, sz, v11, v12, m0, hH⟩, hK, tl, htl, v0, m2, htx⟩ := id h
  have hol : ol < 4 := hH.1
  have hsz : sz ≤ 4 := hH.2.1
  have hgz : gz ≤ 12 := hN.1.1.1
  have hbz : bz ≤ 40 := hN.1.1.2.1
  have hoz : oz ≤ 30 := hN.1.1.2.2.1
  have hlz : lz ≤ 10 := hN.1.1.2.2.2.1
  have hnx : nx < 10 := hN.1.1.2.2.2.2.1
  have c0 : T 0 0 = nI gz := hN.1.2.1.1
  have c5 : T 5 0 = nI bz := hN.1.2.1.2.1
  have c16 : T 16 0 = nI oz := hN.1.2.1.2.2.1
  have c17 : T 17 0 = nI tk := hN.1.2.1.2.2.2.1
  have c32 : T 32 0 = nI lz := hN.1.2.1.2.2.2.2.1
  have c33 : T 33 0 = nI nx := hN.1.2.1.2.2.2.2.2
  have a1 : Z 0 1 = nI gz := hN.1.2.2.1.1
  have a2 : Z 0 2 = nI bz := hN.1.2.2.1.2.1
  have a3 : Z 0 3 = nI oz := hN.1.2.2.1.2.2.1
  have a8 : Z 0 8 = nI tk := hN.1.2.2.1.2.2.2.1
  have a9 : Z 0 9 = nI lz := hN.1.2.2.1.2.2.2.2.1
  have a40 : T 40 0 = Z 0 0 := hN.1.2.2.1.2.2.2.2.2.1
  have a39 : T 39 0 = Z 0 7 := hN.1.2.2.1.2.2.2.2.2.2
  by_cases hg : xhas sq 4
  · obtain ⟨sn9, hsn, rfl⟩ := xhas_n hg (by omega)
    have hs4 : nI 0 ≤ nI sn9 ∧ nI sn9 ≤ nI 3 := ⟨nI_le (by omega) (by omega), nI_le (by omega) (by omega)⟩
    have hmk := qBits hN
    have e1 : T 31 sn9 = Z 0 (958 + sn9) := (hN.2.2.2.2.2.1 sn9 hsn).2.1
    exact ⟨_, (l_X9_markdowns l dC dI cI cF cC cZ cQ cS b o sn tr ad V E P T Ts Tt S sn9 (by first | assumption | omega)), (l_X10_markdowns l dC dI cI cF cC cZ cQ cS bm M Z sn9 (by first | assumption | omega) (by first | assumption | omega) (by first | assumption | omega)).r (by rw [e1])⟩
  · exact ⟨_, (l_X9_markdownu l dC dI cI cF cC cZ cQ cS b o sn tr ad V E P T Ts Tt S sq (by first | assumption | omega)), (l_X10_markdownu l dC dI cI cF cC cZ cQ cS bm M Z sq (by first | assumption | omega)).r rfl⟩
end PAIRS
