/-! A pair laid into the whole worlds (a trial). -/
theorem xV2 {V : Nat → Int32} {a b : Int32} (h1 : V 11 = a) (h2 : V 12 = b) : V = upd (upd V 11 a) 12 b := by
  funext k
  by_cases e : k = 12
  · subst e
    rw [upd_at, h2]
  · rw [upd_ne _ _ e]
    by_cases e1 : k = 11
    · subst e1
      rw [upd_at, h1]
    · rw [upd_ne _ _ e1]
set_option maxHeartbeats 4000000 in
set_option maxRecDepth 100000 in
theorem p_X9_addGoods (l : Launch) (dC : Nat → ClassId) (dI : Nat → Nat → Nat) (cI cF cC cZ cQ cS : ClassId) (b o sn tr : Nat → Nat) (ad : Nat → Nat → Nat) (V : Nat → Int32) (E : Nat → Nat → Int32) (P : Nat → UInt32) (T Ts Tt : Nat → Nat → Int32) (S : Nat → Nat → Nat → Int32) (ol sz gz : Nat) (price life : Int32)
    (hol : ol < 4) (hsz : sz ≤ 4) (hT0 : T 0 0 = nI gz) (hgz : gz < 12) (hpr : nI 1 ≤ price ∧ price ≤ nI 9999) (hli : nI 1 ≤ life ∧ life ≤ nI 60) :
    Met l yX9_addGood wsX9_addGood ({ frames := 5, cells := 0, slots := 0, locals := 125 }) (xPre (dC, dI) vwCl [.ref (b 0), .int price, .int life] (xtys cI cF cC cZ cQ cS) (clsW cI cF cC cQ cS b o sn tr ad (upd (upd V 11 (nI ol)) 12 (nI sz)) E P T Ts Tt S)) (xWi (dC, dI) vwCl (clsW cI cF cC cQ cS b o sn tr ad (upd (upd V 11 (nI ol)) 12 (nI sz)) E P T Ts Tt S) (fun r w => r = nI gz ∧ w = (clsW cI cF cC cQ cS b o sn tr ad (upd (upd V 11 (nI (xol ol sz))) 12 (nI (xsz sz))) E P (xT (xT (xT T 0 (fun _ => nI (gz + 1))) 1 (upd (T 1) gz price)) 2 (upd (T 2) gz life)) Ts Tt (xupS S ((ol + sz) % 4) T)))) 0 0 (va_B (clsW cI cF cC cQ cS b o sn tr ad (upd (upd V 11 (nI ol)) 12 (nI sz)) E P T Ts Tt S)) :=
  xframeT (L := (((clsF cI cF cC cQ cS b (o 0) (sn 0) (tr 0) ad (upd (upd V 11 (nI ol)) 12 (nI sz)) E P ++ stW cI cF cQ o T) ++ stW cI cF cQ sn Ts) ++ stW cI cF cQ tr Tt)) (R := hiW cI cF cQ ad S)
    (L' := (((clsF cI cF cC cQ cS b (o 0) (sn 0) (tr 0) ad (upd (upd V 11 (nI (xol ol sz))) 12 (nI (xsz sz))) E P ++ stW cI cF cQ o (xT (xT (xT T 0 (fun _ => nI (gz + 1))) 1 (upd (T 1) gz price)) 2 (upd (T 2) gz life))) ++ stW cI cF cQ sn Ts) ++ stW cI cF cQ tr Tt))
    (c_X9_addGoods l dC dI cI cF cC cZ cQ cS (b 0) o (.ref (sn 0)) (.ref (tr 0)) (b 13) (.ref (b 2)) (.ref (b 8)) (.ref (b 1)) (.int (V 0)) (.int (V 1)) (b 14) ad ol sz S T gz price life hol hsz hT0 hgz hpr hli)
    ([0, 13, 14] ++ (List.range 40).map (· + 15)) 135 rfl rfl rfl rfl rfl rfl
