/-! Contracts lifted into the whole worlds. -/
set_option maxHeartbeats 4000000 in
set_option maxRecDepth 100000 in
theorem l_X10_breakUnitse (l : Launch) (dC : Nat → ClassId) (dI : Nat → Nat → Nat) (cI cF cC cZ cQ cS : ClassId) (bm : Nat → Nat) (M : Nat → Int32) (Z : Nat → Nat → Int32) (bz : Nat) (kb : Nat) (un : Int32) (hz2 : (Z 0) 2 = nI bz) (hbz : bz ≤ 40) (hk : kb < bz) (he : ¬ eBreak un (zB (Z 0) kb 3) = nI 0) :
    pX l (dC, dI) (xtys cI cF cC cZ cQ cS) yX10_breakUnits wsX10_breakUnits [.ref (bm 0), .int (nI kb), .int un] (modW cI cC cZ bm M Z) (modW cI cC cZ bm M Z) (eBreak un (zB (Z 0) kb 3)) :=
  xroom (xframeR1 (c_X10_breakUnitse l dC dI cI cF cC cZ cQ cS (bm 0) (bm 1) (.ref (bm 2)) (.ref (bm 3)) (.ref (bm 4)) (.int (M 0)) (.int (M 1)) (.ref (bm 5)) (.int (M 2)) (.ref (bm 6)) (.ref (bm 7)) (.ref (bm 8)) (.ref (bm 9)) (.int (M 3)) (.int (M 4)) (.int (M 5)) (.int (M 6)) (.int (M 7)) (.int (M 8)) (.ref (bm 10)) (Z 0) bz kb un hz2 hbz hk he) ([0, 1]) (by rfl) rfl) (by decide) (by decide) (by decide) (by decide)
set_option maxHeartbeats 4000000 in
set_option maxRecDepth 100000 in
theorem l_X10_breakUnitss (l : Launch) (dC : Nat → ClassId) (dI : Nat → Nat → Nat) (cI cF cC cZ cQ cS : ClassId) (bm : Nat → Nat) (M : Nat → Int32) (Z : Nat → Nat → Int32) (pm : Nat) (bz : Nat) (kb : Nat) (un : Int32) (hq0 : M 0 = nI pm) (hpm : pm ≤ 4) (hz2 : (Z 0) 2 = nI bz) (hbz : bz ≤ 40) (hk : kb < bz) (hun : nI 1 ≤ un ∧ un ≤ nI 999) (hsh : un ≤ zB (Z 0) kb 3) :
    pX l (dC, dI) (xtys cI cF cC cZ cQ cS) yX10_breakUnits wsX10_breakUnits [.ref (bm 0), .int (nI kb), .int un] (modW cI cC cZ bm M Z) (modW cI cC cZ bm (upd M 0 (nI (if pm = 4 then 4 else pm + 1))) (xT (xT Z 0 (zwaste (Z 0) kb un 1)) 1 (zrec (Z 0) (Z 1) pm))) (zB (zwaste (Z 0) kb un 1) kb 3) :=
  xroom (xframeW1 (c_X10_breakUnitss l dC dI cI cF cC cZ cQ cS (bm 0) (bm 1) (bm 2) (.ref (bm 3)) (.ref (bm 4)) (.int (M 1)) (.ref (bm 5)) (.int (M 2)) (.ref (bm 6)) (.ref (bm 7)) (.ref (bm 8)) (.ref (bm 9)) (.int (M 3)) (.int (M 4)) (.int (M 5)) (.int (M 6)) (.int (M 7)) (.int (M 8)) (.ref (bm 10)) (Z 0) (Z 1) pm bz kb un hpm hz2 hbz hk hun hsh) ([0, 1, 2]) 11 (by (try rw [← hq0]); rfl) rfl rfl rfl (by (try rw [← hq0]); rfl)) (by decide) (by decide) (by decide) (by decide)
set_option maxHeartbeats 4000000 in
set_option maxRecDepth 100000 in
theorem l_X10_recallu (l : Launch) (dC : Nat → ClassId) (dI : Nat → Nat → Nat) (cI cF cC cZ cQ cS : ClassId) (bm : Nat → Nat) (M : Nat → Int32) (Z : Nat → Nat → Int32) (gz : Nat) (gq : Int32) (hz1 : (Z 0) 1 = nI gz) (hgz : gz ≤ 12) (hg : ¬ xhas gq gz) :
    pX l (dC, dI) (xtys cI cF cC cZ cQ cS) yX10_recall wsX10_recall [.ref (bm 0), .int gq] (modW cI cC cZ bm M Z) (modW cI cC cZ bm M Z) (-1) :=
  xroom (xframeR1 (c_X10_recallu l dC dI cI cF cC cZ cQ cS (bm 0) (bm 1) (.ref (bm 2)) (.ref (bm 3)) (.ref (bm 4)) (.int (M 0)) (.int (M 1)) (.ref (bm 5)) (.int (M 2)) (.ref (bm 6)) (.ref (bm 7)) (.ref (bm 8)) (.ref (bm 9)) (.int (M 3)) (.int (M 4)) (.int (M 5)) (.int (M 6)) (.int (M 7)) (.int (M 8)) (.ref (bm 10)) (Z 0) gz gq hz1 hgz hg) ([0, 1]) (by rfl) rfl) (by decide) (by decide) (by decide) (by decide)
set_option maxHeartbeats 4000000 in
set_option maxRecDepth 100000 in
theorem l_X10_recalle (l : Launch) (dC : Nat → ClassId) (dI : Nat → Nat → Nat) (cI cF cC cZ cQ cS : ClassId) (bm : Nat → Nat) (M : Nat → Int32) (Z : Nat → Nat → Int32) (gz : Nat) (kg : Nat) (bz : Nat) (hz1 : (Z 0) 1 = nI gz) (hgz : gz ≤ 12) (hk : kg < gz) (hz2 : (Z 0) 2 = nI bz) (hbz : bz ≤ 40) (he : ¬ eRecall (zsumIf (Z 0) 3 (nI kg) bz) = nI 0) :
    pX l (dC, dI) (xtys cI cF cC cZ cQ cS) yX10_recall wsX10_recall [.ref (bm 0), .int (nI kg)] (modW cI cC cZ bm M Z) (modW cI cC cZ bm M Z) (eRecall (zsumIf (Z 0) 3 (nI kg) bz)) :=
  xroom (xframeR1 (c_X10_recalle l dC dI cI cF cC cZ cQ cS (bm 0) (bm 1) (.ref (bm 2)) (.ref (bm 3)) (.ref (bm 4)) (.int (M 0)) (.int (M 1)) (.ref (bm 5)) (.int (M 2)) (.ref (bm 6)) (.ref (bm 7)) (.ref (bm 8)) (.ref (bm 9)) (.int (M 3)) (.int (M 4)) (.int (M 5)) (.int (M 6)) (.int (M 7)) (.int (M 8)) (.ref (bm 10)) (Z 0) gz kg bz hz1 hgz hk hz2 hbz he) ([0, 1]) (by rfl) rfl) (by decide) (by decide) (by decide) (by decide)
set_option maxHeartbeats 4000000 in
set_option maxRecDepth 100000 in
theorem l_X10_recalls (l : Launch) (dC : Nat → ClassId) (dI : Nat → Nat → Nat) (cI cF cC cZ cQ cS : ClassId) (bm : Nat → Nat) (M : Nat → Int32) (Z : Nat → Nat → Int32) (pm : Nat) (gz : Nat) (bz : Nat) (kg : Nat) (hq0 : M 0 = nI pm) (hpm : pm ≤ 4) (hz1 : (Z 0) 1 = nI gz) (hgz : gz ≤ 12) (hz2 : (Z 0) 2 = nI bz) (hbz : bz ≤ 40) (hk : kg < gz) (hun : ¬ zsumIf (Z 0) 3 (nI kg) bz = 0) :
    pX l (dC, dI) (xtys cI cF cC cZ cQ cS) yX10_recall wsX10_recall [.ref (bm 0), .int (nI kg)] (modW cI cC cZ bm M Z) (modW cI cC cZ bm (upd M 0 (nI (if pm = 4 then 4 else pm + 1))) (xT (xT Z 0 (zrc (Z 0) (nI kg) bz)) 1 (zrec (Z 0) (Z 1) pm))) (zsumIf (Z 0) 3 (nI kg) bz) :=
  xroom (xframeW1 (c_X10_recalls l dC dI cI cF cC cZ cQ cS (bm 0) (bm 1) (bm 2) (.ref (bm 3)) (.ref (bm 4)) (.int (M 1)) (.ref (bm 5)) (.int (M 2)) (.ref (bm 6)) (.ref (bm 7)) (.ref (bm 8)) (.ref (bm 9)) (.int (M 3)) (.int (M 4)) (.int (M 5)) (.int (M 6)) (.int (M 7)) (.int (M 8)) (.ref (bm 10)) (Z 0) (Z 1) pm gz bz kg hpm hz1 hgz hz2 hbz hk hun) ([0, 1, 2]) 11 (by (try rw [← hq0]); rfl) rfl rfl rfl (by (try rw [← hq0]); rfl)) (by decide) (by decide) (by decide) (by decide)
set_option maxHeartbeats 4000000 in
set_option maxRecDepth 100000 in
theorem l_X10_passe (l : Launch) (dC : Nat → ClassId) (dI : Nat → Nat → Nat) (cI cF cC cZ cQ cS : ClassId) (bm : Nat → Nat) (M : Nat → Int32) (Z : Nat → Nat → Int32) (days : Int32) (he : ¬ ePass days ((Z 0) 0) = nI 0) :
    pX l (dC, dI) (xtys cI cF cC cZ cQ cS) yX10_pass wsX10_pass [.ref (bm 0), .int days] (modW cI cC cZ bm M Z) (modW cI cC cZ bm M Z) (ePass days ((Z 0) 0)) :=
  xroom (xframeR1 (c_X10_passe l dC dI cI cF cC cZ cQ cS (bm 0) (bm 1) (.ref (bm 2)) (.ref (bm 3)) (.ref (bm 4)) (.int (M 0)) (.int (M 1)) (.ref (bm 5)) (.int (M 2)) (.ref (bm 6)) (.ref (bm 7)) (.ref (bm 8)) (.ref (bm 9)) (.int (M 3)) (.int (M 4)) (.int (M 5)) (.int (M 6)) (.int (M 7)) (.int (M 8)) (.ref (bm 10)) (Z 0) days he) ([0, 1]) (by rfl) rfl) (by decide) (by decide) (by decide) (by decide)
set_option maxHeartbeats 4000000 in
set_option maxRecDepth 100000 in
theorem l_X10_passs (l : Launch) (dC : Nat → ClassId) (dI : Nat → Nat → Nat) (cI cF cC cZ cQ cS : ClassId) (bm : Nat → Nat) (M : Nat → Int32) (Z : Nat → Nat → Int32) (pm : Nat) (bz : Nat) (dn : Nat) (hq0 : M 0 = nI pm) (hpm : pm ≤ 4) (hz2 : (Z 0) 2 = nI bz) (hbz : bz ≤ 40) (hgi : zidx (Z 0) bz) (hdn : dn ≤ 60) (hd : nI 1 ≤ nI dn ∧ nI dn ≤ nI 60) (hdy : (Z 0) 0 + nI dn ≤ nI 9999) :
    pX l (dC, dI) (xtys cI cF cC cZ cQ cS) yX10_pass wsX10_pass [.ref (bm 0), .int (nI dn)] (modW cI cC cZ bm M Z) (modW cI cC cZ bm (upd M 0 (nI (if pm = 4 then 4 else pm + 1))) (xT (xT Z 0 ((zps (Z 0) bz dn).2)) 1 (zrec (Z 0) (Z 1) pm))) ((zps (Z 0) bz dn).1) :=
  xroom (xframeW1 (c_X10_passs l dC dI cI cF cC cZ cQ cS (bm 0) (bm 1) (bm 2) (.ref (bm 3)) (.ref (bm 4)) (.int (M 1)) (.ref (bm 5)) (.int (M 2)) (.ref (bm 6)) (.ref (bm 7)) (.ref (bm 8)) (.ref (bm 9)) (.int (M 3)) (.int (M 4)) (.int (M 5)) (.int (M 6)) (.int (M 7)) (.int (M 8)) (.ref (bm 10)) (Z 0) (Z 1) pm bz dn hpm hz2 hbz hgi hdn hd hdy) ([0, 1, 2]) 11 (by (try rw [← hq0]); rfl) rfl rfl rfl (by (try rw [← hq0]); rfl)) (by decide) (by decide) (by decide) (by decide)
set_option maxHeartbeats 4000000 in
set_option maxRecDepth 100000 in
theorem l_X10_typee (l : Launch) (dC : Nat → ClassId) (dI : Nat → Nat → Nat) (cI cF cC cZ cQ cS : ClassId) (bm : Nat → Nat) (M : Nat → Int32) (Z : Nat → Nat → Int32) (tl : Nat) (ch : Int32) (hq0 : M 2 = nI tl) (htl : tl = 60) :
    pX l (dC, dI) (xtys cI cF cC cZ cQ cS) yX10_type wsX10_type [.ref (bm 0), .int ch] (modW cI cC cZ bm M Z) (modW cI cC cZ bm M Z) (-3) :=
  xroom (xframeR1 (c_X10_typee l dC dI cI cF cC cZ cQ cS (bm 0) (.ref (bm 1)) (.ref (bm 2)) (.ref (bm 3)) (.ref (bm 4)) (.int (M 0)) (.int (M 1)) (bm 5) (.ref (bm 6)) (.ref (bm 7)) (.ref (bm 8)) (.ref (bm 9)) (.int (M 3)) (.int (M 4)) (.int (M 5)) (.int (M 6)) (.int (M 7)) (.int (M 8)) (.ref (bm 10)) (Z 4) tl ch htl) ([0, 5]) (by (try rw [← hq0]); rfl) rfl) (by decide) (by decide) (by decide) (by decide)
set_option maxHeartbeats 4000000 in
set_option maxRecDepth 100000 in
theorem l_X10_types (l : Launch) (dC : Nat → ClassId) (dI : Nat → Nat → Nat) (cI cF cC cZ cQ cS : ClassId) (bm : Nat → Nat) (M : Nat → Int32) (Z : Nat → Nat → Int32) (tl : Nat) (ch : Int32) (hq0 : M 2 = nI tl) (htl : tl < 60) (hch : vp_nar .char ch = ch) :
    pX l (dC, dI) (xtys cI cF cC cZ cQ cS) yX10_type wsX10_type [.ref (bm 0), .int ch] (modW cI cC cZ bm M Z) (modW cI cC cZ bm (upd M 2 (nI (tl + 1))) (xT Z 4 (upd (Z 4) tl ch))) (nI (tl + 1)) :=
  xroom (xframeW1 (c_X10_types l dC dI cI cF cC cZ cQ cS (bm 0) (.ref (bm 1)) (.ref (bm 2)) (.ref (bm 3)) (.ref (bm 4)) (.int (M 0)) (.int (M 1)) (bm 5) (.ref (bm 6)) (.ref (bm 7)) (.ref (bm 8)) (.ref (bm 9)) (.int (M 3)) (.int (M 4)) (.int (M 5)) (.int (M 6)) (.int (M 7)) (.int (M 8)) (.ref (bm 10)) (Z 4) tl ch htl hch) ([0, 5]) 11 (by (try rw [← hq0]); rfl) rfl rfl rfl (by (try rw [← hq0]); rfl)) (by decide) (by decide) (by decide) (by decide)
set_option maxHeartbeats 4000000 in
set_option maxRecDepth 100000 in
theorem l_X10_clearText (l : Launch) (dC : Nat → ClassId) (dI : Nat → Nat → Nat) (cI cF cC cZ cQ cS : ClassId) (bm : Nat → Nat) (M : Nat → Int32) (Z : Nat → Nat → Int32) (tl : Nat) (hq0 : M 2 = nI tl) :
    pX l (dC, dI) (xtys cI cF cC cZ cQ cS) yX10_clearText wsX10_clearText [.ref (bm 0)] (modW cI cC cZ bm M Z) (modW cI cC cZ bm (upd M 2 (nI 0)) Z) (nI tl) :=
  xroom (xframeW1 (c_X10_clearText l dC dI cI cF cC cZ cQ cS (bm 0) (bm 1) (.ref (bm 2)) (.ref (bm 3)) (.ref (bm 4)) (.int (M 0)) (.int (M 1)) (.ref (bm 5)) (.ref (bm 6)) (.ref (bm 7)) (.ref (bm 8)) (.ref (bm 9)) (.int (M 3)) (.int (M 4)) (.int (M 5)) (.int (M 6)) (.int (M 7)) (.int (M 8)) (.ref (bm 10)) (Z 0) tl) ([0]) 11 (by (try rw [← hq0]); rfl) rfl rfl rfl (by (try rw [← hq0]); rfl)) (by decide) (by decide) (by decide) (by decide)
set_option maxHeartbeats 4000000 in
set_option maxRecDepth 100000 in
theorem l_X10_undoe (l : Launch) (dC : Nat → ClassId) (dI : Nat → Nat → Nat) (cI cF cC cZ cQ cS : ClassId) (bm : Nat → Nat) (M : Nat → Int32) (Z : Nat → Nat → Int32) (hq0 : M 0 = nI 0) :
    pX l (dC, dI) (xtys cI cF cC cZ cQ cS) yX10_undo wsX10_undo [.ref (bm 0)] (modW cI cC cZ bm M Z) (modW cI cC cZ bm M Z) (-5) :=
  xroom (xframeR1 (c_X10_undoe l dC dI cI cF cC cZ cQ cS (bm 0) (.ref (bm 1)) (.ref (bm 2)) (.ref (bm 3)) (.ref (bm 4)) (.int (M 1)) (.ref (bm 5)) (.int (M 2)) (.ref (bm 6)) (.ref (bm 7)) (.ref (bm 8)) (.ref (bm 9)) (.int (M 3)) (.int (M 4)) (.int (M 5)) (.int (M 6)) (.int (M 7)) (.int (M 8)) (.ref (bm 10))) ([0]) (by (try rw [← hq0]); rfl) rfl) (by decide) (by decide) (by decide) (by decide)
set_option maxHeartbeats 4000000 in
set_option maxRecDepth 100000 in
theorem l_X10_undos (l : Launch) (dC : Nat → ClassId) (dI : Nat → Nat → Nat) (cI cF cC cZ cQ cS : ClassId) (bm : Nat → Nat) (M : Nat → Int32) (Z : Nat → Nat → Int32) (pm : Nat) (hq0 : M 0 = nI pm) (hpm : 1 ≤ pm ∧ pm ≤ 4) :
    pX l (dC, dI) (xtys cI cF cC cZ cQ cS) yX10_undo wsX10_undo [.ref (bm 0)] (modW cI cC cZ bm M Z) (modW cI cC cZ bm (upd M 0 (nI (pm - 1))) (xT Z 0 (zcp (fun j => (Z 1) ((pm - 1) * 1002 + j)) (Z 0) 1002))) (nI (pm - 1)) :=
  xroom (xframeW1 (c_X10_undos l dC dI cI cF cC cZ cQ cS (bm 0) (bm 1) (bm 2) (.ref (bm 3)) (.ref (bm 4)) (.int (M 1)) (.ref (bm 5)) (.int (M 2)) (.ref (bm 6)) (.ref (bm 7)) (.ref (bm 8)) (.ref (bm 9)) (.int (M 3)) (.int (M 4)) (.int (M 5)) (.int (M 6)) (.int (M 7)) (.int (M 8)) (.ref (bm 10)) (Z 0) (Z 1) pm hpm) ([0, 1, 2]) 11 (by (try rw [← hq0]); rfl) rfl rfl rfl (by (try rw [← hq0]); rfl)) (by decide) (by decide) (by decide) (by decide)
set_option maxHeartbeats 4000000 in
set_option maxRecDepth 100000 in
theorem l_X10_keep (l : Launch) (dC : Nat → ClassId) (dI : Nat → Nat → Nat) (cI cF cC cZ cQ cS : ClassId) (bm : Nat → Nat) (M : Nat → Int32) (Z : Nat → Nat → Int32) :
    pX l (dC, dI) (xtys cI cF cC cZ cQ cS) yX10_keep wsX10_keep [.ref (bm 0)] (modW cI cC cZ bm M Z) (modW cI cC cZ bm (upd M 1 (nI 1)) (xT Z 2 (zcp (Z 0) (Z 2) 1002))) ((Z 0) 0) :=
  xroom (xframeW1 (c_X10_keep l dC dI cI cF cC cZ cQ cS (bm 0) (bm 1) (.ref (bm 2)) (bm 3) (.ref (bm 4)) (.int (M 0)) (.int (M 1)) (.ref (bm 5)) (.int (M 2)) (.ref (bm 6)) (.ref (bm 7)) (.ref (bm 8)) (.ref (bm 9)) (.int (M 3)) (.int (M 4)) (.int (M 5)) (.int (M 6)) (.int (M 7)) (.int (M 8)) (.ref (bm 10)) (Z 0) (Z 2)) ([0, 1, 3]) 11 (by rfl) rfl rfl rfl (by rfl)) (by decide) (by decide) (by decide) (by decide)
set_option maxHeartbeats 4000000 in
set_option maxRecDepth 100000 in
theorem l_X10_restoree (l : Launch) (dC : Nat → ClassId) (dI : Nat → Nat → Nat) (cI cF cC cZ cQ cS : ClassId) (bm : Nat → Nat) (M : Nat → Int32) (Z : Nat → Nat → Int32) (hq0 : M 1 = nI 0) :
    pX l (dC, dI) (xtys cI cF cC cZ cQ cS) yX10_restore wsX10_restore [.ref (bm 0)] (modW cI cC cZ bm M Z) (modW cI cC cZ bm M Z) (-5) :=
  xroom (xframeR1 (c_X10_restoree l dC dI cI cF cC cZ cQ cS (bm 0) (.ref (bm 1)) (.ref (bm 2)) (.ref (bm 3)) (.ref (bm 4)) (.int (M 0)) (.ref (bm 5)) (.int (M 2)) (.ref (bm 6)) (.ref (bm 7)) (.ref (bm 8)) (.ref (bm 9)) (.int (M 3)) (.int (M 4)) (.int (M 5)) (.int (M 6)) (.int (M 7)) (.int (M 8)) (.ref (bm 10))) ([0]) (by (try rw [← hq0]); rfl) rfl) (by decide) (by decide) (by decide) (by decide)
set_option maxHeartbeats 4000000 in
set_option maxRecDepth 100000 in
theorem l_X10_restores (l : Launch) (dC : Nat → ClassId) (dI : Nat → Nat → Nat) (cI cF cC cZ cQ cS : ClassId) (bm : Nat → Nat) (M : Nat → Int32) (Z : Nat → Nat → Int32) (pm : Nat) (hq0 : M 0 = nI pm) (hq1 : M 1 = nI 1) (hpm : pm ≤ 4) :
    pX l (dC, dI) (xtys cI cF cC cZ cQ cS) yX10_restore wsX10_restore [.ref (bm 0)] (modW cI cC cZ bm M Z) (modW cI cC cZ bm (upd M 0 (nI (if pm = 4 then 4 else pm + 1))) (xT (xT Z 0 (zcp (Z 2) (Z 0) 1002)) 1 (zrec (Z 0) (Z 1) pm))) (zcp (Z 2) (Z 0) 1002 0) :=
  xroom (xframeW1 (c_X10_restores l dC dI cI cF cC cZ cQ cS (bm 0) (bm 1) (bm 2) (bm 3) (.ref (bm 4)) (.ref (bm 5)) (.int (M 2)) (.ref (bm 6)) (.ref (bm 7)) (.ref (bm 8)) (.ref (bm 9)) (.int (M 3)) (.int (M 4)) (.int (M 5)) (.int (M 6)) (.int (M 7)) (.int (M 8)) (.ref (bm 10)) (Z 0) (Z 1) (Z 2) pm hpm) ([0, 1, 2, 3]) 11 (by (try rw [← hq0]); (try rw [← hq1]); rfl) rfl rfl rfl (by (try rw [← hq0]); (try rw [← hq1]); rfl)) (by decide) (by decide) (by decide) (by decide)
set_option maxHeartbeats 4000000 in
set_option maxRecDepth 100000 in
theorem l_X10_goodu (l : Launch) (dC : Nat → ClassId) (dI : Nat → Nat → Nat) (cI cF cC cZ cQ cS : ClassId) (bm : Nat → Nat) (M : Nat → Int32) (Z : Nat → Nat → Int32) (gz : Nat) (gq : Int32) (wh : Int32) (hz1 : (Z 0) 1 = nI gz) (hgz : gz ≤ 12) (hg : ¬ xhas gq gz) :
    pX l (dC, dI) (xtys cI cF cC cZ cQ cS) yX10_good wsX10_good [.ref (bm 0), .int gq, .int wh] (modW cI cC cZ bm M Z) (modW cI cC cZ bm M Z) (-1) :=
  xroom (xframeR1 (c_X10_goodu l dC dI cI cF cC cZ cQ cS (bm 0) (bm 1) (.ref (bm 2)) (.ref (bm 3)) (.ref (bm 4)) (.int (M 0)) (.int (M 1)) (.ref (bm 5)) (.int (M 2)) (.ref (bm 6)) (.ref (bm 7)) (.ref (bm 8)) (.ref (bm 9)) (.int (M 3)) (.int (M 4)) (.int (M 5)) (.int (M 6)) (.int (M 7)) (.int (M 8)) (.ref (bm 10)) (Z 0) gz gq wh hz1 hgz hg) ([0, 1]) (by rfl) rfl) (by decide) (by decide) (by decide) (by decide)
set_option maxHeartbeats 4000000 in
set_option maxRecDepth 100000 in
theorem l_X10_goodb (l : Launch) (dC : Nat → ClassId) (dI : Nat → Nat → Nat) (cI cF cC cZ cQ cS : ClassId) (bm : Nat → Nat) (M : Nat → Int32) (Z : Nat → Nat → Int32) (gz : Nat) (kg : Nat) (wh : Int32) (hz1 : (Z 0) 1 = nI gz) (hgz : gz ≤ 12) (hk : kg < gz) (hw : ¬ (nI 0 ≤ wh ∧ wh ≤ nI 6)) :
    pX l (dC, dI) (xtys cI cF cC cZ cQ cS) yX10_good wsX10_good [.ref (bm 0), .int (nI kg), .int wh] (modW cI cC cZ bm M Z) (modW cI cC cZ bm M Z) (-2) :=
  xroom (xframeR1 (c_X10_goodb l dC dI cI cF cC cZ cQ cS (bm 0) (bm 1) (.ref (bm 2)) (.ref (bm 3)) (.ref (bm 4)) (.int (M 0)) (.int (M 1)) (.ref (bm 5)) (.int (M 2)) (.ref (bm 6)) (.ref (bm 7)) (.ref (bm 8)) (.ref (bm 9)) (.int (M 3)) (.int (M 4)) (.int (M 5)) (.int (M 6)) (.int (M 7)) (.int (M 8)) (.ref (bm 10)) (Z 0) gz kg wh hz1 hgz hk hw) ([0, 1]) (by rfl) rfl) (by decide) (by decide) (by decide) (by decide)
set_option maxHeartbeats 4000000 in
set_option maxRecDepth 100000 in
theorem l_X10_goods (l : Launch) (dC : Nat → ClassId) (dI : Nat → Nat → Nat) (cI cF cC cZ cQ cS : ClassId) (bm : Nat → Nat) (M : Nat → Int32) (Z : Nat → Nat → Int32) (gz : Nat) (kg : Nat) (wn : Nat) (bz : Nat) (oz : Nat) (hz1 : (Z 0) 1 = nI gz) (hgz : gz ≤ 12) (hk : kg < gz) (hwn : wn ≤ 6) (hw : nI 0 ≤ nI wn ∧ nI wn ≤ nI 6) (hz2 : (Z 0) 2 = nI bz) (hbz : bz ≤ 40) (hz3 : (Z 0) 3 = nI oz) (hoz : oz ≤ 30) :
    pX l (dC, dI) (xtys cI cF cC cZ cQ cS) yX10_good wsX10_good [.ref (bm 0), .int (nI kg), .int (nI wn)] (modW cI cC cZ bm M Z) (modW cI cC cZ bm M Z) (mGood wn (zG (Z 0) kg wn) (zsumIf (Z 0) 3 (nI kg) bz) (zcntIf (Z 0) (nI kg) bz) (zsumOf (Z 0) 4 (nI kg) bz) (zogIf (Z 0) (nI kg) oz)) :=
  xroom (xframeR1 (c_X10_goods l dC dI cI cF cC cZ cQ cS (bm 0) (bm 1) (.ref (bm 2)) (.ref (bm 3)) (.ref (bm 4)) (.int (M 0)) (.int (M 1)) (.ref (bm 5)) (.int (M 2)) (.ref (bm 6)) (.ref (bm 7)) (.ref (bm 8)) (.ref (bm 9)) (.int (M 3)) (.int (M 4)) (.int (M 5)) (.int (M 6)) (.int (M 7)) (.int (M 8)) (.ref (bm 10)) (Z 0) gz kg wn bz oz hz1 hgz hk hwn hw hz2 hbz hz3 hoz) ([0, 1]) (by rfl) rfl) (by decide) (by decide) (by decide) (by decide)
set_option maxHeartbeats 4000000 in
set_option maxRecDepth 100000 in
theorem l_X10_substituteu (l : Launch) (dC : Nat → ClassId) (dI : Nat → Nat → Nat) (cI cF cC cZ cQ cS : ClassId) (bm : Nat → Nat) (M : Nat → Int32) (Z : Nat → Nat → Int32) (gz : Nat) (gq : Int32) (v : Int32) (hz1 : (Z 0) 1 = nI gz) (hgz : gz ≤ 12) (hg : ¬ xhas gq gz) :
    pX l (dC, dI) (xtys cI cF cC cZ cQ cS) yX10_substitute wsX10_substitute [.ref (bm 0), .int gq, .int v] (modW cI cC cZ bm M Z) (modW cI cC cZ bm M Z) (-1) :=
  xroom (xframeR1 (c_X10_substituteu l dC dI cI cF cC cZ cQ cS (bm 0) (bm 1) (.ref (bm 2)) (.ref (bm 3)) (.ref (bm 4)) (.int (M 0)) (.int (M 1)) (.ref (bm 5)) (.int (M 2)) (.ref (bm 6)) (.ref (bm 7)) (.ref (bm 8)) (.ref (bm 9)) (.int (M 3)) (.int (M 4)) (.int (M 5)) (.int (M 6)) (.int (M 7)) (.int (M 8)) (.ref (bm 10)) (Z 0) gz gq v hz1 hgz hg) ([0, 1]) (by rfl) rfl) (by decide) (by decide) (by decide) (by decide)
set_option maxHeartbeats 4000000 in
set_option maxRecDepth 100000 in
theorem l_X10_substitutee (l : Launch) (dC : Nat → ClassId) (dI : Nat → Nat → Nat) (cI cF cC cZ cQ cS : ClassId) (bm : Nat → Nat) (M : Nat → Int32) (Z : Nat → Nat → Int32) (gz : Nat) (kg : Nat) (v : Int32) (hz1 : (Z 0) 1 = nI gz) (hgz : gz ≤ 12) (hk : kg < gz) (he : ¬ ePl v (zG (Z 0) kg 2) = nI 0) :
    pX l (dC, dI) (xtys cI cF cC cZ cQ cS) yX10_substitute wsX10_substitute [.ref (bm 0), .int (nI kg), .int v] (modW cI cC cZ bm M Z) (modW cI cC cZ bm M Z) (ePl v (zG (Z 0) kg 2)) :=
  xroom (xframeR1 (c_X10_substitutee l dC dI cI cF cC cZ cQ cS (bm 0) (bm 1) (.ref (bm 2)) (.ref (bm 3)) (.ref (bm 4)) (.int (M 0)) (.int (M 1)) (.ref (bm 5)) (.int (M 2)) (.ref (bm 6)) (.ref (bm 7)) (.ref (bm 8)) (.ref (bm 9)) (.int (M 3)) (.int (M 4)) (.int (M 5)) (.int (M 6)) (.int (M 7)) (.int (M 8)) (.ref (bm 10)) (Z 0) gz kg v hz1 hgz hk he) ([0, 1]) (by rfl) rfl) (by decide) (by decide) (by decide) (by decide)
set_option maxHeartbeats 4000000 in
set_option maxRecDepth 100000 in
theorem l_X10_substitutes (l : Launch) (dC : Nat → ClassId) (dI : Nat → Nat → Nat) (cI cF cC cZ cQ cS : ClassId) (bm : Nat → Nat) (M : Nat → Int32) (Z : Nat → Nat → Int32) (gz : Nat) (kg : Nat) (lm : Nat) (pl : Nat) (hz1 : (Z 0) 1 = nI gz) (hgz : gz ≤ 12) (hk : kg < gz) (hls : zG (Z 0) kg 2 = nI lm) (hl4 : lm ≤ 4) (hpl : pl < lm) :
    pX l (dC, dI) (xtys cI cF cC cZ cQ cS) yX10_substitute wsX10_substitute [.ref (bm 0), .int (nI kg), .int (nI pl)] (modW cI cC cZ bm M Z) (modW cI cC cZ bm M Z) (zG (Z 0) kg (3 + pl)) :=
  xroom (xframeR1 (c_X10_substitutes l dC dI cI cF cC cZ cQ cS (bm 0) (bm 1) (.ref (bm 2)) (.ref (bm 3)) (.ref (bm 4)) (.int (M 0)) (.int (M 1)) (.ref (bm 5)) (.int (M 2)) (.ref (bm 6)) (.ref (bm 7)) (.ref (bm 8)) (.ref (bm 9)) (.int (M 3)) (.int (M 4)) (.int (M 5)) (.int (M 6)) (.int (M 7)) (.int (M 8)) (.ref (bm 10)) (Z 0) gz kg lm pl hz1 hgz hk hls hl4 hpl) ([0, 1]) (by rfl) rfl) (by decide) (by decide) (by decide) (by decide)
set_option maxHeartbeats 4000000 in
set_option maxRecDepth 100000 in
theorem l_X10_batchu (l : Launch) (dC : Nat → ClassId) (dI : Nat → Nat → Nat) (cI cF cC cZ cQ cS : ClassId) (bm : Nat → Nat) (M : Nat → Int32) (Z : Nat → Nat → Int32) (bz : Nat) (bq : Int32) (wh : Int32) (hz2 : (Z 0) 2 = nI bz) (hbz : bz ≤ 40) (hg : ¬ xhas bq bz) :
    pX l (dC, dI) (xtys cI cF cC cZ cQ cS) yX10_batch wsX10_batch [.ref (bm 0), .int bq, .int wh] (modW cI cC cZ bm M Z) (modW cI cC cZ bm M Z) (-1) :=
  xroom (xframeR1 (c_X10_batchu l dC dI cI cF cC cZ cQ cS (bm 0) (bm 1) (.ref (bm 2)) (.ref (bm 3)) (.ref (bm 4)) (.int (M 0)) (.int (M 1)) (.ref (bm 5)) (.int (M 2)) (.ref (bm 6)) (.ref (bm 7)) (.ref (bm 8)) (.ref (bm 9)) (.int (M 3)) (.int (M 4)) (.int (M 5)) (.int (M 6)) (.int (M 7)) (.int (M 8)) (.ref (bm 10)) (Z 0) bz bq wh hz2 hbz hg) ([0, 1]) (by rfl) rfl) (by decide) (by decide) (by decide) (by decide)
set_option maxHeartbeats 4000000 in
set_option maxRecDepth 100000 in
theorem l_X10_batchb (l : Launch) (dC : Nat → ClassId) (dI : Nat → Nat → Nat) (cI cF cC cZ cQ cS : ClassId) (bm : Nat → Nat) (M : Nat → Int32) (Z : Nat → Nat → Int32) (bz : Nat) (kb : Nat) (wh : Int32) (hz2 : (Z 0) 2 = nI bz) (hbz : bz ≤ 40) (hk : kb < bz) (hw : ¬ (nI 0 ≤ wh ∧ wh ≤ nI 11)) :
    pX l (dC, dI) (xtys cI cF cC cZ cQ cS) yX10_batch wsX10_batch [.ref (bm 0), .int (nI kb), .int wh] (modW cI cC cZ bm M Z) (modW cI cC cZ bm M Z) (-2) :=
  xroom (xframeR1 (c_X10_batchb l dC dI cI cF cC cZ cQ cS (bm 0) (bm 1) (.ref (bm 2)) (.ref (bm 3)) (.ref (bm 4)) (.int (M 0)) (.int (M 1)) (.ref (bm 5)) (.int (M 2)) (.ref (bm 6)) (.ref (bm 7)) (.ref (bm 8)) (.ref (bm 9)) (.int (M 3)) (.int (M 4)) (.int (M 5)) (.int (M 6)) (.int (M 7)) (.int (M 8)) (.ref (bm 10)) (Z 0) bz kb wh hz2 hbz hk hw) ([0, 1]) (by rfl) rfl) (by decide) (by decide) (by decide) (by decide)
set_option maxHeartbeats 4000000 in
set_option maxRecDepth 100000 in
theorem l_X10_batchs (l : Launch) (dC : Nat → ClassId) (dI : Nat → Nat → Nat) (cI cF cC cZ cQ cS : ClassId) (bm : Nat → Nat) (M : Nat → Int32) (Z : Nat → Nat → Int32) (bz : Nat) (kb : Nat) (wn : Nat) (hz2 : (Z 0) 2 = nI bz) (hbz : bz ≤ 40) (hk : kb < bz) (hwn : wn ≤ 11) (hw : nI 0 ≤ nI wn ∧ nI wn ≤ nI 11) (hg0 : (zB (Z 0) kb 0).toNatClampNeg < 12 ∧ zB (Z 0) kb 0 = nI (zB (Z 0) kb 0).toNatClampNeg) :
    pX l (dC, dI) (xtys cI cF cC cZ cQ cS) yX10_batch wsX10_batch [.ref (bm 0), .int (nI kb), .int (nI wn)] (modW cI cC cZ bm M Z) (modW cI cC cZ bm M Z) (mBatch wn (zB (Z 0) kb wn) ((zB (Z 0) kb 6 + zB (Z 0) kb 7) + zB (Z 0) kb 8) (zB (Z 0) kb (6 + wn - 7)) (nI (zstg (Z 0) kb)) (zB (Z 0) kb 9)) :=
  xroom (xframeR1 (c_X10_batchs l dC dI cI cF cC cZ cQ cS (bm 0) (bm 1) (.ref (bm 2)) (.ref (bm 3)) (.ref (bm 4)) (.int (M 0)) (.int (M 1)) (.ref (bm 5)) (.int (M 2)) (.ref (bm 6)) (.ref (bm 7)) (.ref (bm 8)) (.ref (bm 9)) (.int (M 3)) (.int (M 4)) (.int (M 5)) (.int (M 6)) (.int (M 7)) (.int (M 8)) (.ref (bm 10)) (Z 0) bz kb wn hz2 hbz hk hwn hw hg0) ([0, 1]) (by rfl) rfl) (by decide) (by decide) (by decide) (by decide)
set_option maxHeartbeats 4000000 in
set_option maxRecDepth 100000 in
theorem l_X10_unitPriceu (l : Launch) (dC : Nat → ClassId) (dI : Nat → Nat → Nat) (cI cF cC cZ cQ cS : ClassId) (bm : Nat → Nat) (M : Nat → Int32) (Z : Nat → Nat → Int32) (bz : Nat) (bq : Int32) (hz2 : (Z 0) 2 = nI bz) (hbz : bz ≤ 40) (hg : ¬ xhas bq bz) :
    pXf l (dC, dI) (xtys cI cF cC cZ cQ cS) yX10_unitPrice wsX10_unitPrice [.ref (bm 0), .int bq] (modW cI cC cZ bm M Z) 2143289344 :=
  xroom (xframeF1 (c_X10_unitPriceu l dC dI cI cF cC cZ cQ cS (bm 0) (bm 1) (.ref (bm 2)) (.ref (bm 3)) (.ref (bm 4)) (.int (M 0)) (.int (M 1)) (.ref (bm 5)) (.int (M 2)) (.ref (bm 6)) (.ref (bm 7)) (.ref (bm 8)) (.ref (bm 9)) (.int (M 3)) (.int (M 4)) (.int (M 5)) (.int (M 6)) (.int (M 7)) (.int (M 8)) (.ref (bm 10)) (Z 0) bz bq hz2 hbz hg) ([0, 1]) (by rfl) rfl) (by decide) (by decide) (by decide) (by decide)
set_option maxHeartbeats 4000000 in
set_option maxRecDepth 100000 in
theorem l_X10_unitPrices (l : Launch) (dC : Nat → ClassId) (dI : Nat → Nat → Nat) (cI cF cC cZ cQ cS : ClassId) (bm : Nat → Nat) (M : Nat → Int32) (Z : Nat → Nat → Int32) (bz : Nat) (kb : Nat) (hz2 : (Z 0) 2 = nI bz) (hbz : bz ≤ 40) (hk : kb < bz) (hgi : zidx (Z 0) bz) (hmk : ∀ j, j < 4 → ((Z 0) (958 + j)).toNatClampNeg ≤ 1120403456 ∧ (Z 0) (958 + j) = nI ((Z 0) (958 + j)).toNatClampNeg) :
    pXf l (dC, dI) (xtys cI cF cC cZ cQ cS) yX10_unitPrice wsX10_unitPrice [.ref (bm 0), .int (nI kb)] (modW cI cC cZ bm M Z) (zprice (Z 0) kb) :=
  xroom (xframeF1 (c_X10_unitPrices l dC dI cI cF cC cZ cQ cS (bm 0) (bm 1) (.ref (bm 2)) (.ref (bm 3)) (.ref (bm 4)) (.int (M 0)) (.int (M 1)) (.ref (bm 5)) (.int (M 2)) (.ref (bm 6)) (.ref (bm 7)) (.ref (bm 8)) (.ref (bm 9)) (.int (M 3)) (.int (M 4)) (.int (M 5)) (.int (M 6)) (.int (M 7)) (.int (M 8)) (.ref (bm 10)) (Z 0) bz kb hz2 hbz hk hgi hmk) ([0, 1]) (by rfl) rfl) (by decide) (by decide) (by decide) (by decide)
set_option maxHeartbeats 4000000 in
set_option maxRecDepth 100000 in
theorem l_X10_markdownu (l : Launch) (dC : Nat → ClassId) (dI : Nat → Nat → Nat) (cI cF cC cZ cQ cS : ClassId) (bm : Nat → Nat) (M : Nat → Int32) (Z : Nat → Nat → Int32) (sq : Int32) (hg : ¬ xhas sq 4) :
    pXf l (dC, dI) (xtys cI cF cC cZ cQ cS) yX10_markdown wsX10_markdown [.ref (bm 0), .int sq] (modW cI cC cZ bm M Z) 2143289344 :=
  xroom (xframeF1 (c_X10_markdownu l dC dI cI cF cC cZ cQ cS (bm 0) (bm 1) (.ref (bm 2)) (.ref (bm 3)) (.ref (bm 4)) (.int (M 0)) (.int (M 1)) (.ref (bm 5)) (.int (M 2)) (.ref (bm 6)) (.ref (bm 7)) (.ref (bm 8)) (.ref (bm 9)) (.int (M 3)) (.int (M 4)) (.int (M 5)) (.int (M 6)) (.int (M 7)) (.int (M 8)) (.ref (bm 10)) (Z 0) sq hg) ([0, 1]) (by rfl) rfl) (by decide) (by decide) (by decide) (by decide)
set_option maxHeartbeats 4000000 in
set_option maxRecDepth 100000 in
theorem l_X10_markdowns (l : Launch) (dC : Nat → ClassId) (dI : Nat → Nat → Nat) (cI cF cC cZ cQ cS : ClassId) (bm : Nat → Nat) (M : Nat → Int32) (Z : Nat → Nat → Int32) (sn9 : Nat) (hsn : sn9 < 4) (hs4 : nI 0 ≤ nI sn9 ∧ nI sn9 ≤ nI 3) (hmk : ∀ j, j < 4 → ((Z 0) (958 + j)).toNatClampNeg ≤ 1120403456 ∧ (Z 0) (958 + j) = nI ((Z 0) (958 + j)).toNatClampNeg) :
    pXf l (dC, dI) (xtys cI cF cC cZ cQ cS) yX10_markdown wsX10_markdown [.ref (bm 0), .int (nI sn9)] (modW cI cC cZ bm M Z) (xf1 ((Z 0) (958 + sn9))) :=
  xroom (xframeF1 (c_X10_markdowns l dC dI cI cF cC cZ cQ cS (bm 0) (bm 1) (.ref (bm 2)) (.ref (bm 3)) (.ref (bm 4)) (.int (M 0)) (.int (M 1)) (.ref (bm 5)) (.int (M 2)) (.ref (bm 6)) (.ref (bm 7)) (.ref (bm 8)) (.ref (bm 9)) (.int (M 3)) (.int (M 4)) (.int (M 5)) (.int (M 6)) (.int (M 7)) (.int (M 8)) (.ref (bm 10)) (Z 0) sn9 hsn hs4 hmk) ([0, 1]) (by rfl) rfl) (by decide) (by decide) (by decide) (by decide)
set_option maxHeartbeats 4000000 in
set_option maxRecDepth 100000 in
theorem l_X10_stageu (l : Launch) (dC : Nat → ClassId) (dI : Nat → Nat → Nat) (cI cF cC cZ cQ cS : ClassId) (bm : Nat → Nat) (M : Nat → Int32) (Z : Nat → Nat → Int32) (sq : Int32) (wh : Int32) (hg : ¬ xhas sq 4) :
    pX l (dC, dI) (xtys cI cF cC cZ cQ cS) yX10_stage wsX10_stage [.ref (bm 0), .int sq, .int wh] (modW cI cC cZ bm M Z) (modW cI cC cZ bm M Z) (-1) :=
  xroom (xframeR1 (c_X10_stageu l dC dI cI cF cC cZ cQ cS (bm 0) (bm 1) (.ref (bm 2)) (.ref (bm 3)) (.ref (bm 4)) (.int (M 0)) (.int (M 1)) (.ref (bm 5)) (.int (M 2)) (.ref (bm 6)) (.ref (bm 7)) (.ref (bm 8)) (.ref (bm 9)) (.int (M 3)) (.int (M 4)) (.int (M 5)) (.int (M 6)) (.int (M 7)) (.int (M 8)) (.ref (bm 10)) (Z 0) sq wh hg) ([0, 1]) (by rfl) rfl) (by decide) (by decide) (by decide) (by decide)
set_option maxHeartbeats 4000000 in
set_option maxRecDepth 100000 in
theorem l_X10_stageb (l : Launch) (dC : Nat → ClassId) (dI : Nat → Nat → Nat) (cI cF cC cZ cQ cS : ClassId) (bm : Nat → Nat) (M : Nat → Int32) (Z : Nat → Nat → Int32) (sn9 : Nat) (wh : Int32) (hs4 : nI 0 ≤ nI sn9 ∧ nI sn9 ≤ nI 3) (hw : ¬ (nI 0 ≤ wh ∧ wh ≤ nI 2)) :
    pX l (dC, dI) (xtys cI cF cC cZ cQ cS) yX10_stage wsX10_stage [.ref (bm 0), .int (nI sn9), .int wh] (modW cI cC cZ bm M Z) (modW cI cC cZ bm M Z) (-2) :=
  xroom (xframeR1 (c_X10_stageb l dC dI cI cF cC cZ cQ cS (bm 0) (bm 1) (.ref (bm 2)) (.ref (bm 3)) (.ref (bm 4)) (.int (M 0)) (.int (M 1)) (.ref (bm 5)) (.int (M 2)) (.ref (bm 6)) (.ref (bm 7)) (.ref (bm 8)) (.ref (bm 9)) (.int (M 3)) (.int (M 4)) (.int (M 5)) (.int (M 6)) (.int (M 7)) (.int (M 8)) (.ref (bm 10)) (Z 0) sn9 wh hs4 hw) ([0, 1]) (by rfl) rfl) (by decide) (by decide) (by decide) (by decide)
