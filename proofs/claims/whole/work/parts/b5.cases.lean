/-! The law: its cases. -/
section LW
variable {p : Program} {l : Launch} {e : Env} {s : State} {m : MethodId} {below : List Frame} {meth : Method} {c : Code} {b L : Nat} {xs : Nat → Int32} {dC : Nat → ClassId} {dI : Nat → Nat → Nat} {cI cF cC cZ cQ cS : ClassId} {bx o sn tr : Nat → Nat} {ad : Nat → Nat → Nat} {bm : Nat → Nat}
set_option maxHeartbeats 4000000 in
set_option maxRecDepth 100000 in
theorem lw_case_16 {d : Drawn} {H : Heap} {locs : List Loc} {ls : Array Slot} {i : Nat} {V : Nat → Int32} {E : Nat → Nat → Int32} {P : Nat → UInt32} {T Ts Tt : Nat → Nat → Int32} {S : Nat → Nat → Nat → Int32} {M : Nat → Int32} {Z : Nat → Nat → Int32} (C : lwC p s m meth c b L xs dC dI cI cF cC cZ cQ cS) (hH : lwH s dC dI d H locs (clsW cI cF cC cQ cS bx o sn tr ad V E P T Ts Tt S ++ modW cI cC cZ bm M Z)) (hR : Rel V E T Ts S M Z) (hl : lv_has ls 8 [(3, .int (nI i)), (2, .ref (bm 0)), (1, .ref (bx 0)), (0, .ref b)]) (hi : i + 6 ≤ L)
    (kk : lwK p l e s m below meth c b dC dI cI cF cC cZ cQ cS bx o sn tr ad bm i) : lwW p l e s m below meth c b d H locs 672 ls [] := by
  have hx := C.1
  have hb := C.2.1
  obtain ⟨r, V', E', P', T', Ts', Tt', S', M', Z', hR', h9, h10⟩ := P_keep (l := l) (dC := dC) (dI := dI) (cI := cI) (cF := cF) (cC := cC) (cZ := cZ) (cQ := cQ) (cS := cS) (b := bx) (o := o) (sn := sn) (tr := tr) (ad := ad) (bm := bm) (P := P) (Tt := Tt) hR 
  refine lv_aload_n hx hb dL_law_672 rfl (lv_at hl 2 rfl) ?_
  refine lw_c9 C hH h9 gL_law_X9_keep rfl (by decide) hdV_X9_keep rfl clsW_adr rfl hl.1 rfl (Nat.le_of_ble_eq_true rfl) dL_law_673 (fun H1 locs1 hH1 => ?_)
  refine lv_aload_n hx hb dL_law_676 rfl (lv_at hl 1 rfl) ?_
  refine lw_c10 C hH1 h10 gL_law_X10_keep rfl (by decide) hdV_X10_keep rfl modW_adr rfl hl.1 rfl (Nat.le_of_ble_eq_true rfl) dL_law_677 (fun H2 locs2 hH2 => ?_)
  refine lv_icmp_eq (tgt := 1272) hx hb dL_law_680 (by decide) (fun _ => ?_) (fun q => absurd rfl q)
  exact kk d H2 locs2 ls V' E' P' T' Ts' Tt' S' M' Z' hH2 hR' hl
set_option maxHeartbeats 4000000 in
set_option maxRecDepth 100000 in
theorem lw_case_17 {d : Drawn} {H : Heap} {locs : List Loc} {ls : Array Slot} {i : Nat} {V : Nat → Int32} {E : Nat → Nat → Int32} {P : Nat → UInt32} {T Ts Tt : Nat → Nat → Int32} {S : Nat → Nat → Nat → Int32} {M : Nat → Int32} {Z : Nat → Nat → Int32} (C : lwC p s m meth c b L xs dC dI cI cF cC cZ cQ cS) (hH : lwH s dC dI d H locs (clsW cI cF cC cQ cS bx o sn tr ad V E P T Ts Tt S ++ modW cI cC cZ bm M Z)) (hR : Rel V E T Ts S M Z) (hl : lv_has ls 8 [(3, .int (nI i)), (2, .ref (bm 0)), (1, .ref (bx 0)), (0, .ref b)]) (hi : i + 6 ≤ L)
    (kk : lwK p l e s m below meth c b dC dI cI cF cC cZ cQ cS bx o sn tr ad bm i) : lwW p l e s m below meth c b d H locs 685 ls [] := by
  have hx := C.1
  have hb := C.2.1
  obtain ⟨r, V', E', P', T', Ts', Tt', S', M', Z', hR', h9, h10⟩ := P_restore (l := l) (dC := dC) (dI := dI) (cI := cI) (cF := cF) (cC := cC) (cZ := cZ) (cQ := cQ) (cS := cS) (b := bx) (o := o) (sn := sn) (tr := tr) (ad := ad) (bm := bm) (P := P) (Tt := Tt) hR 
  refine lv_aload_n hx hb dL_law_685 rfl (lv_at hl 2 rfl) ?_
  refine lw_c9 C hH h9 gL_law_X9_restore rfl (by decide) hdV_X9_restore rfl clsW_adr rfl hl.1 rfl (Nat.le_of_ble_eq_true rfl) dL_law_686 (fun H1 locs1 hH1 => ?_)
  refine lv_aload_n hx hb dL_law_689 rfl (lv_at hl 1 rfl) ?_
  refine lw_c10 C hH1 h10 gL_law_X10_restore rfl (by decide) hdV_X10_restore rfl modW_adr rfl hl.1 rfl (Nat.le_of_ble_eq_true rfl) dL_law_690 (fun H2 locs2 hH2 => ?_)
  refine lv_icmp_eq (tgt := 1272) hx hb dL_law_693 (by decide) (fun _ => ?_) (fun q => absurd rfl q)
  exact kk d H2 locs2 ls V' E' P' T' Ts' Tt' S' M' Z' hH2 hR' hl
set_option maxHeartbeats 4000000 in
set_option maxRecDepth 100000 in
theorem lw_case_18 {d : Drawn} {H : Heap} {locs : List Loc} {ls : Array Slot} {i : Nat} {V : Nat → Int32} {E : Nat → Nat → Int32} {P : Nat → UInt32} {T Ts Tt : Nat → Nat → Int32} {S : Nat → Nat → Nat → Int32} {M : Nat → Int32} {Z : Nat → Nat → Int32} (C : lwC p s m meth c b L xs dC dI cI cF cC cZ cQ cS) (hH : lwH s dC dI d H locs (clsW cI cF cC cQ cS bx o sn tr ad V E P T Ts Tt S ++ modW cI cC cZ bm M Z)) (hR : Rel V E T Ts S M Z) (hl : lv_has ls 8 [(3, .int (nI i)), (2, .ref (bm 0)), (1, .ref (bx 0)), (0, .ref b)]) (hi : i + 6 ≤ L)
    (kk : lwK p l e s m below meth c b dC dI cI cF cC cZ cQ cS bx o sn tr ad bm i) : lwW p l e s m below meth c b d H locs 698 ls [] := by
  have hx := C.1
  have hb := C.2.1
  obtain ⟨r, V', E', P', T', Ts', Tt', S', M', Z', hR', h9, h10⟩ := P_good (l := l) (dC := dC) (dI := dI) (cI := cI) (cF := cF) (cC := cC) (cZ := cZ) (cQ := cQ) (cS := cS) (b := bx) (o := o) (sn := sn) (tr := tr) (ad := ad) (bm := bm) (P := P) (Tt := Tt) hR (xs (i + 1)) (xs (i + 2))
  refine lv_aload_n hx hb dL_law_698 rfl (lv_at hl 2 rfl) ?_
  refine lw_arg C hH.2.2.2 (lv_at hl 3 rfl) (lv_at hl 0 rfl) 1 (by omega) rfl dL_law_699 dL_law_700 dL_law_701 dL_law_702 dL_law_703 ?_
  refine lw_arg C hH.2.2.2 (lv_at hl 3 rfl) (lv_at hl 0 rfl) 2 (by omega) rfl dL_law_704 dL_law_705 dL_law_706 dL_law_707 dL_law_708 ?_
  refine lw_c9 C hH h9 gL_law_X9_good rfl (by decide) hdV_X9_good rfl clsW_adr rfl hl.1 rfl (Nat.le_of_ble_eq_true rfl) dL_law_709 (fun H1 locs1 hH1 => ?_)
  refine lv_aload_n hx hb dL_law_712 rfl (lv_at hl 1 rfl) ?_
  refine lw_arg C hH1.2.2.2 (lv_at hl 3 rfl) (lv_at hl 0 rfl) 1 (by omega) rfl dL_law_713 dL_law_714 dL_law_715 dL_law_716 dL_law_717 ?_
  refine lw_arg C hH1.2.2.2 (lv_at hl 3 rfl) (lv_at hl 0 rfl) 2 (by omega) rfl dL_law_718 dL_law_719 dL_law_720 dL_law_721 dL_law_722 ?_
  refine lw_c10 C hH1 h10 gL_law_X10_good rfl (by decide) hdV_X10_good rfl modW_adr rfl hl.1 rfl (Nat.le_of_ble_eq_true rfl) dL_law_723 (fun H2 locs2 hH2 => ?_)
  refine lv_icmp_eq (tgt := 1272) hx hb dL_law_726 (by decide) (fun _ => ?_) (fun q => absurd rfl q)
  exact kk d H2 locs2 ls V' E' P' T' Ts' Tt' S' M' Z' hH2 hR' hl
set_option maxHeartbeats 4000000 in
set_option maxRecDepth 100000 in
theorem lw_case_19 {d : Drawn} {H : Heap} {locs : List Loc} {ls : Array Slot} {i : Nat} {V : Nat → Int32} {E : Nat → Nat → Int32} {P : Nat → UInt32} {T Ts Tt : Nat → Nat → Int32} {S : Nat → Nat → Nat → Int32} {M : Nat → Int32} {Z : Nat → Nat → Int32} (C : lwC p s m meth c b L xs dC dI cI cF cC cZ cQ cS) (hH : lwH s dC dI d H locs (clsW cI cF cC cQ cS bx o sn tr ad V E P T Ts Tt S ++ modW cI cC cZ bm M Z)) (hR : Rel V E T Ts S M Z) (hl : lv_has ls 8 [(3, .int (nI i)), (2, .ref (bm 0)), (1, .ref (bx 0)), (0, .ref b)]) (hi : i + 6 ≤ L)
    (kk : lwK p l e s m below meth c b dC dI cI cF cC cZ cQ cS bx o sn tr ad bm i) : lwW p l e s m below meth c b d H locs 731 ls [] := by
  have hx := C.1
  have hb := C.2.1
  obtain ⟨r, V', E', P', T', Ts', Tt', S', M', Z', hR', h9, h10⟩ := P_substitute (l := l) (dC := dC) (dI := dI) (cI := cI) (cF := cF) (cC := cC) (cZ := cZ) (cQ := cQ) (cS := cS) (b := bx) (o := o) (sn := sn) (tr := tr) (ad := ad) (bm := bm) (P := P) (Tt := Tt) hR (xs (i + 1)) (xs (i + 2))
  refine lv_aload_n hx hb dL_law_731 rfl (lv_at hl 2 rfl) ?_
  refine lw_arg C hH.2.2.2 (lv_at hl 3 rfl) (lv_at hl 0 rfl) 1 (by omega) rfl dL_law_732 dL_law_733 dL_law_734 dL_law_735 dL_law_736 ?_
  refine lw_arg C hH.2.2.2 (lv_at hl 3 rfl) (lv_at hl 0 rfl) 2 (by omega) rfl dL_law_737 dL_law_738 dL_law_739 dL_law_740 dL_law_741 ?_
  refine lw_c9 C hH h9 gL_law_X9_substitute rfl (by decide) hdV_X9_substitute rfl clsW_adr rfl hl.1 rfl (Nat.le_of_ble_eq_true rfl) dL_law_742 (fun H1 locs1 hH1 => ?_)
  refine lv_aload_n hx hb dL_law_745 rfl (lv_at hl 1 rfl) ?_
  refine lw_arg C hH1.2.2.2 (lv_at hl 3 rfl) (lv_at hl 0 rfl) 1 (by omega) rfl dL_law_746 dL_law_747 dL_law_748 dL_law_749 dL_law_750 ?_
  refine lw_arg C hH1.2.2.2 (lv_at hl 3 rfl) (lv_at hl 0 rfl) 2 (by omega) rfl dL_law_751 dL_law_752 dL_law_753 dL_law_754 dL_law_755 ?_
  refine lw_c10 C hH1 h10 gL_law_X10_substitute rfl (by decide) hdV_X10_substitute rfl modW_adr rfl hl.1 rfl (Nat.le_of_ble_eq_true rfl) dL_law_756 (fun H2 locs2 hH2 => ?_)
  refine lv_icmp_eq (tgt := 1272) hx hb dL_law_759 (by decide) (fun _ => ?_) (fun q => absurd rfl q)
  exact kk d H2 locs2 ls V' E' P' T' Ts' Tt' S' M' Z' hH2 hR' hl
set_option maxHeartbeats 4000000 in
set_option maxRecDepth 100000 in
theorem lw_case_20 {d : Drawn} {H : Heap} {locs : List Loc} {ls : Array Slot} {i : Nat} {V : Nat → Int32} {E : Nat → Nat → Int32} {P : Nat → UInt32} {T Ts Tt : Nat → Nat → Int32} {S : Nat → Nat → Nat → Int32} {M : Nat → Int32} {Z : Nat → Nat → Int32} (C : lwC p s m meth c b L xs dC dI cI cF cC cZ cQ cS) (hH : lwH s dC dI d H locs (clsW cI cF cC cQ cS bx o sn tr ad V E P T Ts Tt S ++ modW cI cC cZ bm M Z)) (hR : Rel V E T Ts S M Z) (hl : lv_has ls 8 [(3, .int (nI i)), (2, .ref (bm 0)), (1, .ref (bx 0)), (0, .ref b)]) (hi : i + 6 ≤ L)
    (kk : lwK p l e s m below meth c b dC dI cI cF cC cZ cQ cS bx o sn tr ad bm i) : lwW p l e s m below meth c b d H locs 764 ls [] := by
  have hx := C.1
  have hb := C.2.1
  obtain ⟨r, V', E', P', T', Ts', Tt', S', M', Z', hR', h9, h10⟩ := P_batch (l := l) (dC := dC) (dI := dI) (cI := cI) (cF := cF) (cC := cC) (cZ := cZ) (cQ := cQ) (cS := cS) (b := bx) (o := o) (sn := sn) (tr := tr) (ad := ad) (bm := bm) (P := P) (Tt := Tt) hR (xs (i + 1)) (xs (i + 2))
  refine lv_aload_n hx hb dL_law_764 rfl (lv_at hl 2 rfl) ?_
  refine lw_arg C hH.2.2.2 (lv_at hl 3 rfl) (lv_at hl 0 rfl) 1 (by omega) rfl dL_law_765 dL_law_766 dL_law_767 dL_law_768 dL_law_769 ?_
  refine lw_arg C hH.2.2.2 (lv_at hl 3 rfl) (lv_at hl 0 rfl) 2 (by omega) rfl dL_law_770 dL_law_771 dL_law_772 dL_law_773 dL_law_774 ?_
  refine lw_c9 C hH h9 gL_law_X9_batch rfl (by decide) hdV_X9_batch rfl clsW_adr rfl hl.1 rfl (Nat.le_of_ble_eq_true rfl) dL_law_775 (fun H1 locs1 hH1 => ?_)
  refine lv_aload_n hx hb dL_law_778 rfl (lv_at hl 1 rfl) ?_
  refine lw_arg C hH1.2.2.2 (lv_at hl 3 rfl) (lv_at hl 0 rfl) 1 (by omega) rfl dL_law_779 dL_law_780 dL_law_781 dL_law_782 dL_law_783 ?_
  refine lw_arg C hH1.2.2.2 (lv_at hl 3 rfl) (lv_at hl 0 rfl) 2 (by omega) rfl dL_law_784 dL_law_785 dL_law_786 dL_law_787 dL_law_788 ?_
  refine lw_c10 C hH1 h10 gL_law_X10_batch rfl (by decide) hdV_X10_batch rfl modW_adr rfl hl.1 rfl (Nat.le_of_ble_eq_true rfl) dL_law_789 (fun H2 locs2 hH2 => ?_)
  refine lv_icmp_eq (tgt := 1272) hx hb dL_law_792 (by decide) (fun _ => ?_) (fun q => absurd rfl q)
  exact kk d H2 locs2 ls V' E' P' T' Ts' Tt' S' M' Z' hH2 hR' hl
set_option maxHeartbeats 4000000 in
set_option maxRecDepth 100000 in
theorem lw_case_21 {d : Drawn} {H : Heap} {locs : List Loc} {ls : Array Slot} {i : Nat} {V : Nat → Int32} {E : Nat → Nat → Int32} {P : Nat → UInt32} {T Ts Tt : Nat → Nat → Int32} {S : Nat → Nat → Nat → Int32} {M : Nat → Int32} {Z : Nat → Nat → Int32} (C : lwC p s m meth c b L xs dC dI cI cF cC cZ cQ cS) (hH : lwH s dC dI d H locs (clsW cI cF cC cQ cS bx o sn tr ad V E P T Ts Tt S ++ modW cI cC cZ bm M Z)) (hR : Rel V E T Ts S M Z) (hl : lv_has ls 8 [(3, .int (nI i)), (2, .ref (bm 0)), (1, .ref (bx 0)), (0, .ref b)]) (hi : i + 6 ≤ L)
    (kk : lwK p l e s m below meth c b dC dI cI cF cC cZ cQ cS bx o sn tr ad bm i) : lwW p l e s m below meth c b d H locs 797 ls [] := by
  have hx := C.1
  have hb := C.2.1
  obtain ⟨r, h9, h10⟩ := P_unitPrice (l := l) (dC := dC) (dI := dI) (cI := cI) (cF := cF) (cC := cC) (cZ := cZ) (cQ := cQ) (cS := cS) (b := bx) (o := o) (sn := sn) (tr := tr) (ad := ad) (bm := bm) (P := P) (Tt := Tt) hR (xs (i + 1))
  refine lv_aload_n hx hb dL_law_797 rfl (lv_at hl 2 rfl) ?_
  refine lw_arg C hH.2.2.2 (lv_at hl 3 rfl) (lv_at hl 0 rfl) 1 (by omega) rfl dL_law_798 dL_law_799 dL_law_800 dL_law_801 dL_law_802 ?_
  refine lw_f9 C hH h9 gL_law_X9_unitPrice rfl (by decide) hdV_X9_unitPrice rfl rfl hl.1 rfl (Nat.le_of_ble_eq_true rfl) dL_law_803 ?_
  refine lv_f2d_any hH.1 lw_bits hx hb dL_law_806 (fun x1 d1 hal1 hd1 => ?_)
  have hH1 : lwH s dC dI d1 H locs (clsW cI cF cC cQ cS bx o sn tr ad V E P T Ts Tt S ++ modW cI cC cZ bm M Z) := ⟨hd1, hH.2⟩
  refine lv_dstore (lv' := [(4, .double x1), (3, .int (nI i)), (2, .ref (bm 0)), (1, .ref (bx 0)), (0, .ref b)]) hx hb dL_law_807 hl (by decide) rfl (fun ls hl => ?_)
  refine lv_aload_n hx hb dL_law_809 rfl (lv_at hl 2 rfl) ?_
  refine lw_arg C hH1.2.2.2 (lv_at hl 4 rfl) (lv_at hl 1 rfl) 1 (by omega) rfl dL_law_810 dL_law_811 dL_law_812 dL_law_813 dL_law_814 ?_
  refine lw_f10 C hH1 h10 gL_law_X10_unitPrice rfl (by decide) hdV_X10_unitPrice rfl rfl hl.1 rfl (Nat.le_of_ble_eq_true rfl) dL_law_815 ?_
  refine lv_f2d_any hH1.1 lw_bits hx hb dL_law_818 (fun x2 d2 hal2 hd2 => ?_)
  have hH2 : lwH s dC dI d2 H locs (clsW cI cF cC cQ cS bx o sn tr ad V E P T Ts Tt S ++ modW cI cC cZ bm M Z) := ⟨hd2, hH.2⟩
  refine lv_dstore (lv' := [(6, .double x2), (4, .double x1), (3, .int (nI i)), (2, .ref (bm 0)), (1, .ref (bx 0)), (0, .ref b)]) hx hb dL_law_819 hl (by decide) rfl (fun ls hl => ?_)
  refine lv_dload hx hb dL_law_821 (lv_at hl 1 rfl) ?_
  refine lv_dload hx hb dL_law_823 (lv_at hl 0 rfl) ?_
  refine lv_dcmp hx hb dL_law_825 ?_
  refine lv_if_eq (tgt := 847) hx hb dL_law_826 (by decide) (fun _ => ?_) (fun hv => ?_)
  · refine lv_goto (tgt := 1272) hx hb dL_law_847 (by decide) ?_
    exact kk d2 H locs ls V E P T Ts Tt S M Z hH2 hR (lv_sub hl [2, 3, 4, 5] rfl)
  rcases xtwo hal1 hal2 with n0 | ⟨n1, n2⟩
  · exact absurd n0 hv
  refine lv_dload hx hb dL_law_829 (lv_at hl 1 rfl) ?_
  refine lv_dload hx hb dL_law_831 (lv_at hl 1 rfl) ?_
  refine lv_dcmp hx hb dL_law_833 ?_
  refine lv_if_eq (tgt := 845) hx hb dL_law_834 (by decide) (fun hv => absurd hv n1) (fun _ => ?_)
  refine lv_dload hx hb dL_law_837 (lv_at hl 0 rfl) ?_
  refine lv_dload hx hb dL_law_839 (lv_at hl 0 rfl) ?_
  refine lv_dcmp hx hb dL_law_841 ?_
  refine lv_if_ne (tgt := 847) hx hb dL_law_842 (by decide) (fun _ => ?_) (fun hv => absurd hv n2)
  refine lv_goto (tgt := 1272) hx hb dL_law_847 (by decide) ?_
  exact kk d2 H locs ls V E P T Ts Tt S M Z hH2 hR (lv_sub hl [2, 3, 4, 5] rfl)
set_option maxHeartbeats 4000000 in
set_option maxRecDepth 100000 in
theorem lw_case_22 {d : Drawn} {H : Heap} {locs : List Loc} {ls : Array Slot} {i : Nat} {V : Nat → Int32} {E : Nat → Nat → Int32} {P : Nat → UInt32} {T Ts Tt : Nat → Nat → Int32} {S : Nat → Nat → Nat → Int32} {M : Nat → Int32} {Z : Nat → Nat → Int32} (C : lwC p s m meth c b L xs dC dI cI cF cC cZ cQ cS) (hH : lwH s dC dI d H locs (clsW cI cF cC cQ cS bx o sn tr ad V E P T Ts Tt S ++ modW cI cC cZ bm M Z)) (hR : Rel V E T Ts S M Z) (hl : lv_has ls 8 [(3, .int (nI i)), (2, .ref (bm 0)), (1, .ref (bx 0)), (0, .ref b)]) (hi : i + 6 ≤ L)
    (kk : lwK p l e s m below meth c b dC dI cI cF cC cZ cQ cS bx o sn tr ad bm i) : lwW p l e s m below meth c b d H locs 850 ls [] := by
  have hx := C.1
  have hb := C.2.1
  obtain ⟨r, h9, h10⟩ := P_markdown (l := l) (dC := dC) (dI := dI) (cI := cI) (cF := cF) (cC := cC) (cZ := cZ) (cQ := cQ) (cS := cS) (b := bx) (o := o) (sn := sn) (tr := tr) (ad := ad) (bm := bm) (P := P) (Tt := Tt) hR (xs (i + 1))
  refine lv_aload_n hx hb dL_law_850 rfl (lv_at hl 2 rfl) ?_
  refine lw_arg C hH.2.2.2 (lv_at hl 3 rfl) (lv_at hl 0 rfl) 1 (by omega) rfl dL_law_851 dL_law_852 dL_law_853 dL_law_854 dL_law_855 ?_
  refine lw_f9 C hH h9 gL_law_X9_markdown rfl (by decide) hdV_X9_markdown rfl rfl hl.1 rfl (Nat.le_of_ble_eq_true rfl) dL_law_856 ?_
  refine lv_f2d_any hH.1 lw_bits hx hb dL_law_859 (fun x1 d1 hal1 hd1 => ?_)
  have hH1 : lwH s dC dI d1 H locs (clsW cI cF cC cQ cS bx o sn tr ad V E P T Ts Tt S ++ modW cI cC cZ bm M Z) := ⟨hd1, hH.2⟩
  refine lv_dstore (lv' := [(4, .double x1), (3, .int (nI i)), (2, .ref (bm 0)), (1, .ref (bx 0)), (0, .ref b)]) hx hb dL_law_860 hl (by decide) rfl (fun ls hl => ?_)
  refine lv_aload_n hx hb dL_law_862 rfl (lv_at hl 2 rfl) ?_
  refine lw_arg C hH1.2.2.2 (lv_at hl 4 rfl) (lv_at hl 1 rfl) 1 (by omega) rfl dL_law_863 dL_law_864 dL_law_865 dL_law_866 dL_law_867 ?_
  refine lw_f10 C hH1 h10 gL_law_X10_markdown rfl (by decide) hdV_X10_markdown rfl rfl hl.1 rfl (Nat.le_of_ble_eq_true rfl) dL_law_868 ?_
  refine lv_f2d_any hH1.1 lw_bits hx hb dL_law_871 (fun x2 d2 hal2 hd2 => ?_)
  have hH2 : lwH s dC dI d2 H locs (clsW cI cF cC cQ cS bx o sn tr ad V E P T Ts Tt S ++ modW cI cC cZ bm M Z) := ⟨hd2, hH.2⟩
  refine lv_dstore (lv' := [(6, .double x2), (4, .double x1), (3, .int (nI i)), (2, .ref (bm 0)), (1, .ref (bx 0)), (0, .ref b)]) hx hb dL_law_872 hl (by decide) rfl (fun ls hl => ?_)
  refine lv_dload hx hb dL_law_874 (lv_at hl 1 rfl) ?_
  refine lv_dload hx hb dL_law_876 (lv_at hl 0 rfl) ?_
  refine lv_dcmp hx hb dL_law_878 ?_
  refine lv_if_eq (tgt := 900) hx hb dL_law_879 (by decide) (fun _ => ?_) (fun hv => ?_)
  · refine lv_goto (tgt := 1272) hx hb dL_law_900 (by decide) ?_
    exact kk d2 H locs ls V E P T Ts Tt S M Z hH2 hR (lv_sub hl [2, 3, 4, 5] rfl)
  rcases xtwo hal1 hal2 with n0 | ⟨n1, n2⟩
  · exact absurd n0 hv
  refine lv_dload hx hb dL_law_882 (lv_at hl 1 rfl) ?_
  refine lv_dload hx hb dL_law_884 (lv_at hl 1 rfl) ?_
  refine lv_dcmp hx hb dL_law_886 ?_
  refine lv_if_eq (tgt := 898) hx hb dL_law_887 (by decide) (fun hv => absurd hv n1) (fun _ => ?_)
  refine lv_dload hx hb dL_law_890 (lv_at hl 0 rfl) ?_
  refine lv_dload hx hb dL_law_892 (lv_at hl 0 rfl) ?_
  refine lv_dcmp hx hb dL_law_894 ?_
  refine lv_if_ne (tgt := 900) hx hb dL_law_895 (by decide) (fun _ => ?_) (fun hv => absurd hv n2)
  refine lv_goto (tgt := 1272) hx hb dL_law_900 (by decide) ?_
  exact kk d2 H locs ls V E P T Ts Tt S M Z hH2 hR (lv_sub hl [2, 3, 4, 5] rfl)
set_option maxHeartbeats 4000000 in
set_option maxRecDepth 100000 in
theorem lw_case_23 {d : Drawn} {H : Heap} {locs : List Loc} {ls : Array Slot} {i : Nat} {V : Nat → Int32} {E : Nat → Nat → Int32} {P : Nat → UInt32} {T Ts Tt : Nat → Nat → Int32} {S : Nat → Nat → Nat → Int32} {M : Nat → Int32} {Z : Nat → Nat → Int32} (C : lwC p s m meth c b L xs dC dI cI cF cC cZ cQ cS) (hH : lwH s dC dI d H locs (clsW cI cF cC cQ cS bx o sn tr ad V E P T Ts Tt S ++ modW cI cC cZ bm M Z)) (hR : Rel V E T Ts S M Z) (hl : lv_has ls 8 [(3, .int (nI i)), (2, .ref (bm 0)), (1, .ref (bx 0)), (0, .ref b)]) (hi : i + 6 ≤ L)
    (kk : lwK p l e s m below meth c b dC dI cI cF cC cZ cQ cS bx o sn tr ad bm i) : lwW p l e s m below meth c b d H locs 903 ls [] := by
  have hx := C.1
  have hb := C.2.1
  obtain ⟨r, V', E', P', T', Ts', Tt', S', M', Z', hR', h9, h10⟩ := P_stage (l := l) (dC := dC) (dI := dI) (cI := cI) (cF := cF) (cC := cC) (cZ := cZ) (cQ := cQ) (cS := cS) (b := bx) (o := o) (sn := sn) (tr := tr) (ad := ad) (bm := bm) (P := P) (Tt := Tt) hR (xs (i + 1)) (xs (i + 2))
  refine lv_aload_n hx hb dL_law_903 rfl (lv_at hl 2 rfl) ?_
  refine lw_arg C hH.2.2.2 (lv_at hl 3 rfl) (lv_at hl 0 rfl) 1 (by omega) rfl dL_law_904 dL_law_905 dL_law_906 dL_law_907 dL_law_908 ?_
  refine lw_arg C hH.2.2.2 (lv_at hl 3 rfl) (lv_at hl 0 rfl) 2 (by omega) rfl dL_law_909 dL_law_910 dL_law_911 dL_law_912 dL_law_913 ?_
  refine lw_c9 C hH h9 gL_law_X9_stage rfl (by decide) hdV_X9_stage rfl clsW_adr rfl hl.1 rfl (Nat.le_of_ble_eq_true rfl) dL_law_914 (fun H1 locs1 hH1 => ?_)
  refine lv_aload_n hx hb dL_law_917 rfl (lv_at hl 1 rfl) ?_
  refine lw_arg C hH1.2.2.2 (lv_at hl 3 rfl) (lv_at hl 0 rfl) 1 (by omega) rfl dL_law_918 dL_law_919 dL_law_920 dL_law_921 dL_law_922 ?_
  refine lw_arg C hH1.2.2.2 (lv_at hl 3 rfl) (lv_at hl 0 rfl) 2 (by omega) rfl dL_law_923 dL_law_924 dL_law_925 dL_law_926 dL_law_927 ?_
  refine lw_c10 C hH1 h10 gL_law_X10_stage rfl (by decide) hdV_X10_stage rfl modW_adr rfl hl.1 rfl (Nat.le_of_ble_eq_true rfl) dL_law_928 (fun H2 locs2 hH2 => ?_)
  refine lv_icmp_eq (tgt := 1272) hx hb dL_law_931 (by decide) (fun _ => ?_) (fun q => absurd rfl q)
  exact kk d H2 locs2 ls V' E' P' T' Ts' Tt' S' M' Z' hH2 hR' hl
set_option maxHeartbeats 4000000 in
set_option maxRecDepth 100000 in
theorem lw_case_24 {d : Drawn} {H : Heap} {locs : List Loc} {ls : Array Slot} {i : Nat} {V : Nat → Int32} {E : Nat → Nat → Int32} {P : Nat → UInt32} {T Ts Tt : Nat → Nat → Int32} {S : Nat → Nat → Nat → Int32} {M : Nat → Int32} {Z : Nat → Nat → Int32} (C : lwC p s m meth c b L xs dC dI cI cF cC cZ cQ cS) (hH : lwH s dC dI d H locs (clsW cI cF cC cQ cS bx o sn tr ad V E P T Ts Tt S ++ modW cI cC cZ bm M Z)) (hR : Rel V E T Ts S M Z) (hl : lv_has ls 8 [(3, .int (nI i)), (2, .ref (bm 0)), (1, .ref (bx 0)), (0, .ref b)]) (hi : i + 6 ≤ L)
    (kk : lwK p l e s m below meth c b dC dI cI cF cC cZ cQ cS bx o sn tr ad bm i) : lwW p l e s m below meth c b d H locs 936 ls [] := by
  have hx := C.1
  have hb := C.2.1
  obtain ⟨r, V', E', P', T', Ts', Tt', S', M', Z', hR', h9, h10⟩ := P_orderTold (l := l) (dC := dC) (dI := dI) (cI := cI) (cF := cF) (cC := cC) (cZ := cZ) (cQ := cQ) (cS := cS) (b := bx) (o := o) (sn := sn) (tr := tr) (ad := ad) (bm := bm) (P := P) (Tt := Tt) hR (xs (i + 1)) (xs (i + 2))
  refine lv_aload_n hx hb dL_law_936 rfl (lv_at hl 2 rfl) ?_
  refine lw_arg C hH.2.2.2 (lv_at hl 3 rfl) (lv_at hl 0 rfl) 1 (by omega) rfl dL_law_937 dL_law_938 dL_law_939 dL_law_940 dL_law_941 ?_
  refine lw_arg C hH.2.2.2 (lv_at hl 3 rfl) (lv_at hl 0 rfl) 2 (by omega) rfl dL_law_942 dL_law_943 dL_law_944 dL_law_945 dL_law_946 ?_
  refine lw_c9 C hH h9 gL_law_X9_orderTold rfl (by decide) hdV_X9_orderTold rfl clsW_adr rfl hl.1 rfl (Nat.le_of_ble_eq_true rfl) dL_law_947 (fun H1 locs1 hH1 => ?_)
  refine lv_aload_n hx hb dL_law_950 rfl (lv_at hl 1 rfl) ?_
  refine lw_arg C hH1.2.2.2 (lv_at hl 3 rfl) (lv_at hl 0 rfl) 1 (by omega) rfl dL_law_951 dL_law_952 dL_law_953 dL_law_954 dL_law_955 ?_
  refine lw_arg C hH1.2.2.2 (lv_at hl 3 rfl) (lv_at hl 0 rfl) 2 (by omega) rfl dL_law_956 dL_law_957 dL_law_958 dL_law_959 dL_law_960 ?_
  refine lw_c10 C hH1 h10 gL_law_X10_orderTold rfl (by decide) hdV_X10_orderTold rfl modW_adr rfl hl.1 rfl (Nat.le_of_ble_eq_true rfl) dL_law_961 (fun H2 locs2 hH2 => ?_)
  refine lv_icmp_eq (tgt := 1272) hx hb dL_law_964 (by decide) (fun _ => ?_) (fun q => absurd rfl q)
  exact kk d H2 locs2 ls V' E' P' T' Ts' Tt' S' M' Z' hH2 hR' hl
set_option maxHeartbeats 4000000 in
set_option maxRecDepth 100000 in
theorem lw_case_25 {d : Drawn} {H : Heap} {locs : List Loc} {ls : Array Slot} {i : Nat} {V : Nat → Int32} {E : Nat → Nat → Int32} {P : Nat → UInt32} {T Ts Tt : Nat → Nat → Int32} {S : Nat → Nat → Nat → Int32} {M : Nat → Int32} {Z : Nat → Nat → Int32} (C : lwC p s m meth c b L xs dC dI cI cF cC cZ cQ cS) (hH : lwH s dC dI d H locs (clsW cI cF cC cQ cS bx o sn tr ad V E P T Ts Tt S ++ modW cI cC cZ bm M Z)) (hR : Rel V E T Ts S M Z) (hl : lv_has ls 8 [(3, .int (nI i)), (2, .ref (bm 0)), (1, .ref (bx 0)), (0, .ref b)]) (hi : i + 6 ≤ L)
    (kk : lwK p l e s m below meth c b dC dI cI cF cC cZ cQ cS bx o sn tr ad bm i) : lwW p l e s m below meth c b d H locs 969 ls [] := by
  have hx := C.1
  have hb := C.2.1
  obtain ⟨r, V', E', P', T', Ts', Tt', S', M', Z', hR', h9, h10⟩ := P_taken (l := l) (dC := dC) (dI := dI) (cI := cI) (cF := cF) (cC := cC) (cZ := cZ) (cQ := cQ) (cS := cS) (b := bx) (o := o) (sn := sn) (tr := tr) (ad := ad) (bm := bm) (P := P) (Tt := Tt) hR (xs (i + 1)) (xs (i + 2)) (xs (i + 3))
  refine lv_aload_n hx hb dL_law_969 rfl (lv_at hl 2 rfl) ?_
  refine lw_arg C hH.2.2.2 (lv_at hl 3 rfl) (lv_at hl 0 rfl) 1 (by omega) rfl dL_law_970 dL_law_971 dL_law_972 dL_law_973 dL_law_974 ?_
  refine lw_arg C hH.2.2.2 (lv_at hl 3 rfl) (lv_at hl 0 rfl) 2 (by omega) rfl dL_law_975 dL_law_976 dL_law_977 dL_law_978 dL_law_979 ?_
  refine lw_arg C hH.2.2.2 (lv_at hl 3 rfl) (lv_at hl 0 rfl) 3 (by omega) rfl dL_law_980 dL_law_981 dL_law_982 dL_law_983 dL_law_984 ?_
  refine lw_c9 C hH h9 gL_law_X9_taken rfl (by decide) hdV_X9_taken rfl clsW_adr rfl hl.1 rfl (Nat.le_of_ble_eq_true rfl) dL_law_985 (fun H1 locs1 hH1 => ?_)
  refine lv_aload_n hx hb dL_law_988 rfl (lv_at hl 1 rfl) ?_
  refine lw_arg C hH1.2.2.2 (lv_at hl 3 rfl) (lv_at hl 0 rfl) 1 (by omega) rfl dL_law_989 dL_law_990 dL_law_991 dL_law_992 dL_law_993 ?_
  refine lw_arg C hH1.2.2.2 (lv_at hl 3 rfl) (lv_at hl 0 rfl) 2 (by omega) rfl dL_law_994 dL_law_995 dL_law_996 dL_law_997 dL_law_998 ?_
  refine lw_arg C hH1.2.2.2 (lv_at hl 3 rfl) (lv_at hl 0 rfl) 3 (by omega) rfl dL_law_999 dL_law_1000 dL_law_1001 dL_law_1002 dL_law_1003 ?_
  refine lw_c10 C hH1 h10 gL_law_X10_taken rfl (by decide) hdV_X10_taken rfl modW_adr rfl hl.1 rfl (Nat.le_of_ble_eq_true rfl) dL_law_1004 (fun H2 locs2 hH2 => ?_)
  refine lv_icmp_eq (tgt := 1272) hx hb dL_law_1007 (by decide) (fun _ => ?_) (fun q => absurd rfl q)
  exact kk d H2 locs2 ls V' E' P' T' Ts' Tt' S' M' Z' hH2 hR' hl
set_option maxHeartbeats 4000000 in
set_option maxRecDepth 100000 in
theorem lw_case_26 {d : Drawn} {H : Heap} {locs : List Loc} {ls : Array Slot} {i : Nat} {V : Nat → Int32} {E : Nat → Nat → Int32} {P : Nat → UInt32} {T Ts Tt : Nat → Nat → Int32} {S : Nat → Nat → Nat → Int32} {M : Nat → Int32} {Z : Nat → Nat → Int32} (C : lwC p s m meth c b L xs dC dI cI cF cC cZ cQ cS) (hH : lwH s dC dI d H locs (clsW cI cF cC cQ cS bx o sn tr ad V E P T Ts Tt S ++ modW cI cC cZ bm M Z)) (hR : Rel V E T Ts S M Z) (hl : lv_has ls 8 [(3, .int (nI i)), (2, .ref (bm 0)), (1, .ref (bx 0)), (0, .ref b)]) (hi : i + 6 ≤ L)
    (kk : lwK p l e s m below meth c b dC dI cI cF cC cZ cQ cS bx o sn tr ad bm i) : lwW p l e s m below meth c b d H locs 1012 ls [] := by
  have hx := C.1
  have hb := C.2.1
  by_cases hz : xs (i + 4) = 0
  · obtain ⟨r, V', E', P', T', Ts', Tt', S', M', Z', hR', h9, h10⟩ := P_wouldGet (l := l) (dC := dC) (dI := dI) (cI := cI) (cF := cF) (cC := cC) (cZ := cZ) (cQ := cQ) (cS := cS) (b := bx) (o := o) (sn := sn) (tr := tr) (ad := ad) (bm := bm) (P := P) (Tt := Tt) hR (xs (i + 1)) (xs (i + 2)) (xs (i + 3)) (nI 0) (xs (i + 5))
    refine lv_aload_n hx hb dL_law_1012 rfl (lv_at hl 2 rfl) ?_
    refine lw_arg C hH.2.2.2 (lv_at hl 3 rfl) (lv_at hl 0 rfl) 1 (by omega) rfl dL_law_1013 dL_law_1014 dL_law_1015 dL_law_1016 dL_law_1017 ?_
    refine lw_arg C hH.2.2.2 (lv_at hl 3 rfl) (lv_at hl 0 rfl) 2 (by omega) rfl dL_law_1018 dL_law_1019 dL_law_1020 dL_law_1021 dL_law_1022 ?_
    refine lw_arg C hH.2.2.2 (lv_at hl 3 rfl) (lv_at hl 0 rfl) 3 (by omega) rfl dL_law_1023 dL_law_1024 dL_law_1025 dL_law_1026 dL_law_1027 ?_
    refine lw_arg C hH.2.2.2 (lv_at hl 3 rfl) (lv_at hl 0 rfl) 4 (by omega) rfl dL_law_1028 dL_law_1029 dL_law_1030 dL_law_1031 dL_law_1032 ?_
    refine lv_if_eq (tgt := 1040) hx hb dL_law_1033 (by decide) (fun _ => ?_) (fun q => absurd hz q)
    refine lv_iconst (v := nI 0) hx hb dL_law_1040 rfl ?_
    refine lw_arg C hH.2.2.2 (lv_at hl 3 rfl) (lv_at hl 0 rfl) 5 (by omega) rfl dL_law_1041 dL_law_1042 dL_law_1043 dL_law_1044 dL_law_1045 ?_
    refine lw_c9 C hH h9 gL_law_X9_wouldGet rfl (by decide) hdV_X9_wouldGet rfl clsW_adr rfl hl.1 rfl (Nat.le_of_ble_eq_true rfl) dL_law_1046 (fun H1 locs1 hH1 => ?_)
    refine lv_aload_n hx hb dL_law_1049 rfl (lv_at hl 1 rfl) ?_
    refine lw_arg C hH1.2.2.2 (lv_at hl 3 rfl) (lv_at hl 0 rfl) 1 (by omega) rfl dL_law_1050 dL_law_1051 dL_law_1052 dL_law_1053 dL_law_1054 ?_
    refine lw_arg C hH1.2.2.2 (lv_at hl 3 rfl) (lv_at hl 0 rfl) 2 (by omega) rfl dL_law_1055 dL_law_1056 dL_law_1057 dL_law_1058 dL_law_1059 ?_
    refine lw_arg C hH1.2.2.2 (lv_at hl 3 rfl) (lv_at hl 0 rfl) 3 (by omega) rfl dL_law_1060 dL_law_1061 dL_law_1062 dL_law_1063 dL_law_1064 ?_
    refine lw_arg C hH1.2.2.2 (lv_at hl 3 rfl) (lv_at hl 0 rfl) 4 (by omega) rfl dL_law_1065 dL_law_1066 dL_law_1067 dL_law_1068 dL_law_1069 ?_
    refine lv_if_eq (tgt := 1077) hx hb dL_law_1070 (by decide) (fun _ => ?_) (fun q => absurd hz q)
    refine lv_iconst (v := nI 0) hx hb dL_law_1077 rfl ?_
    refine lw_arg C hH1.2.2.2 (lv_at hl 3 rfl) (lv_at hl 0 rfl) 5 (by omega) rfl dL_law_1078 dL_law_1079 dL_law_1080 dL_law_1081 dL_law_1082 ?_
    refine lw_c10 C hH1 h10 gL_law_X10_wouldGet rfl (by decide) hdV_X10_wouldGet rfl modW_adr rfl hl.1 rfl (Nat.le_of_ble_eq_true rfl) dL_law_1083 (fun H2 locs2 hH2 => ?_)
    refine lv_icmp_eq (tgt := 1272) hx hb dL_law_1086 (by decide) (fun _ => ?_) (fun q => absurd rfl q)
    exact kk d H2 locs2 ls V' E' P' T' Ts' Tt' S' M' Z' hH2 hR' hl
  · obtain ⟨r, V', E', P', T', Ts', Tt', S', M', Z', hR', h9, h10⟩ := P_wouldGet (l := l) (dC := dC) (dI := dI) (cI := cI) (cF := cF) (cC := cC) (cZ := cZ) (cQ := cQ) (cS := cS) (b := bx) (o := o) (sn := sn) (tr := tr) (ad := ad) (bm := bm) (P := P) (Tt := Tt) hR (xs (i + 1)) (xs (i + 2)) (xs (i + 3)) (nI 1) (xs (i + 5))
    refine lv_aload_n hx hb dL_law_1012 rfl (lv_at hl 2 rfl) ?_
    refine lw_arg C hH.2.2.2 (lv_at hl 3 rfl) (lv_at hl 0 rfl) 1 (by omega) rfl dL_law_1013 dL_law_1014 dL_law_1015 dL_law_1016 dL_law_1017 ?_
    refine lw_arg C hH.2.2.2 (lv_at hl 3 rfl) (lv_at hl 0 rfl) 2 (by omega) rfl dL_law_1018 dL_law_1019 dL_law_1020 dL_law_1021 dL_law_1022 ?_
    refine lw_arg C hH.2.2.2 (lv_at hl 3 rfl) (lv_at hl 0 rfl) 3 (by omega) rfl dL_law_1023 dL_law_1024 dL_law_1025 dL_law_1026 dL_law_1027 ?_
    refine lw_arg C hH.2.2.2 (lv_at hl 3 rfl) (lv_at hl 0 rfl) 4 (by omega) rfl dL_law_1028 dL_law_1029 dL_law_1030 dL_law_1031 dL_law_1032 ?_
    refine lv_if_eq (tgt := 1040) hx hb dL_law_1033 (by decide) (fun q => absurd q hz) (fun _ => ?_)
    refine lv_iconst (v := nI 1) hx hb dL_law_1036 rfl ?_
    refine lv_goto (tgt := 1041) hx hb dL_law_1037 (by decide) ?_
    refine lw_arg C hH.2.2.2 (lv_at hl 3 rfl) (lv_at hl 0 rfl) 5 (by omega) rfl dL_law_1041 dL_law_1042 dL_law_1043 dL_law_1044 dL_law_1045 ?_
    refine lw_c9 C hH h9 gL_law_X9_wouldGet rfl (by decide) hdV_X9_wouldGet rfl clsW_adr rfl hl.1 rfl (Nat.le_of_ble_eq_true rfl) dL_law_1046 (fun H1 locs1 hH1 => ?_)
    refine lv_aload_n hx hb dL_law_1049 rfl (lv_at hl 1 rfl) ?_
    refine lw_arg C hH1.2.2.2 (lv_at hl 3 rfl) (lv_at hl 0 rfl) 1 (by omega) rfl dL_law_1050 dL_law_1051 dL_law_1052 dL_law_1053 dL_law_1054 ?_
    refine lw_arg C hH1.2.2.2 (lv_at hl 3 rfl) (lv_at hl 0 rfl) 2 (by omega) rfl dL_law_1055 dL_law_1056 dL_law_1057 dL_law_1058 dL_law_1059 ?_
    refine lw_arg C hH1.2.2.2 (lv_at hl 3 rfl) (lv_at hl 0 rfl) 3 (by omega) rfl dL_law_1060 dL_law_1061 dL_law_1062 dL_law_1063 dL_law_1064 ?_
    refine lw_arg C hH1.2.2.2 (lv_at hl 3 rfl) (lv_at hl 0 rfl) 4 (by omega) rfl dL_law_1065 dL_law_1066 dL_law_1067 dL_law_1068 dL_law_1069 ?_
    refine lv_if_eq (tgt := 1077) hx hb dL_law_1070 (by decide) (fun q => absurd q hz) (fun _ => ?_)
    refine lv_iconst (v := nI 1) hx hb dL_law_1073 rfl ?_
    refine lv_goto (tgt := 1078) hx hb dL_law_1074 (by decide) ?_
    refine lw_arg C hH1.2.2.2 (lv_at hl 3 rfl) (lv_at hl 0 rfl) 5 (by omega) rfl dL_law_1078 dL_law_1079 dL_law_1080 dL_law_1081 dL_law_1082 ?_
    refine lw_c10 C hH1 h10 gL_law_X10_wouldGet rfl (by decide) hdV_X10_wouldGet rfl modW_adr rfl hl.1 rfl (Nat.le_of_ble_eq_true rfl) dL_law_1083 (fun H2 locs2 hH2 => ?_)
    refine lv_icmp_eq (tgt := 1272) hx hb dL_law_1086 (by decide) (fun _ => ?_) (fun q => absurd rfl q)
    exact kk d H2 locs2 ls V' E' P' T' Ts' Tt' S' M' Z' hH2 hR' hl
set_option maxHeartbeats 4000000 in
set_option maxRecDepth 100000 in
theorem lw_case_27 {d : Drawn} {H : Heap} {locs : List Loc} {ls : Array Slot} {i : Nat} {V : Nat → Int32} {E : Nat → Nat → Int32} {P : Nat → UInt32} {T Ts Tt : Nat → Nat → Int32} {S : Nat → Nat → Nat → Int32} {M : Nat → Int32} {Z : Nat → Nat → Int32} (C : lwC p s m meth c b L xs dC dI cI cF cC cZ cQ cS) (hH : lwH s dC dI d H locs (clsW cI cF cC cQ cS bx o sn tr ad V E P T Ts Tt S ++ modW cI cC cZ bm M Z)) (hR : Rel V E T Ts S M Z) (hl : lv_has ls 8 [(3, .int (nI i)), (2, .ref (bm 0)), (1, .ref (bx 0)), (0, .ref b)]) (hi : i + 6 ≤ L)
    (kk : lwK p l e s m below meth c b dC dI cI cF cC cZ cQ cS bx o sn tr ad bm i) : lwW p l e s m below meth c b d H locs 1091 ls [] := by
  have hx := C.1
  have hb := C.2.1
  obtain ⟨r, V', E', P', T', Ts', Tt', S', M', Z', hR', h9, h10⟩ := P_wouldExpire (l := l) (dC := dC) (dI := dI) (cI := cI) (cF := cF) (cC := cC) (cZ := cZ) (cQ := cQ) (cS := cS) (b := bx) (o := o) (sn := sn) (tr := tr) (ad := ad) (bm := bm) (P := P) (Tt := Tt) hR (xs (i + 1)) (xs (i + 2))
  refine lv_aload_n hx hb dL_law_1091 rfl (lv_at hl 2 rfl) ?_
  refine lw_arg C hH.2.2.2 (lv_at hl 3 rfl) (lv_at hl 0 rfl) 1 (by omega) rfl dL_law_1092 dL_law_1093 dL_law_1094 dL_law_1095 dL_law_1096 ?_
  refine lw_arg C hH.2.2.2 (lv_at hl 3 rfl) (lv_at hl 0 rfl) 2 (by omega) rfl dL_law_1097 dL_law_1098 dL_law_1099 dL_law_1100 dL_law_1101 ?_
  refine lw_c9 C hH h9 gL_law_X9_wouldExpire rfl (by decide) hdV_X9_wouldExpire rfl clsW_adr rfl hl.1 rfl (Nat.le_of_ble_eq_true rfl) dL_law_1102 (fun H1 locs1 hH1 => ?_)
  refine lv_aload_n hx hb dL_law_1105 rfl (lv_at hl 1 rfl) ?_
  refine lw_arg C hH1.2.2.2 (lv_at hl 3 rfl) (lv_at hl 0 rfl) 1 (by omega) rfl dL_law_1106 dL_law_1107 dL_law_1108 dL_law_1109 dL_law_1110 ?_
  refine lw_arg C hH1.2.2.2 (lv_at hl 3 rfl) (lv_at hl 0 rfl) 2 (by omega) rfl dL_law_1111 dL_law_1112 dL_law_1113 dL_law_1114 dL_law_1115 ?_
  refine lw_c10 C hH1 h10 gL_law_X10_wouldExpire rfl (by decide) hdV_X10_wouldExpire rfl modW_adr rfl hl.1 rfl (Nat.le_of_ble_eq_true rfl) dL_law_1116 (fun H2 locs2 hH2 => ?_)
  refine lv_icmp_eq (tgt := 1272) hx hb dL_law_1119 (by decide) (fun _ => ?_) (fun q => absurd rfl q)
  exact kk d H2 locs2 ls V' E' P' T' Ts' Tt' S' M' Z' hH2 hR' hl
set_option maxHeartbeats 4000000 in
set_option maxRecDepth 100000 in
theorem lw_case_28 {d : Drawn} {H : Heap} {locs : List Loc} {ls : Array Slot} {i : Nat} {V : Nat → Int32} {E : Nat → Nat → Int32} {P : Nat → UInt32} {T Ts Tt : Nat → Nat → Int32} {S : Nat → Nat → Nat → Int32} {M : Nat → Int32} {Z : Nat → Nat → Int32} (C : lwC p s m meth c b L xs dC dI cI cF cC cZ cQ cS) (hH : lwH s dC dI d H locs (clsW cI cF cC cQ cS bx o sn tr ad V E P T Ts Tt S ++ modW cI cC cZ bm M Z)) (hR : Rel V E T Ts S M Z) (hl : lv_has ls 8 [(3, .int (nI i)), (2, .ref (bm 0)), (1, .ref (bx 0)), (0, .ref b)]) (hi : i + 6 ≤ L)
    (kk : lwK p l e s m below meth c b dC dI cI cF cC cZ cQ cS bx o sn tr ad bm i) : lwW p l e s m below meth c b d H locs 1124 ls [] := by
  have hx := C.1
  have hb := C.2.1
  obtain ⟨r, V', E', P', T', Ts', Tt', S', M', Z', hR', h9, h10⟩ := P_stageIn (l := l) (dC := dC) (dI := dI) (cI := cI) (cF := cF) (cC := cC) (cZ := cZ) (cQ := cQ) (cS := cS) (b := bx) (o := o) (sn := sn) (tr := tr) (ad := ad) (bm := bm) (P := P) (Tt := Tt) hR (xs (i + 1)) (xs (i + 2))
  refine lv_aload_n hx hb dL_law_1124 rfl (lv_at hl 2 rfl) ?_
  refine lw_arg C hH.2.2.2 (lv_at hl 3 rfl) (lv_at hl 0 rfl) 1 (by omega) rfl dL_law_1125 dL_law_1126 dL_law_1127 dL_law_1128 dL_law_1129 ?_
  refine lw_arg C hH.2.2.2 (lv_at hl 3 rfl) (lv_at hl 0 rfl) 2 (by omega) rfl dL_law_1130 dL_law_1131 dL_law_1132 dL_law_1133 dL_law_1134 ?_
  refine lw_c9 C hH h9 gL_law_X9_stageIn rfl (by decide) hdV_X9_stageIn rfl clsW_adr rfl hl.1 rfl (Nat.le_of_ble_eq_true rfl) dL_law_1135 (fun H1 locs1 hH1 => ?_)
  refine lv_aload_n hx hb dL_law_1138 rfl (lv_at hl 1 rfl) ?_
  refine lw_arg C hH1.2.2.2 (lv_at hl 3 rfl) (lv_at hl 0 rfl) 1 (by omega) rfl dL_law_1139 dL_law_1140 dL_law_1141 dL_law_1142 dL_law_1143 ?_
  refine lw_arg C hH1.2.2.2 (lv_at hl 3 rfl) (lv_at hl 0 rfl) 2 (by omega) rfl dL_law_1144 dL_law_1145 dL_law_1146 dL_law_1147 dL_law_1148 ?_
  refine lw_c10 C hH1 h10 gL_law_X10_stageIn rfl (by decide) hdV_X10_stageIn rfl modW_adr rfl hl.1 rfl (Nat.le_of_ble_eq_true rfl) dL_law_1149 (fun H2 locs2 hH2 => ?_)
  refine lv_icmp_eq (tgt := 1272) hx hb dL_law_1152 (by decide) (fun _ => ?_) (fun q => absurd rfl q)
  exact kk d H2 locs2 ls V' E' P' T' Ts' Tt' S' M' Z' hH2 hR' hl
set_option maxHeartbeats 4000000 in
set_option maxRecDepth 100000 in
theorem lw_case_29 {d : Drawn} {H : Heap} {locs : List Loc} {ls : Array Slot} {i : Nat} {V : Nat → Int32} {E : Nat → Nat → Int32} {P : Nat → UInt32} {T Ts Tt : Nat → Nat → Int32} {S : Nat → Nat → Nat → Int32} {M : Nat → Int32} {Z : Nat → Nat → Int32} (C : lwC p s m meth c b L xs dC dI cI cF cC cZ cQ cS) (hH : lwH s dC dI d H locs (clsW cI cF cC cQ cS bx o sn tr ad V E P T Ts Tt S ++ modW cI cC cZ bm M Z)) (hR : Rel V E T Ts S M Z) (hl : lv_has ls 8 [(3, .int (nI i)), (2, .ref (bm 0)), (1, .ref (bx 0)), (0, .ref b)]) (hi : i + 6 ≤ L)
    (kk : lwK p l e s m below meth c b dC dI cI cF cC cZ cQ cS bx o sn tr ad bm i) : lwW p l e s m below meth c b d H locs 1157 ls [] := by
  have hx := C.1
  have hb := C.2.1
  obtain ⟨r, V', E', P', T', Ts', Tt', S', M', Z', hR', h9, h10⟩ := P_event (l := l) (dC := dC) (dI := dI) (cI := cI) (cF := cF) (cC := cC) (cZ := cZ) (cQ := cQ) (cS := cS) (b := bx) (o := o) (sn := sn) (tr := tr) (ad := ad) (bm := bm) (P := P) (Tt := Tt) hR (xs (i + 1)) (xs (i + 2))
  refine lv_aload_n hx hb dL_law_1157 rfl (lv_at hl 2 rfl) ?_
  refine lw_arg C hH.2.2.2 (lv_at hl 3 rfl) (lv_at hl 0 rfl) 1 (by omega) rfl dL_law_1158 dL_law_1159 dL_law_1160 dL_law_1161 dL_law_1162 ?_
  refine lw_arg C hH.2.2.2 (lv_at hl 3 rfl) (lv_at hl 0 rfl) 2 (by omega) rfl dL_law_1163 dL_law_1164 dL_law_1165 dL_law_1166 dL_law_1167 ?_
  refine lw_c9 C hH h9 gL_law_X9_event rfl (by decide) hdV_X9_event rfl clsW_adr rfl hl.1 rfl (Nat.le_of_ble_eq_true rfl) dL_law_1168 (fun H1 locs1 hH1 => ?_)
  refine lv_aload_n hx hb dL_law_1171 rfl (lv_at hl 1 rfl) ?_
  refine lw_arg C hH1.2.2.2 (lv_at hl 3 rfl) (lv_at hl 0 rfl) 1 (by omega) rfl dL_law_1172 dL_law_1173 dL_law_1174 dL_law_1175 dL_law_1176 ?_
  refine lw_arg C hH1.2.2.2 (lv_at hl 3 rfl) (lv_at hl 0 rfl) 2 (by omega) rfl dL_law_1177 dL_law_1178 dL_law_1179 dL_law_1180 dL_law_1181 ?_
  refine lw_c10 C hH1 h10 gL_law_X10_event rfl (by decide) hdV_X10_event rfl modW_adr rfl hl.1 rfl (Nat.le_of_ble_eq_true rfl) dL_law_1182 (fun H2 locs2 hH2 => ?_)
  refine lv_icmp_eq (tgt := 1272) hx hb dL_law_1185 (by decide) (fun _ => ?_) (fun q => absurd rfl q)
  exact kk d H2 locs2 ls V' E' P' T' Ts' Tt' S' M' Z' hH2 hR' hl
set_option maxHeartbeats 4000000 in
set_option maxRecDepth 100000 in
theorem lw_case_30 {d : Drawn} {H : Heap} {locs : List Loc} {ls : Array Slot} {i : Nat} {V : Nat → Int32} {E : Nat → Nat → Int32} {P : Nat → UInt32} {T Ts Tt : Nat → Nat → Int32} {S : Nat → Nat → Nat → Int32} {M : Nat → Int32} {Z : Nat → Nat → Int32} (C : lwC p s m meth c b L xs dC dI cI cF cC cZ cQ cS) (hH : lwH s dC dI d H locs (clsW cI cF cC cQ cS bx o sn tr ad V E P T Ts Tt S ++ modW cI cC cZ bm M Z)) (hR : Rel V E T Ts S M Z) (hl : lv_has ls 8 [(3, .int (nI i)), (2, .ref (bm 0)), (1, .ref (bx 0)), (0, .ref b)]) (hi : i + 6 ≤ L)
    (kk : lwK p l e s m below meth c b dC dI cI cF cC cZ cQ cS bx o sn tr ad bm i) : lwW p l e s m below meth c b d H locs 1190 ls [] := by
  have hx := C.1
  have hb := C.2.1
  by_cases hz : xs (i + 2) = 0
  · obtain ⟨r, V', E', P', T', Ts', Tt', S', M', Z', hR', h9, h10⟩ := P_takes (l := l) (dC := dC) (dI := dI) (cI := cI) (cF := cF) (cC := cC) (cZ := cZ) (cQ := cQ) (cS := cS) (b := bx) (o := o) (sn := sn) (tr := tr) (ad := ad) (bm := bm) (P := P) (Tt := Tt) hR (xs (i + 1)) (nI 0) (xs (i + 3))
    refine lv_aload_n hx hb dL_law_1190 rfl (lv_at hl 2 rfl) ?_
    refine lw_arg C hH.2.2.2 (lv_at hl 3 rfl) (lv_at hl 0 rfl) 1 (by omega) rfl dL_law_1191 dL_law_1192 dL_law_1193 dL_law_1194 dL_law_1195 ?_
    refine lw_arg C hH.2.2.2 (lv_at hl 3 rfl) (lv_at hl 0 rfl) 2 (by omega) rfl dL_law_1196 dL_law_1197 dL_law_1198 dL_law_1199 dL_law_1200 ?_
    refine lv_if_eq (tgt := 1208) hx hb dL_law_1201 (by decide) (fun _ => ?_) (fun q => absurd hz q)
    refine lv_iconst (v := nI 0) hx hb dL_law_1208 rfl ?_
    refine lw_arg C hH.2.2.2 (lv_at hl 3 rfl) (lv_at hl 0 rfl) 3 (by omega) rfl dL_law_1209 dL_law_1210 dL_law_1211 dL_law_1212 dL_law_1213 ?_
    refine lw_c9 C hH h9 gL_law_X9_takes rfl (by decide) hdV_X9_takes rfl clsW_adr rfl hl.1 rfl (Nat.le_of_ble_eq_true rfl) dL_law_1214 (fun H1 locs1 hH1 => ?_)
    refine lv_aload_n hx hb dL_law_1217 rfl (lv_at hl 1 rfl) ?_
    refine lw_arg C hH1.2.2.2 (lv_at hl 3 rfl) (lv_at hl 0 rfl) 1 (by omega) rfl dL_law_1218 dL_law_1219 dL_law_1220 dL_law_1221 dL_law_1222 ?_
    refine lw_arg C hH1.2.2.2 (lv_at hl 3 rfl) (lv_at hl 0 rfl) 2 (by omega) rfl dL_law_1223 dL_law_1224 dL_law_1225 dL_law_1226 dL_law_1227 ?_
    refine lv_if_eq (tgt := 1235) hx hb dL_law_1228 (by decide) (fun _ => ?_) (fun q => absurd hz q)
    refine lv_iconst (v := nI 0) hx hb dL_law_1235 rfl ?_
    refine lw_arg C hH1.2.2.2 (lv_at hl 3 rfl) (lv_at hl 0 rfl) 3 (by omega) rfl dL_law_1236 dL_law_1237 dL_law_1238 dL_law_1239 dL_law_1240 ?_
    refine lw_c10 C hH1 h10 gL_law_X10_takes rfl (by decide) hdV_X10_takes rfl modW_adr rfl hl.1 rfl (Nat.le_of_ble_eq_true rfl) dL_law_1241 (fun H2 locs2 hH2 => ?_)
    refine lv_icmp_eq (tgt := 1272) hx hb dL_law_1244 (by decide) (fun _ => ?_) (fun q => absurd rfl q)
    exact kk d H2 locs2 ls V' E' P' T' Ts' Tt' S' M' Z' hH2 hR' hl
  · obtain ⟨r, V', E', P', T', Ts', Tt', S', M', Z', hR', h9, h10⟩ := P_takes (l := l) (dC := dC) (dI := dI) (cI := cI) (cF := cF) (cC := cC) (cZ := cZ) (cQ := cQ) (cS := cS) (b := bx) (o := o) (sn := sn) (tr := tr) (ad := ad) (bm := bm) (P := P) (Tt := Tt) hR (xs (i + 1)) (nI 1) (xs (i + 3))
    refine lv_aload_n hx hb dL_law_1190 rfl (lv_at hl 2 rfl) ?_
    refine lw_arg C hH.2.2.2 (lv_at hl 3 rfl) (lv_at hl 0 rfl) 1 (by omega) rfl dL_law_1191 dL_law_1192 dL_law_1193 dL_law_1194 dL_law_1195 ?_
    refine lw_arg C hH.2.2.2 (lv_at hl 3 rfl) (lv_at hl 0 rfl) 2 (by omega) rfl dL_law_1196 dL_law_1197 dL_law_1198 dL_law_1199 dL_law_1200 ?_
    refine lv_if_eq (tgt := 1208) hx hb dL_law_1201 (by decide) (fun q => absurd q hz) (fun _ => ?_)
    refine lv_iconst (v := nI 1) hx hb dL_law_1204 rfl ?_
    refine lv_goto (tgt := 1209) hx hb dL_law_1205 (by decide) ?_
    refine lw_arg C hH.2.2.2 (lv_at hl 3 rfl) (lv_at hl 0 rfl) 3 (by omega) rfl dL_law_1209 dL_law_1210 dL_law_1211 dL_law_1212 dL_law_1213 ?_
    refine lw_c9 C hH h9 gL_law_X9_takes rfl (by decide) hdV_X9_takes rfl clsW_adr rfl hl.1 rfl (Nat.le_of_ble_eq_true rfl) dL_law_1214 (fun H1 locs1 hH1 => ?_)
    refine lv_aload_n hx hb dL_law_1217 rfl (lv_at hl 1 rfl) ?_
    refine lw_arg C hH1.2.2.2 (lv_at hl 3 rfl) (lv_at hl 0 rfl) 1 (by omega) rfl dL_law_1218 dL_law_1219 dL_law_1220 dL_law_1221 dL_law_1222 ?_
    refine lw_arg C hH1.2.2.2 (lv_at hl 3 rfl) (lv_at hl 0 rfl) 2 (by omega) rfl dL_law_1223 dL_law_1224 dL_law_1225 dL_law_1226 dL_law_1227 ?_
    refine lv_if_eq (tgt := 1235) hx hb dL_law_1228 (by decide) (fun q => absurd q hz) (fun _ => ?_)
    refine lv_iconst (v := nI 1) hx hb dL_law_1231 rfl ?_
    refine lv_goto (tgt := 1236) hx hb dL_law_1232 (by decide) ?_
    refine lw_arg C hH1.2.2.2 (lv_at hl 3 rfl) (lv_at hl 0 rfl) 3 (by omega) rfl dL_law_1236 dL_law_1237 dL_law_1238 dL_law_1239 dL_law_1240 ?_
    refine lw_c10 C hH1 h10 gL_law_X10_takes rfl (by decide) hdV_X10_takes rfl modW_adr rfl hl.1 rfl (Nat.le_of_ble_eq_true rfl) dL_law_1241 (fun H2 locs2 hH2 => ?_)
    refine lv_icmp_eq (tgt := 1272) hx hb dL_law_1244 (by decide) (fun _ => ?_) (fun q => absurd rfl q)
    exact kk d H2 locs2 ls V' E' P' T' Ts' Tt' S' M' Z' hH2 hR' hl
set_option maxHeartbeats 4000000 in
set_option maxRecDepth 100000 in
theorem lw_case_31 {d : Drawn} {H : Heap} {locs : List Loc} {ls : Array Slot} {i : Nat} {V : Nat → Int32} {E : Nat → Nat → Int32} {P : Nat → UInt32} {T Ts Tt : Nat → Nat → Int32} {S : Nat → Nat → Nat → Int32} {M : Nat → Int32} {Z : Nat → Nat → Int32} (C : lwC p s m meth c b L xs dC dI cI cF cC cZ cQ cS) (hH : lwH s dC dI d H locs (clsW cI cF cC cQ cS bx o sn tr ad V E P T Ts Tt S ++ modW cI cC cZ bm M Z)) (hR : Rel V E T Ts S M Z) (hl : lv_has ls 8 [(3, .int (nI i)), (2, .ref (bm 0)), (1, .ref (bx 0)), (0, .ref b)]) (hi : i + 6 ≤ L)
    (kk : lwK p l e s m below meth c b dC dI cI cF cC cZ cQ cS bx o sn tr ad bm i) : lwW p l e s m below meth c b d H locs 1249 ls [] := by
  have hx := C.1
  have hb := C.2.1
  obtain ⟨r, V', E', P', T', Ts', Tt', S', M', Z', hR', h9, h10⟩ := P_count (l := l) (dC := dC) (dI := dI) (cI := cI) (cF := cF) (cC := cC) (cZ := cZ) (cQ := cQ) (cS := cS) (b := bx) (o := o) (sn := sn) (tr := tr) (ad := ad) (bm := bm) (P := P) (Tt := Tt) hR (xs (i + 1))
  refine lv_aload_n hx hb dL_law_1249 rfl (lv_at hl 2 rfl) ?_
  refine lw_arg C hH.2.2.2 (lv_at hl 3 rfl) (lv_at hl 0 rfl) 1 (by omega) rfl dL_law_1250 dL_law_1251 dL_law_1252 dL_law_1253 dL_law_1254 ?_
  refine lw_c9 C hH h9 gL_law_X9_count rfl (by decide) hdV_X9_count rfl clsW_adr rfl hl.1 rfl (Nat.le_of_ble_eq_true rfl) dL_law_1255 (fun H1 locs1 hH1 => ?_)
  refine lv_aload_n hx hb dL_law_1258 rfl (lv_at hl 1 rfl) ?_
  refine lw_arg C hH1.2.2.2 (lv_at hl 3 rfl) (lv_at hl 0 rfl) 1 (by omega) rfl dL_law_1259 dL_law_1260 dL_law_1261 dL_law_1262 dL_law_1263 ?_
  refine lw_c10 C hH1 h10 gL_law_X10_count rfl (by decide) hdV_X10_count rfl modW_adr rfl hl.1 rfl (Nat.le_of_ble_eq_true rfl) dL_law_1264 (fun H2 locs2 hH2 => ?_)
  refine lv_icmp_eq (tgt := 1272) hx hb dL_law_1267 (by decide) (fun _ => ?_) (fun q => absurd rfl q)
  exact kk d H2 locs2 ls V' E' P' T' Ts' Tt' S' M' Z' hH2 hR' hl
end LW
