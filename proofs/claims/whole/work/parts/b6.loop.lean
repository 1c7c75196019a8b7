/-! The law: its loop, its entry. -/
section LW
variable {p : Program} {l : Launch} {e : Env} {s : State} {m : MethodId} {below : List Frame} {meth : Method} {c : Code} {b L : Nat} {xs : Nat → Int32} {dC : Nat → ClassId} {dI : Nat → Nat → Nat} {cI cF cC cZ cQ cS : ClassId} {bx o sn tr : Nat → Nat} {ad : Nat → Nat → Nat} {bm : Nat → Nat}

set_option maxHeartbeats 4000000 in
set_option maxRecDepth 100000 in
theorem lw_loop (C : lwC p s m meth c b L xs dC dI cI cF cC cZ cQ cS) : ∀ (n i : Nat), L ≤ i + n → i ≤ L + 6 → ∀ (d : Drawn) (H : Heap) (locs : List Loc) (ls : Array Slot) (V : Nat → Int32) (E : Nat → Nat → Int32) (P : Nat → UInt32) (T Ts Tt : Nat → Nat → Int32) (S : Nat → Nat → Nat → Int32) (M : Nat → Int32) (Z : Nat → Nat → Int32),
    lwH s dC dI d H locs (clsW cI cF cC cQ cS bx o sn tr ad V E P T Ts Tt S ++ modW cI cC cZ bm M Z) → Rel V E T Ts S M Z → lv_has ls 8 [(3, .int (nI i)), (2, .ref (bm 0)), (1, .ref (bx 0)), (0, .ref b)] → lwW p l e s m below meth c b d H locs 18 ls [] := by
  intro n
  induction n with
  | zero =>
    intro i hn hiL d H locs ls V E P T Ts Tt S M Z hH hR hl
    obtain ⟨hx, hb, hr, hml, hown, hts, hX, hbl, hlocks, hK, hN, hL⟩ := id C
    have hbA : ¬ lwA s b := Nat.not_le.mpr hbl
    refine lv_iload_n hx hb dL_law_18 rfl (lv_at hl 0 rfl) ?_
    refine lv_aload_n hx hb dL_law_19 rfl (lv_at hl 3 rfl) ?_
    refine va_slen hx hb hX hbl hbA hH.2.2.2 dL_law_20 ?_
    refine lv_bipush (v := nI 6) hx hb dL_law_21 rfl ?_
    refine lv_isub hx hb dL_law_23 ?_
    refine lv_icmp_gt (tgt := 1278) hx hb dL_law_24 (by decide) (fun _ => ?_) (fun q => absurd ?_ q)
    · refine lv_iconst (v := 1) hx hb dL_law_1278 rfl ?_
      refine va_forget (fun q hq => hH.2.2.2.2.2 q hq) ?_
      exact lw_ret hH.1 hx hb hr hlocks dL_law_1279
    · show nI L - nI 6 < nI i
      rw [Int32.lt_iff_toInt_lt, nI_subi (by omega) (by omega), nI_toInt (by omega)]
      omega
  | succ n ih =>
    intro i hn hiL d H locs ls V E P T Ts Tt S M Z hH hR hl
    obtain ⟨hx, hb, hr, hml, hown, hts, hX, hbl, hlocks, hK, hN, hL⟩ := id C
    have hbA : ¬ lwA s b := Nat.not_le.mpr hbl
    refine lv_iload_n hx hb dL_law_18 rfl (lv_at hl 0 rfl) ?_
    refine lv_aload_n hx hb dL_law_19 rfl (lv_at hl 3 rfl) ?_
    refine va_slen hx hb hX hbl hbA hH.2.2.2 dL_law_20 ?_
    refine lv_bipush (v := nI 6) hx hb dL_law_21 rfl ?_
    refine lv_isub hx hb dL_law_23 ?_
    refine lv_icmp_gt (tgt := 1278) hx hb dL_law_24 (by decide) (fun _ => ?_) (fun q => ?_)
    · refine lv_iconst (v := 1) hx hb dL_law_1278 rfl ?_
      refine va_forget (fun q hq => hH.2.2.2.2.2 q hq) ?_
      exact lw_ret hH.1 hx hb hr hlocks dL_law_1279
    · have hi : i + 6 ≤ L := by
        have q2 : ¬ nI L - nI 6 < nI i := q
        rw [Int32.lt_iff_toInt_lt, nI_subi (by omega) (by omega), nI_toInt (by omega)] at q2
        omega
      have hk : lwK p l e s m below meth c b dC dI cI cF cC cZ cQ cS bx o sn tr ad bm i := by
        intro d H locs ls V E P T Ts Tt S M Z hH hR hl
        refine lv_iinc (lv' := [(3, .int (nI (i + 6))), (2, .ref (bm 0)), (1, .ref (bx 0)), (0, .ref b)]) (k := 0) hx hb dL_law_1272 hl rfl (nI_incn i 6) (by decide) rfl (fun ls hl => ?_)
        refine lv_goto (tgt := 18) hx hb dL_law_1275 (by decide) ?_
        exact ih (i + 6) (by omega) (by omega) d H locs ls V E P T Ts Tt S M Z hH hR hl
      refine lv_aload_n hx hb dL_law_27 rfl (lv_at hl 3 rfl) ?_
      refine lv_iload_n hx hb dL_law_28 rfl (lv_at hl 0 rfl) ?_
      refine va_sld (s := s.setDrawn d) hx hb hX hbl hbA hH.2.2.2 (vp_in_nI (show i < L by omega) (by omega)) (pc := 29) dL_law_29 ?_
      refine lv_bipush (v := 31) hx hb dL_law_30 rfl ?_
      refine lv_iand hx hb dL_law_32 ?_
      obtain ⟨j, hj, ej⟩ := xand31 (xs (nI i).toNatClampNeg)
      refine xr_top ej ?_
      rcases (show j = 0 ∨ j = 1 ∨ j = 2 ∨ j = 3 ∨ j = 4 ∨ j = 5 ∨ j = 6 ∨ j = 7 ∨ j = 8 ∨ j = 9 ∨ j = 10 ∨ j = 11 ∨ j = 12 ∨ j = 13 ∨ j = 14 ∨ j = 15 ∨ j = 16 ∨ j = 17 ∨ j = 18 ∨ j = 19 ∨ j = 20 ∨ j = 21 ∨ j = 22 ∨ j = 23 ∨ j = 24 ∨ j = 25 ∨ j = 26 ∨ j = 27 ∨ j = 28 ∨ j = 29 ∨ j = 30 ∨ j = 31 by omega) with rfl | rfl | rfl | rfl | rfl | rfl | rfl | rfl | rfl | rfl | rfl | rfl | rfl | rfl | rfl | rfl | rfl | rfl | rfl | rfl | rfl | rfl | rfl | rfl | rfl | rfl | rfl | rfl | rfl | rfl | rfl | rfl
      · exact lv_tableIn (off := 143) (tgt := 176) hx hb dL_law_33 (by decide) (by decide) (by decide) (by decide) (lw_case_0 C hH hR hl hi hk)
      · exact lv_tableIn (off := 176) (tgt := 209) hx hb dL_law_33 (by decide) (by decide) (by decide) (by decide) (lw_case_1 C hH hR hl hi hk)
      · exact lv_tableIn (off := 209) (tgt := 242) hx hb dL_law_33 (by decide) (by decide) (by decide) (by decide) (lw_case_2 C hH hR hl hi hk)
      · exact lv_tableIn (off := 252) (tgt := 285) hx hb dL_law_33 (by decide) (by decide) (by decide) (by decide) (lw_case_3 C hH hR hl hi hk)
      · exact lv_tableIn (off := 285) (tgt := 318) hx hb dL_law_33 (by decide) (by decide) (by decide) (by decide) (lw_case_4 C hH hR hl hi hk)
      · exact lv_tableIn (off := 328) (tgt := 361) hx hb dL_law_33 (by decide) (by decide) (by decide) (by decide) (lw_case_5 C hH hR hl hi hk)
      · exact lv_tableIn (off := 361) (tgt := 394) hx hb dL_law_33 (by decide) (by decide) (by decide) (by decide) (lw_case_6 C hH hR hl hi hk)
      · exact lv_tableIn (off := 384) (tgt := 417) hx hb dL_law_33 (by decide) (by decide) (by decide) (by decide) (lw_case_7 C hH hR hl hi hk)
      · exact lv_tableIn (off := 427) (tgt := 460) hx hb dL_law_33 (by decide) (by decide) (by decide) (by decide) (lw_case_8 C hH hR hl hi hk)
      · exact lv_tableIn (off := 440) (tgt := 473) hx hb dL_law_33 (by decide) (by decide) (by decide) (by decide) (lw_case_9 C hH hR hl hi hk)
      · exact lv_tableIn (off := 509) (tgt := 542) hx hb dL_law_33 (by decide) (by decide) (by decide) (by decide) (lw_case_10 C hH hR hl hi hk)
      · exact lv_tableIn (off := 542) (tgt := 575) hx hb dL_law_33 (by decide) (by decide) (by decide) (by decide) (lw_case_11 C hH hR hl hi hk)
      · exact lv_tableIn (off := 565) (tgt := 598) hx hb dL_law_33 (by decide) (by decide) (by decide) (by decide) (lw_case_12 C hH hR hl hi hk)
      · exact lv_tableIn (off := 588) (tgt := 621) hx hb dL_law_33 (by decide) (by decide) (by decide) (by decide) (lw_case_13 C hH hR hl hi hk)
      · exact lv_tableIn (off := 613) (tgt := 646) hx hb dL_law_33 (by decide) (by decide) (by decide) (by decide) (lw_case_14 C hH hR hl hi hk)
      · exact lv_tableIn (off := 626) (tgt := 659) hx hb dL_law_33 (by decide) (by decide) (by decide) (by decide) (lw_case_15 C hH hR hl hi hk)
      · exact lv_tableIn (off := 639) (tgt := 672) hx hb dL_law_33 (by decide) (by decide) (by decide) (by decide) (lw_case_16 C hH hR hl hi hk)
      · exact lv_tableIn (off := 652) (tgt := 685) hx hb dL_law_33 (by decide) (by decide) (by decide) (by decide) (lw_case_17 C hH hR hl hi hk)
      · exact lv_tableIn (off := 665) (tgt := 698) hx hb dL_law_33 (by decide) (by decide) (by decide) (by decide) (lw_case_18 C hH hR hl hi hk)
      · exact lv_tableIn (off := 698) (tgt := 731) hx hb dL_law_33 (by decide) (by decide) (by decide) (by decide) (lw_case_19 C hH hR hl hi hk)
      · exact lv_tableIn (off := 731) (tgt := 764) hx hb dL_law_33 (by decide) (by decide) (by decide) (by decide) (lw_case_20 C hH hR hl hi hk)
      · exact lv_tableIn (off := 764) (tgt := 797) hx hb dL_law_33 (by decide) (by decide) (by decide) (by decide) (lw_case_21 C hH hR hl hi hk)
      · exact lv_tableIn (off := 817) (tgt := 850) hx hb dL_law_33 (by decide) (by decide) (by decide) (by decide) (lw_case_22 C hH hR hl hi hk)
      · exact lv_tableIn (off := 870) (tgt := 903) hx hb dL_law_33 (by decide) (by decide) (by decide) (by decide) (lw_case_23 C hH hR hl hi hk)
      · exact lv_tableIn (off := 903) (tgt := 936) hx hb dL_law_33 (by decide) (by decide) (by decide) (by decide) (lw_case_24 C hH hR hl hi hk)
      · exact lv_tableIn (off := 936) (tgt := 969) hx hb dL_law_33 (by decide) (by decide) (by decide) (by decide) (lw_case_25 C hH hR hl hi hk)
      · exact lv_tableIn (off := 979) (tgt := 1012) hx hb dL_law_33 (by decide) (by decide) (by decide) (by decide) (lw_case_26 C hH hR hl hi hk)
      · exact lv_tableIn (off := 1058) (tgt := 1091) hx hb dL_law_33 (by decide) (by decide) (by decide) (by decide) (lw_case_27 C hH hR hl hi hk)
      · exact lv_tableIn (off := 1091) (tgt := 1124) hx hb dL_law_33 (by decide) (by decide) (by decide) (by decide) (lw_case_28 C hH hR hl hi hk)
      · exact lv_tableIn (off := 1124) (tgt := 1157) hx hb dL_law_33 (by decide) (by decide) (by decide) (by decide) (lw_case_29 C hH hR hl hi hk)
      · exact lv_tableIn (off := 1157) (tgt := 1190) hx hb dL_law_33 (by decide) (by decide) (by decide) (by decide) (lw_case_30 C hH hR hl hi hk)
      · exact lv_tableIn (off := 1216) (tgt := 1249) hx hb dL_law_33 (by decide) (by decide) (by decide) (by decide) (lw_case_31 C hH hR hl hi hk)

end LW
