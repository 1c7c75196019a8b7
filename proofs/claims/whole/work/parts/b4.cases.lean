/-! The law: its cases. -/
theorem xand31 (x : Int32) : ∃ j : Nat, j ≤ 31 ∧ x &&& 31 = nI j := by
  refine ⟨(x &&& 31).toBitVec.toNat, ?_, Int32.toBitVec_inj.mp ?_⟩
  · rw [Int32.toBitVec_and, BitVec.toNat_and]
    exact Nat.and_le_right
  · show (x &&& 31).toBitVec = BitVec.ofNat 32 (x &&& 31).toBitVec.toNat
    simp
/-- a char of an int -/
def xch (x : Int32) : Int32 := (x.toUInt32 % 65536).toInt32
theorem xch_ok (x : Int32) : vp_nar .char (xch x) = xch x := by
  rw [vp_nar_char]
  unfold xch
  rw [UInt32.toUInt32_toInt32]
  refine congrArg UInt32.toInt32 (UInt32.toNat_inj.mp ?_)
  rw [UInt16.toNat_toUInt32, UInt32.toNat_toUInt16, UInt32.toNat_mod]
  show x.toUInt32.toNat % 65536 % 2 ^ 16 = x.toUInt32.toNat % 65536
  omega
/-- what comes behind a call of each: the loop goes on -/
def lwK (p : Program) (l : Launch) (e : Env) (s : State) (m : MethodId) (below : List Frame) (meth : Method) (c : Code) (b : Nat) (dC : Nat → ClassId) (dI : Nat → Nat → Nat) (cI cF cC cZ cQ cS : ClassId) (bx o sn tr : Nat → Nat) (ad : Nat → Nat → Nat) (bm : Nat → Nat) (i : Nat) : Prop :=
  ∀ (d : Drawn) (H : Heap) (locs : List Loc) (ls : Array Slot) (V : Nat → Int32) (E : Nat → Nat → Int32) (P : Nat → UInt32) (T Ts Tt : Nat → Nat → Int32) (S : Nat → Nat → Nat → Int32) (M : Nat → Int32) (Z : Nat → Nat → Int32),
    lwH s dC dI d H locs (clsW cI cF cC cQ cS bx o sn tr ad V E P T Ts Tt S ++ modW cI cC cZ bm M Z) → Rel V E T Ts S M Z → lv_has ls 8 [(3, .int (nI i)), (2, .ref (bm 0)), (1, .ref (bx 0)), (0, .ref b)] → lwW p l e s m below meth c b d H locs 1272 ls []
section LW
variable {p : Program} {l : Launch} {e : Env} {s : State} {m : MethodId} {below : List Frame} {meth : Method} {c : Code} {b L : Nat} {xs : Nat → Int32} {dC : Nat → ClassId} {dI : Nat → Nat → Nat} {cI cF cC cZ cQ cS : ClassId} {bx o sn tr : Nat → Nat} {ad : Nat → Nat → Nat} {bm : Nat → Nat}
set_option maxHeartbeats 4000000 in
set_option maxRecDepth 100000 in
theorem lw_case_0 {d : Drawn} {H : Heap} {locs : List Loc} {ls : Array Slot} {i : Nat} {V : Nat → Int32} {E : Nat → Nat → Int32} {P : Nat → UInt32} {T Ts Tt : Nat → Nat → Int32} {S : Nat → Nat → Nat → Int32} {M : Nat → Int32} {Z : Nat → Nat → Int32} (C : lwC p s m meth c b L xs dC dI cI cF cC cZ cQ cS) (hH : lwH s dC dI d H locs (clsW cI cF cC cQ cS bx o sn tr ad V E P T Ts Tt S ++ modW cI cC cZ bm M Z)) (hR : Rel V E T Ts S M Z) (hl : lv_has ls 8 [(3, .int (nI i)), (2, .ref (bm 0)), (1, .ref (bx 0)), (0, .ref b)]) (hi : i + 6 ≤ L)
    (kk : lwK p l e s m below meth c b dC dI cI cF cC cZ cQ cS bx o sn tr ad bm i) : lwW p l e s m below meth c b d H locs 176 ls [] := by
  have hx := C.1
  have hb := C.2.1
  obtain ⟨r, V', E', P', T', Ts', Tt', S', M', Z', hR', h9, h10⟩ := P_addGood (l := l) (dC := dC) (dI := dI) (cI := cI) (cF := cF) (cC := cC) (cZ := cZ) (cQ := cQ) (cS := cS) (b := bx) (o := o) (sn := sn) (tr := tr) (ad := ad) (bm := bm) (P := P) (Tt := Tt) hR (xs (i + 1)) (xs (i + 2))
  refine lv_aload_n hx hb dL_law_176 rfl (lv_at hl 2 rfl) ?_
  refine lw_arg C hH.2.2.2 (lv_at hl 3 rfl) (lv_at hl 0 rfl) 1 (by omega) rfl dL_law_177 dL_law_178 dL_law_179 dL_law_180 dL_law_181 ?_
  refine lw_arg C hH.2.2.2 (lv_at hl 3 rfl) (lv_at hl 0 rfl) 2 (by omega) rfl dL_law_182 dL_law_183 dL_law_184 dL_law_185 dL_law_186 ?_
  refine lw_c9 C hH h9 gL_law_X9_addGood rfl (by decide) hdV_X9_addGood rfl clsW_adr rfl hl.1 rfl (Nat.le_of_ble_eq_true rfl) dL_law_187 (fun H1 locs1 hH1 => ?_)
  refine lv_aload_n hx hb dL_law_190 rfl (lv_at hl 1 rfl) ?_
  refine lw_arg C hH1.2.2.2 (lv_at hl 3 rfl) (lv_at hl 0 rfl) 1 (by omega) rfl dL_law_191 dL_law_192 dL_law_193 dL_law_194 dL_law_195 ?_
  refine lw_arg C hH1.2.2.2 (lv_at hl 3 rfl) (lv_at hl 0 rfl) 2 (by omega) rfl dL_law_196 dL_law_197 dL_law_198 dL_law_199 dL_law_200 ?_
  refine lw_c10 C hH1 h10 gL_law_X10_addGood rfl (by decide) hdV_X10_addGood rfl modW_adr rfl hl.1 rfl (Nat.le_of_ble_eq_true rfl) dL_law_201 (fun H2 locs2 hH2 => ?_)
  refine lv_icmp_eq (tgt := 1272) hx hb dL_law_204 (by decide) (fun _ => ?_) (fun q => absurd rfl q)
  exact kk d H2 locs2 ls V' E' P' T' Ts' Tt' S' M' Z' hH2 hR' hl
set_option maxHeartbeats 4000000 in
set_option maxRecDepth 100000 in
theorem lw_case_1 {d : Drawn} {H : Heap} {locs : List Loc} {ls : Array Slot} {i : Nat} {V : Nat → Int32} {E : Nat → Nat → Int32} {P : Nat → UInt32} {T Ts Tt : Nat → Nat → Int32} {S : Nat → Nat → Nat → Int32} {M : Nat → Int32} {Z : Nat → Nat → Int32} (C : lwC p s m meth c b L xs dC dI cI cF cC cZ cQ cS) (hH : lwH s dC dI d H locs (clsW cI cF cC cQ cS bx o sn tr ad V E P T Ts Tt S ++ modW cI cC cZ bm M Z)) (hR : Rel V E T Ts S M Z) (hl : lv_has ls 8 [(3, .int (nI i)), (2, .ref (bm 0)), (1, .ref (bx 0)), (0, .ref b)]) (hi : i + 6 ≤ L)
    (kk : lwK p l e s m below meth c b dC dI cI cF cC cZ cQ cS bx o sn tr ad bm i) : lwW p l e s m below meth c b d H locs 209 ls [] := by
  have hx := C.1
  have hb := C.2.1
  obtain ⟨r, V', E', P', T', Ts', Tt', S', M', Z', hR', h9, h10⟩ := P_setPrice (l := l) (dC := dC) (dI := dI) (cI := cI) (cF := cF) (cC := cC) (cZ := cZ) (cQ := cQ) (cS := cS) (b := bx) (o := o) (sn := sn) (tr := tr) (ad := ad) (bm := bm) (P := P) (Tt := Tt) hR (xs (i + 1)) (xs (i + 2))
  refine lv_aload_n hx hb dL_law_209 rfl (lv_at hl 2 rfl) ?_
  refine lw_arg C hH.2.2.2 (lv_at hl 3 rfl) (lv_at hl 0 rfl) 1 (by omega) rfl dL_law_210 dL_law_211 dL_law_212 dL_law_213 dL_law_214 ?_
  refine lw_arg C hH.2.2.2 (lv_at hl 3 rfl) (lv_at hl 0 rfl) 2 (by omega) rfl dL_law_215 dL_law_216 dL_law_217 dL_law_218 dL_law_219 ?_
  refine lw_c9 C hH h9 gL_law_X9_setPrice rfl (by decide) hdV_X9_setPrice rfl clsW_adr rfl hl.1 rfl (Nat.le_of_ble_eq_true rfl) dL_law_220 (fun H1 locs1 hH1 => ?_)
  refine lv_aload_n hx hb dL_law_223 rfl (lv_at hl 1 rfl) ?_
  refine lw_arg C hH1.2.2.2 (lv_at hl 3 rfl) (lv_at hl 0 rfl) 1 (by omega) rfl dL_law_224 dL_law_225 dL_law_226 dL_law_227 dL_law_228 ?_
  refine lw_arg C hH1.2.2.2 (lv_at hl 3 rfl) (lv_at hl 0 rfl) 2 (by omega) rfl dL_law_229 dL_law_230 dL_law_231 dL_law_232 dL_law_233 ?_
  refine lw_c10 C hH1 h10 gL_law_X10_setPrice rfl (by decide) hdV_X10_setPrice rfl modW_adr rfl hl.1 rfl (Nat.le_of_ble_eq_true rfl) dL_law_234 (fun H2 locs2 hH2 => ?_)
  refine lv_icmp_eq (tgt := 1272) hx hb dL_law_237 (by decide) (fun _ => ?_) (fun q => absurd rfl q)
  exact kk d H2 locs2 ls V' E' P' T' Ts' Tt' S' M' Z' hH2 hR' hl
set_option maxHeartbeats 4000000 in
set_option maxRecDepth 100000 in
theorem lw_case_2 {d : Drawn} {H : Heap} {locs : List Loc} {ls : Array Slot} {i : Nat} {V : Nat → Int32} {E : Nat → Nat → Int32} {P : Nat → UInt32} {T Ts Tt : Nat → Nat → Int32} {S : Nat → Nat → Nat → Int32} {M : Nat → Int32} {Z : Nat → Nat → Int32} (C : lwC p s m meth c b L xs dC dI cI cF cC cZ cQ cS) (hH : lwH s dC dI d H locs (clsW cI cF cC cQ cS bx o sn tr ad V E P T Ts Tt S ++ modW cI cC cZ bm M Z)) (hR : Rel V E T Ts S M Z) (hl : lv_has ls 8 [(3, .int (nI i)), (2, .ref (bm 0)), (1, .ref (bx 0)), (0, .ref b)]) (hi : i + 6 ≤ L)
    (kk : lwK p l e s m below meth c b dC dI cI cF cC cZ cQ cS bx o sn tr ad bm i) : lwW p l e s m below meth c b d H locs 242 ls [] := by
  have hx := C.1
  have hb := C.2.1
  obtain ⟨r, V', E', P', T', Ts', Tt', S', M', Z', hR', h9, h10⟩ := P_addSubstitute (l := l) (dC := dC) (dI := dI) (cI := cI) (cF := cF) (cC := cC) (cZ := cZ) (cQ := cQ) (cS := cS) (b := bx) (o := o) (sn := sn) (tr := tr) (ad := ad) (bm := bm) (P := P) (Tt := Tt) hR (xs (i + 1)) (xs (i + 2)) (xs (i + 3))
  refine lv_aload_n hx hb dL_law_242 rfl (lv_at hl 2 rfl) ?_
  refine lw_arg C hH.2.2.2 (lv_at hl 3 rfl) (lv_at hl 0 rfl) 1 (by omega) rfl dL_law_243 dL_law_244 dL_law_245 dL_law_246 dL_law_247 ?_
  refine lw_arg C hH.2.2.2 (lv_at hl 3 rfl) (lv_at hl 0 rfl) 2 (by omega) rfl dL_law_248 dL_law_249 dL_law_250 dL_law_251 dL_law_252 ?_
  refine lw_arg C hH.2.2.2 (lv_at hl 3 rfl) (lv_at hl 0 rfl) 3 (by omega) rfl dL_law_253 dL_law_254 dL_law_255 dL_law_256 dL_law_257 ?_
  refine lw_c9 C hH h9 gL_law_X9_addSubstitute rfl (by decide) hdV_X9_addSubstitute rfl clsW_adr rfl hl.1 rfl (Nat.le_of_ble_eq_true rfl) dL_law_258 (fun H1 locs1 hH1 => ?_)
  refine lv_aload_n hx hb dL_law_261 rfl (lv_at hl 1 rfl) ?_
  refine lw_arg C hH1.2.2.2 (lv_at hl 3 rfl) (lv_at hl 0 rfl) 1 (by omega) rfl dL_law_262 dL_law_263 dL_law_264 dL_law_265 dL_law_266 ?_
  refine lw_arg C hH1.2.2.2 (lv_at hl 3 rfl) (lv_at hl 0 rfl) 2 (by omega) rfl dL_law_267 dL_law_268 dL_law_269 dL_law_270 dL_law_271 ?_
  refine lw_arg C hH1.2.2.2 (lv_at hl 3 rfl) (lv_at hl 0 rfl) 3 (by omega) rfl dL_law_272 dL_law_273 dL_law_274 dL_law_275 dL_law_276 ?_
  refine lw_c10 C hH1 h10 gL_law_X10_addSubstitute rfl (by decide) hdV_X10_addSubstitute rfl modW_adr rfl hl.1 rfl (Nat.le_of_ble_eq_true rfl) dL_law_277 (fun H2 locs2 hH2 => ?_)
  refine lv_icmp_eq (tgt := 1272) hx hb dL_law_280 (by decide) (fun _ => ?_) (fun q => absurd rfl q)
  exact kk d H2 locs2 ls V' E' P' T' Ts' Tt' S' M' Z' hH2 hR' hl
set_option maxHeartbeats 4000000 in
set_option maxRecDepth 100000 in
theorem lw_case_3 {d : Drawn} {H : Heap} {locs : List Loc} {ls : Array Slot} {i : Nat} {V : Nat → Int32} {E : Nat → Nat → Int32} {P : Nat → UInt32} {T Ts Tt : Nat → Nat → Int32} {S : Nat → Nat → Nat → Int32} {M : Nat → Int32} {Z : Nat → Nat → Int32} (C : lwC p s m meth c b L xs dC dI cI cF cC cZ cQ cS) (hH : lwH s dC dI d H locs (clsW cI cF cC cQ cS bx o sn tr ad V E P T Ts Tt S ++ modW cI cC cZ bm M Z)) (hR : Rel V E T Ts S M Z) (hl : lv_has ls 8 [(3, .int (nI i)), (2, .ref (bm 0)), (1, .ref (bx 0)), (0, .ref b)]) (hi : i + 6 ≤ L)
    (kk : lwK p l e s m below meth c b dC dI cI cF cC cZ cQ cS bx o sn tr ad bm i) : lwW p l e s m below meth c b d H locs 285 ls [] := by
  have hx := C.1
  have hb := C.2.1
  obtain ⟨r, V', E', P', T', Ts', Tt', S', M', Z', hR', h9, h10⟩ := P_removeSubstitute (l := l) (dC := dC) (dI := dI) (cI := cI) (cF := cF) (cC := cC) (cZ := cZ) (cQ := cQ) (cS := cS) (b := bx) (o := o) (sn := sn) (tr := tr) (ad := ad) (bm := bm) (P := P) (Tt := Tt) hR (xs (i + 1)) (xs (i + 2))
  refine lv_aload_n hx hb dL_law_285 rfl (lv_at hl 2 rfl) ?_
  refine lw_arg C hH.2.2.2 (lv_at hl 3 rfl) (lv_at hl 0 rfl) 1 (by omega) rfl dL_law_286 dL_law_287 dL_law_288 dL_law_289 dL_law_290 ?_
  refine lw_arg C hH.2.2.2 (lv_at hl 3 rfl) (lv_at hl 0 rfl) 2 (by omega) rfl dL_law_291 dL_law_292 dL_law_293 dL_law_294 dL_law_295 ?_
  refine lw_c9 C hH h9 gL_law_X9_removeSubstitute rfl (by decide) hdV_X9_removeSubstitute rfl clsW_adr rfl hl.1 rfl (Nat.le_of_ble_eq_true rfl) dL_law_296 (fun H1 locs1 hH1 => ?_)
  refine lv_aload_n hx hb dL_law_299 rfl (lv_at hl 1 rfl) ?_
  refine lw_arg C hH1.2.2.2 (lv_at hl 3 rfl) (lv_at hl 0 rfl) 1 (by omega) rfl dL_law_300 dL_law_301 dL_law_302 dL_law_303 dL_law_304 ?_
  refine lw_arg C hH1.2.2.2 (lv_at hl 3 rfl) (lv_at hl 0 rfl) 2 (by omega) rfl dL_law_305 dL_law_306 dL_law_307 dL_law_308 dL_law_309 ?_
  refine lw_c10 C hH1 h10 gL_law_X10_removeSubstitute rfl (by decide) hdV_X10_removeSubstitute rfl modW_adr rfl hl.1 rfl (Nat.le_of_ble_eq_true rfl) dL_law_310 (fun H2 locs2 hH2 => ?_)
  refine lv_icmp_eq (tgt := 1272) hx hb dL_law_313 (by decide) (fun _ => ?_) (fun q => absurd rfl q)
  exact kk d H2 locs2 ls V' E' P' T' Ts' Tt' S' M' Z' hH2 hR' hl
set_option maxHeartbeats 4000000 in
set_option maxRecDepth 100000 in
theorem lw_case_4 {d : Drawn} {H : Heap} {locs : List Loc} {ls : Array Slot} {i : Nat} {V : Nat → Int32} {E : Nat → Nat → Int32} {P : Nat → UInt32} {T Ts Tt : Nat → Nat → Int32} {S : Nat → Nat → Nat → Int32} {M : Nat → Int32} {Z : Nat → Nat → Int32} (C : lwC p s m meth c b L xs dC dI cI cF cC cZ cQ cS) (hH : lwH s dC dI d H locs (clsW cI cF cC cQ cS bx o sn tr ad V E P T Ts Tt S ++ modW cI cC cZ bm M Z)) (hR : Rel V E T Ts S M Z) (hl : lv_has ls 8 [(3, .int (nI i)), (2, .ref (bm 0)), (1, .ref (bx 0)), (0, .ref b)]) (hi : i + 6 ≤ L)
    (kk : lwK p l e s m below meth c b dC dI cI cF cC cZ cQ cS bx o sn tr ad bm i) : lwW p l e s m below meth c b d H locs 318 ls [] := by
  have hx := C.1
  have hb := C.2.1
  obtain ⟨r, V', E', P', T', Ts', Tt', S', M', Z', hR', h9, h10⟩ := P_setStage (l := l) (dC := dC) (dI := dI) (cI := cI) (cF := cF) (cC := cC) (cZ := cZ) (cQ := cQ) (cS := cS) (b := bx) (o := o) (sn := sn) (tr := tr) (ad := ad) (bm := bm) (P := P) (Tt := Tt) hR (xs (i + 1)) (xs (i + 2)) (xs (i + 3))
  refine lv_aload_n hx hb dL_law_318 rfl (lv_at hl 2 rfl) ?_
  refine lw_arg C hH.2.2.2 (lv_at hl 3 rfl) (lv_at hl 0 rfl) 1 (by omega) rfl dL_law_319 dL_law_320 dL_law_321 dL_law_322 dL_law_323 ?_
  refine lw_arg C hH.2.2.2 (lv_at hl 3 rfl) (lv_at hl 0 rfl) 2 (by omega) rfl dL_law_324 dL_law_325 dL_law_326 dL_law_327 dL_law_328 ?_
  refine lw_arg C hH.2.2.2 (lv_at hl 3 rfl) (lv_at hl 0 rfl) 3 (by omega) rfl dL_law_329 dL_law_330 dL_law_331 dL_law_332 dL_law_333 ?_
  refine lw_c9 C hH h9 gL_law_X9_setStage rfl (by decide) hdV_X9_setStage rfl clsW_adr rfl hl.1 rfl (Nat.le_of_ble_eq_true rfl) dL_law_334 (fun H1 locs1 hH1 => ?_)
  refine lv_aload_n hx hb dL_law_337 rfl (lv_at hl 1 rfl) ?_
  refine lw_arg C hH1.2.2.2 (lv_at hl 3 rfl) (lv_at hl 0 rfl) 1 (by omega) rfl dL_law_338 dL_law_339 dL_law_340 dL_law_341 dL_law_342 ?_
  refine lw_arg C hH1.2.2.2 (lv_at hl 3 rfl) (lv_at hl 0 rfl) 2 (by omega) rfl dL_law_343 dL_law_344 dL_law_345 dL_law_346 dL_law_347 ?_
  refine lw_arg C hH1.2.2.2 (lv_at hl 3 rfl) (lv_at hl 0 rfl) 3 (by omega) rfl dL_law_348 dL_law_349 dL_law_350 dL_law_351 dL_law_352 ?_
  refine lw_c10 C hH1 h10 gL_law_X10_setStage rfl (by decide) hdV_X10_setStage rfl modW_adr rfl hl.1 rfl (Nat.le_of_ble_eq_true rfl) dL_law_353 (fun H2 locs2 hH2 => ?_)
  refine lv_icmp_eq (tgt := 1272) hx hb dL_law_356 (by decide) (fun _ => ?_) (fun q => absurd rfl q)
  exact kk d H2 locs2 ls V' E' P' T' Ts' Tt' S' M' Z' hH2 hR' hl
set_option maxHeartbeats 4000000 in
set_option maxRecDepth 100000 in
theorem lw_case_5 {d : Drawn} {H : Heap} {locs : List Loc} {ls : Array Slot} {i : Nat} {V : Nat → Int32} {E : Nat → Nat → Int32} {P : Nat → UInt32} {T Ts Tt : Nat → Nat → Int32} {S : Nat → Nat → Nat → Int32} {M : Nat → Int32} {Z : Nat → Nat → Int32} (C : lwC p s m meth c b L xs dC dI cI cF cC cZ cQ cS) (hH : lwH s dC dI d H locs (clsW cI cF cC cQ cS bx o sn tr ad V E P T Ts Tt S ++ modW cI cC cZ bm M Z)) (hR : Rel V E T Ts S M Z) (hl : lv_has ls 8 [(3, .int (nI i)), (2, .ref (bm 0)), (1, .ref (bx 0)), (0, .ref b)]) (hi : i + 6 ≤ L)
    (kk : lwK p l e s m below meth c b dC dI cI cF cC cZ cQ cS bx o sn tr ad bm i) : lwW p l e s m below meth c b d H locs 361 ls [] := by
  have hx := C.1
  have hb := C.2.1
  obtain ⟨r, V', E', P', T', Ts', Tt', S', M', Z', hR', h9, h10⟩ := P_set (l := l) (dC := dC) (dI := dI) (cI := cI) (cF := cF) (cC := cC) (cZ := cZ) (cQ := cQ) (cS := cS) (b := bx) (o := o) (sn := sn) (tr := tr) (ad := ad) (bm := bm) (P := P) (Tt := Tt) hR (xs (i + 1)) (xs (i + 2))
  refine lv_aload_n hx hb dL_law_361 rfl (lv_at hl 2 rfl) ?_
  refine lw_arg C hH.2.2.2 (lv_at hl 3 rfl) (lv_at hl 0 rfl) 1 (by omega) rfl dL_law_362 dL_law_363 dL_law_364 dL_law_365 dL_law_366 ?_
  refine lw_arg C hH.2.2.2 (lv_at hl 3 rfl) (lv_at hl 0 rfl) 2 (by omega) rfl dL_law_367 dL_law_368 dL_law_369 dL_law_370 dL_law_371 ?_
  refine lw_c9 C hH h9 gL_law_X9_set rfl (by decide) hdV_X9_set rfl clsW_adr rfl hl.1 rfl (Nat.le_of_ble_eq_true rfl) dL_law_372 (fun H1 locs1 hH1 => ?_)
  refine lv_aload_n hx hb dL_law_375 rfl (lv_at hl 1 rfl) ?_
  refine lw_arg C hH1.2.2.2 (lv_at hl 3 rfl) (lv_at hl 0 rfl) 1 (by omega) rfl dL_law_376 dL_law_377 dL_law_378 dL_law_379 dL_law_380 ?_
  refine lw_arg C hH1.2.2.2 (lv_at hl 3 rfl) (lv_at hl 0 rfl) 2 (by omega) rfl dL_law_381 dL_law_382 dL_law_383 dL_law_384 dL_law_385 ?_
  refine lw_c10 C hH1 h10 gL_law_X10_set rfl (by decide) hdV_X10_set rfl modW_adr rfl hl.1 rfl (Nat.le_of_ble_eq_true rfl) dL_law_386 (fun H2 locs2 hH2 => ?_)
  refine lv_icmp_eq (tgt := 1272) hx hb dL_law_389 (by decide) (fun _ => ?_) (fun q => absurd rfl q)
  exact kk d H2 locs2 ls V' E' P' T' Ts' Tt' S' M' Z' hH2 hR' hl
set_option maxHeartbeats 4000000 in
set_option maxRecDepth 100000 in
theorem lw_case_6 {d : Drawn} {H : Heap} {locs : List Loc} {ls : Array Slot} {i : Nat} {V : Nat → Int32} {E : Nat → Nat → Int32} {P : Nat → UInt32} {T Ts Tt : Nat → Nat → Int32} {S : Nat → Nat → Nat → Int32} {M : Nat → Int32} {Z : Nat → Nat → Int32} (C : lwC p s m meth c b L xs dC dI cI cF cC cZ cQ cS) (hH : lwH s dC dI d H locs (clsW cI cF cC cQ cS bx o sn tr ad V E P T Ts Tt S ++ modW cI cC cZ bm M Z)) (hR : Rel V E T Ts S M Z) (hl : lv_has ls 8 [(3, .int (nI i)), (2, .ref (bm 0)), (1, .ref (bx 0)), (0, .ref b)]) (hi : i + 6 ≤ L)
    (kk : lwK p l e s m below meth c b dC dI cI cF cC cZ cQ cS bx o sn tr ad bm i) : lwW p l e s m below meth c b d H locs 394 ls [] := by
  have hx := C.1
  have hb := C.2.1
  obtain ⟨r, V', E', P', T', Ts', Tt', S', M', Z', hR', h9, h10⟩ := P_setRebate (l := l) (dC := dC) (dI := dI) (cI := cI) (cF := cF) (cC := cC) (cZ := cZ) (cQ := cQ) (cS := cS) (b := bx) (o := o) (sn := sn) (tr := tr) (ad := ad) (bm := bm) (P := P) (Tt := Tt) hR (xs (i + 1))
  refine lv_aload_n hx hb dL_law_394 rfl (lv_at hl 2 rfl) ?_
  refine lw_arg C hH.2.2.2 (lv_at hl 3 rfl) (lv_at hl 0 rfl) 1 (by omega) rfl dL_law_395 dL_law_396 dL_law_397 dL_law_398 dL_law_399 ?_
  refine lw_c9 C hH h9 gL_law_X9_setRebate rfl (by decide) hdV_X9_setRebate rfl clsW_adr rfl hl.1 rfl (Nat.le_of_ble_eq_true rfl) dL_law_400 (fun H1 locs1 hH1 => ?_)
  refine lv_aload_n hx hb dL_law_403 rfl (lv_at hl 1 rfl) ?_
  refine lw_arg C hH1.2.2.2 (lv_at hl 3 rfl) (lv_at hl 0 rfl) 1 (by omega) rfl dL_law_404 dL_law_405 dL_law_406 dL_law_407 dL_law_408 ?_
  refine lw_c10 C hH1 h10 gL_law_X10_setRebate rfl (by decide) hdV_X10_setRebate rfl modW_adr rfl hl.1 rfl (Nat.le_of_ble_eq_true rfl) dL_law_409 (fun H2 locs2 hH2 => ?_)
  refine lv_icmp_eq (tgt := 1272) hx hb dL_law_412 (by decide) (fun _ => ?_) (fun q => absurd rfl q)
  exact kk d H2 locs2 ls V' E' P' T' Ts' Tt' S' M' Z' hH2 hR' hl
set_option maxHeartbeats 4000000 in
set_option maxRecDepth 100000 in
theorem lw_case_7 {d : Drawn} {H : Heap} {locs : List Loc} {ls : Array Slot} {i : Nat} {V : Nat → Int32} {E : Nat → Nat → Int32} {P : Nat → UInt32} {T Ts Tt : Nat → Nat → Int32} {S : Nat → Nat → Nat → Int32} {M : Nat → Int32} {Z : Nat → Nat → Int32} (C : lwC p s m meth c b L xs dC dI cI cF cC cZ cQ cS) (hH : lwH s dC dI d H locs (clsW cI cF cC cQ cS bx o sn tr ad V E P T Ts Tt S ++ modW cI cC cZ bm M Z)) (hR : Rel V E T Ts S M Z) (hl : lv_has ls 8 [(3, .int (nI i)), (2, .ref (bm 0)), (1, .ref (bx 0)), (0, .ref b)]) (hi : i + 6 ≤ L)
    (kk : lwK p l e s m below meth c b dC dI cI cF cC cZ cQ cS bx o sn tr ad bm i) : lwW p l e s m below meth c b d H locs 417 ls [] := by
  have hx := C.1
  have hb := C.2.1
  obtain ⟨r, V', E', P', T', Ts', Tt', S', M', Z', hR', h9, h10⟩ := P_bring (l := l) (dC := dC) (dI := dI) (cI := cI) (cF := cF) (cC := cC) (cZ := cZ) (cQ := cQ) (cS := cS) (b := bx) (o := o) (sn := sn) (tr := tr) (ad := ad) (bm := bm) (P := P) (Tt := Tt) hR (xs (i + 1)) (xs (i + 2)) (xs (i + 3))
  refine lv_aload_n hx hb dL_law_417 rfl (lv_at hl 2 rfl) ?_
  refine lw_arg C hH.2.2.2 (lv_at hl 3 rfl) (lv_at hl 0 rfl) 1 (by omega) rfl dL_law_418 dL_law_419 dL_law_420 dL_law_421 dL_law_422 ?_
  refine lw_arg C hH.2.2.2 (lv_at hl 3 rfl) (lv_at hl 0 rfl) 2 (by omega) rfl dL_law_423 dL_law_424 dL_law_425 dL_law_426 dL_law_427 ?_
  refine lw_arg C hH.2.2.2 (lv_at hl 3 rfl) (lv_at hl 0 rfl) 3 (by omega) rfl dL_law_428 dL_law_429 dL_law_430 dL_law_431 dL_law_432 ?_
  refine lw_c9 C hH h9 gL_law_X9_bring rfl (by decide) hdV_X9_bring rfl clsW_adr rfl hl.1 rfl (Nat.le_of_ble_eq_true rfl) dL_law_433 (fun H1 locs1 hH1 => ?_)
  refine lv_aload_n hx hb dL_law_436 rfl (lv_at hl 1 rfl) ?_
  refine lw_arg C hH1.2.2.2 (lv_at hl 3 rfl) (lv_at hl 0 rfl) 1 (by omega) rfl dL_law_437 dL_law_438 dL_law_439 dL_law_440 dL_law_441 ?_
  refine lw_arg C hH1.2.2.2 (lv_at hl 3 rfl) (lv_at hl 0 rfl) 2 (by omega) rfl dL_law_442 dL_law_443 dL_law_444 dL_law_445 dL_law_446 ?_
  refine lw_arg C hH1.2.2.2 (lv_at hl 3 rfl) (lv_at hl 0 rfl) 3 (by omega) rfl dL_law_447 dL_law_448 dL_law_449 dL_law_450 dL_law_451 ?_
  refine lw_c10 C hH1 h10 gL_law_X10_bring rfl (by decide) hdV_X10_bring rfl modW_adr rfl hl.1 rfl (Nat.le_of_ble_eq_true rfl) dL_law_452 (fun H2 locs2 hH2 => ?_)
  refine lv_icmp_eq (tgt := 1272) hx hb dL_law_455 (by decide) (fun _ => ?_) (fun q => absurd rfl q)
  exact kk d H2 locs2 ls V' E' P' T' Ts' Tt' S' M' Z' hH2 hR' hl
set_option maxHeartbeats 4000000 in
set_option maxRecDepth 100000 in
theorem lw_case_8 {d : Drawn} {H : Heap} {locs : List Loc} {ls : Array Slot} {i : Nat} {V : Nat → Int32} {E : Nat → Nat → Int32} {P : Nat → UInt32} {T Ts Tt : Nat → Nat → Int32} {S : Nat → Nat → Nat → Int32} {M : Nat → Int32} {Z : Nat → Nat → Int32} (C : lwC p s m meth c b L xs dC dI cI cF cC cZ cQ cS) (hH : lwH s dC dI d H locs (clsW cI cF cC cQ cS bx o sn tr ad V E P T Ts Tt S ++ modW cI cC cZ bm M Z)) (hR : Rel V E T Ts S M Z) (hl : lv_has ls 8 [(3, .int (nI i)), (2, .ref (bm 0)), (1, .ref (bx 0)), (0, .ref b)]) (hi : i + 6 ≤ L)
    (kk : lwK p l e s m below meth c b dC dI cI cF cC cZ cQ cS bx o sn tr ad bm i) : lwW p l e s m below meth c b d H locs 460 ls [] := by
  have hx := C.1
  have hb := C.2.1
  obtain ⟨r, V', E', P', T', Ts', Tt', S', M', Z', hR', h9, h10⟩ := P_readDelivery (l := l) (dC := dC) (dI := dI) (cI := cI) (cF := cF) (cC := cC) (cZ := cZ) (cQ := cQ) (cS := cS) (b := bx) (o := o) (sn := sn) (tr := tr) (ad := ad) (bm := bm) (P := P) (Tt := Tt) hR 
  refine lv_aload_n hx hb dL_law_460 rfl (lv_at hl 2 rfl) ?_
  refine lw_c9 C hH h9 gL_law_X9_readDelivery rfl (by decide) hdV_X9_readDelivery rfl clsW_adr rfl hl.1 rfl (Nat.le_of_ble_eq_true rfl) dL_law_461 (fun H1 locs1 hH1 => ?_)
  refine lv_aload_n hx hb dL_law_464 rfl (lv_at hl 1 rfl) ?_
  refine lw_c10 C hH1 h10 gL_law_X10_readDelivery rfl (by decide) hdV_X10_readDelivery rfl modW_adr rfl hl.1 rfl (Nat.le_of_ble_eq_true rfl) dL_law_465 (fun H2 locs2 hH2 => ?_)
  refine lv_icmp_eq (tgt := 1272) hx hb dL_law_468 (by decide) (fun _ => ?_) (fun q => absurd rfl q)
  exact kk d H2 locs2 ls V' E' P' T' Ts' Tt' S' M' Z' hH2 hR' hl
set_option maxHeartbeats 4000000 in
set_option maxRecDepth 100000 in
theorem lw_case_9 {d : Drawn} {H : Heap} {locs : List Loc} {ls : Array Slot} {i : Nat} {V : Nat → Int32} {E : Nat → Nat → Int32} {P : Nat → UInt32} {T Ts Tt : Nat → Nat → Int32} {S : Nat → Nat → Nat → Int32} {M : Nat → Int32} {Z : Nat → Nat → Int32} (C : lwC p s m meth c b L xs dC dI cI cF cC cZ cQ cS) (hH : lwH s dC dI d H locs (clsW cI cF cC cQ cS bx o sn tr ad V E P T Ts Tt S ++ modW cI cC cZ bm M Z)) (hR : Rel V E T Ts S M Z) (hl : lv_has ls 8 [(3, .int (nI i)), (2, .ref (bm 0)), (1, .ref (bx 0)), (0, .ref b)]) (hi : i + 6 ≤ L)
    (kk : lwK p l e s m below meth c b dC dI cI cF cC cZ cQ cS bx o sn tr ad bm i) : lwW p l e s m below meth c b d H locs 473 ls [] := by
  have hx := C.1
  have hb := C.2.1
  by_cases hz : xs (i + 4) = 0
  · obtain ⟨r, V', E', P', T', Ts', Tt', S', M', Z', hR', h9, h10⟩ := P_order (l := l) (dC := dC) (dI := dI) (cI := cI) (cF := cF) (cC := cC) (cZ := cZ) (cQ := cQ) (cS := cS) (b := bx) (o := o) (sn := sn) (tr := tr) (ad := ad) (bm := bm) (P := P) (Tt := Tt) hR (xs (i + 1)) (xs (i + 2)) (xs (i + 3)) (nI 0)
    refine lv_aload_n hx hb dL_law_473 rfl (lv_at hl 2 rfl) ?_
    refine lw_arg C hH.2.2.2 (lv_at hl 3 rfl) (lv_at hl 0 rfl) 1 (by omega) rfl dL_law_474 dL_law_475 dL_law_476 dL_law_477 dL_law_478 ?_
    refine lw_arg C hH.2.2.2 (lv_at hl 3 rfl) (lv_at hl 0 rfl) 2 (by omega) rfl dL_law_479 dL_law_480 dL_law_481 dL_law_482 dL_law_483 ?_
    refine lw_arg C hH.2.2.2 (lv_at hl 3 rfl) (lv_at hl 0 rfl) 3 (by omega) rfl dL_law_484 dL_law_485 dL_law_486 dL_law_487 dL_law_488 ?_
    refine lw_arg C hH.2.2.2 (lv_at hl 3 rfl) (lv_at hl 0 rfl) 4 (by omega) rfl dL_law_489 dL_law_490 dL_law_491 dL_law_492 dL_law_493 ?_
    refine lv_if_eq (tgt := 501) hx hb dL_law_494 (by decide) (fun _ => ?_) (fun q => absurd hz q)
    refine lv_iconst (v := nI 0) hx hb dL_law_501 rfl ?_
    refine lw_c9 C hH h9 gL_law_X9_order rfl (by decide) hdV_X9_order rfl clsW_adr rfl hl.1 rfl (Nat.le_of_ble_eq_true rfl) dL_law_502 (fun H1 locs1 hH1 => ?_)
    refine lv_aload_n hx hb dL_law_505 rfl (lv_at hl 1 rfl) ?_
    refine lw_arg C hH1.2.2.2 (lv_at hl 3 rfl) (lv_at hl 0 rfl) 1 (by omega) rfl dL_law_506 dL_law_507 dL_law_508 dL_law_509 dL_law_510 ?_
    refine lw_arg C hH1.2.2.2 (lv_at hl 3 rfl) (lv_at hl 0 rfl) 2 (by omega) rfl dL_law_511 dL_law_512 dL_law_513 dL_law_514 dL_law_515 ?_
    refine lw_arg C hH1.2.2.2 (lv_at hl 3 rfl) (lv_at hl 0 rfl) 3 (by omega) rfl dL_law_516 dL_law_517 dL_law_518 dL_law_519 dL_law_520 ?_
    refine lw_arg C hH1.2.2.2 (lv_at hl 3 rfl) (lv_at hl 0 rfl) 4 (by omega) rfl dL_law_521 dL_law_522 dL_law_523 dL_law_524 dL_law_525 ?_
    refine lv_if_eq (tgt := 533) hx hb dL_law_526 (by decide) (fun _ => ?_) (fun q => absurd hz q)
    refine lv_iconst (v := nI 0) hx hb dL_law_533 rfl ?_
    refine lw_c10 C hH1 h10 gL_law_X10_order rfl (by decide) hdV_X10_order rfl modW_adr rfl hl.1 rfl (Nat.le_of_ble_eq_true rfl) dL_law_534 (fun H2 locs2 hH2 => ?_)
    refine lv_icmp_eq (tgt := 1272) hx hb dL_law_537 (by decide) (fun _ => ?_) (fun q => absurd rfl q)
    exact kk d H2 locs2 ls V' E' P' T' Ts' Tt' S' M' Z' hH2 hR' hl
  · obtain ⟨r, V', E', P', T', Ts', Tt', S', M', Z', hR', h9, h10⟩ := P_order (l := l) (dC := dC) (dI := dI) (cI := cI) (cF := cF) (cC := cC) (cZ := cZ) (cQ := cQ) (cS := cS) (b := bx) (o := o) (sn := sn) (tr := tr) (ad := ad) (bm := bm) (P := P) (Tt := Tt) hR (xs (i + 1)) (xs (i + 2)) (xs (i + 3)) (nI 1)
    refine lv_aload_n hx hb dL_law_473 rfl (lv_at hl 2 rfl) ?_
    refine lw_arg C hH.2.2.2 (lv_at hl 3 rfl) (lv_at hl 0 rfl) 1 (by omega) rfl dL_law_474 dL_law_475 dL_law_476 dL_law_477 dL_law_478 ?_
    refine lw_arg C hH.2.2.2 (lv_at hl 3 rfl) (lv_at hl 0 rfl) 2 (by omega) rfl dL_law_479 dL_law_480 dL_law_481 dL_law_482 dL_law_483 ?_
    refine lw_arg C hH.2.2.2 (lv_at hl 3 rfl) (lv_at hl 0 rfl) 3 (by omega) rfl dL_law_484 dL_law_485 dL_law_486 dL_law_487 dL_law_488 ?_
    refine lw_arg C hH.2.2.2 (lv_at hl 3 rfl) (lv_at hl 0 rfl) 4 (by omega) rfl dL_law_489 dL_law_490 dL_law_491 dL_law_492 dL_law_493 ?_
    refine lv_if_eq (tgt := 501) hx hb dL_law_494 (by decide) (fun q => absurd q hz) (fun _ => ?_)
    refine lv_iconst (v := nI 1) hx hb dL_law_497 rfl ?_
    refine lv_goto (tgt := 502) hx hb dL_law_498 (by decide) ?_
    refine lw_c9 C hH h9 gL_law_X9_order rfl (by decide) hdV_X9_order rfl clsW_adr rfl hl.1 rfl (Nat.le_of_ble_eq_true rfl) dL_law_502 (fun H1 locs1 hH1 => ?_)
    refine lv_aload_n hx hb dL_law_505 rfl (lv_at hl 1 rfl) ?_
    refine lw_arg C hH1.2.2.2 (lv_at hl 3 rfl) (lv_at hl 0 rfl) 1 (by omega) rfl dL_law_506 dL_law_507 dL_law_508 dL_law_509 dL_law_510 ?_
    refine lw_arg C hH1.2.2.2 (lv_at hl 3 rfl) (lv_at hl 0 rfl) 2 (by omega) rfl dL_law_511 dL_law_512 dL_law_513 dL_law_514 dL_law_515 ?_
    refine lw_arg C hH1.2.2.2 (lv_at hl 3 rfl) (lv_at hl 0 rfl) 3 (by omega) rfl dL_law_516 dL_law_517 dL_law_518 dL_law_519 dL_law_520 ?_
    refine lw_arg C hH1.2.2.2 (lv_at hl 3 rfl) (lv_at hl 0 rfl) 4 (by omega) rfl dL_law_521 dL_law_522 dL_law_523 dL_law_524 dL_law_525 ?_
    refine lv_if_eq (tgt := 533) hx hb dL_law_526 (by decide) (fun q => absurd q hz) (fun _ => ?_)
    refine lv_iconst (v := nI 1) hx hb dL_law_529 rfl ?_
    refine lv_goto (tgt := 534) hx hb dL_law_530 (by decide) ?_
    refine lw_c10 C hH1 h10 gL_law_X10_order rfl (by decide) hdV_X10_order rfl modW_adr rfl hl.1 rfl (Nat.le_of_ble_eq_true rfl) dL_law_534 (fun H2 locs2 hH2 => ?_)
    refine lv_icmp_eq (tgt := 1272) hx hb dL_law_537 (by decide) (fun _ => ?_) (fun q => absurd rfl q)
    exact kk d H2 locs2 ls V' E' P' T' Ts' Tt' S' M' Z' hH2 hR' hl
set_option maxHeartbeats 4000000 in
set_option maxRecDepth 100000 in
theorem lw_case_10 {d : Drawn} {H : Heap} {locs : List Loc} {ls : Array Slot} {i : Nat} {V : Nat → Int32} {E : Nat → Nat → Int32} {P : Nat → UInt32} {T Ts Tt : Nat → Nat → Int32} {S : Nat → Nat → Nat → Int32} {M : Nat → Int32} {Z : Nat → Nat → Int32} (C : lwC p s m meth c b L xs dC dI cI cF cC cZ cQ cS) (hH : lwH s dC dI d H locs (clsW cI cF cC cQ cS bx o sn tr ad V E P T Ts Tt S ++ modW cI cC cZ bm M Z)) (hR : Rel V E T Ts S M Z) (hl : lv_has ls 8 [(3, .int (nI i)), (2, .ref (bm 0)), (1, .ref (bx 0)), (0, .ref b)]) (hi : i + 6 ≤ L)
    (kk : lwK p l e s m below meth c b dC dI cI cF cC cZ cQ cS bx o sn tr ad bm i) : lwW p l e s m below meth c b d H locs 542 ls [] := by
  have hx := C.1
  have hb := C.2.1
  obtain ⟨r, V', E', P', T', Ts', Tt', S', M', Z', hR', h9, h10⟩ := P_breakUnits (l := l) (dC := dC) (dI := dI) (cI := cI) (cF := cF) (cC := cC) (cZ := cZ) (cQ := cQ) (cS := cS) (b := bx) (o := o) (sn := sn) (tr := tr) (ad := ad) (bm := bm) (P := P) (Tt := Tt) hR (xs (i + 1)) (xs (i + 2))
  refine lv_aload_n hx hb dL_law_542 rfl (lv_at hl 2 rfl) ?_
  refine lw_arg C hH.2.2.2 (lv_at hl 3 rfl) (lv_at hl 0 rfl) 1 (by omega) rfl dL_law_543 dL_law_544 dL_law_545 dL_law_546 dL_law_547 ?_
  refine lw_arg C hH.2.2.2 (lv_at hl 3 rfl) (lv_at hl 0 rfl) 2 (by omega) rfl dL_law_548 dL_law_549 dL_law_550 dL_law_551 dL_law_552 ?_
  refine lw_c9 C hH h9 gL_law_X9_breakUnits rfl (by decide) hdV_X9_breakUnits rfl clsW_adr rfl hl.1 rfl (Nat.le_of_ble_eq_true rfl) dL_law_553 (fun H1 locs1 hH1 => ?_)
  refine lv_aload_n hx hb dL_law_556 rfl (lv_at hl 1 rfl) ?_
  refine lw_arg C hH1.2.2.2 (lv_at hl 3 rfl) (lv_at hl 0 rfl) 1 (by omega) rfl dL_law_557 dL_law_558 dL_law_559 dL_law_560 dL_law_561 ?_
  refine lw_arg C hH1.2.2.2 (lv_at hl 3 rfl) (lv_at hl 0 rfl) 2 (by omega) rfl dL_law_562 dL_law_563 dL_law_564 dL_law_565 dL_law_566 ?_
  refine lw_c10 C hH1 h10 gL_law_X10_breakUnits rfl (by decide) hdV_X10_breakUnits rfl modW_adr rfl hl.1 rfl (Nat.le_of_ble_eq_true rfl) dL_law_567 (fun H2 locs2 hH2 => ?_)
  refine lv_icmp_eq (tgt := 1272) hx hb dL_law_570 (by decide) (fun _ => ?_) (fun q => absurd rfl q)
  exact kk d H2 locs2 ls V' E' P' T' Ts' Tt' S' M' Z' hH2 hR' hl
set_option maxHeartbeats 4000000 in
set_option maxRecDepth 100000 in
theorem lw_case_11 {d : Drawn} {H : Heap} {locs : List Loc} {ls : Array Slot} {i : Nat} {V : Nat → Int32} {E : Nat → Nat → Int32} {P : Nat → UInt32} {T Ts Tt : Nat → Nat → Int32} {S : Nat → Nat → Nat → Int32} {M : Nat → Int32} {Z : Nat → Nat → Int32} (C : lwC p s m meth c b L xs dC dI cI cF cC cZ cQ cS) (hH : lwH s dC dI d H locs (clsW cI cF cC cQ cS bx o sn tr ad V E P T Ts Tt S ++ modW cI cC cZ bm M Z)) (hR : Rel V E T Ts S M Z) (hl : lv_has ls 8 [(3, .int (nI i)), (2, .ref (bm 0)), (1, .ref (bx 0)), (0, .ref b)]) (hi : i + 6 ≤ L)
    (kk : lwK p l e s m below meth c b dC dI cI cF cC cZ cQ cS bx o sn tr ad bm i) : lwW p l e s m below meth c b d H locs 575 ls [] := by
  have hx := C.1
  have hb := C.2.1
  obtain ⟨r, V', E', P', T', Ts', Tt', S', M', Z', hR', h9, h10⟩ := P_recall (l := l) (dC := dC) (dI := dI) (cI := cI) (cF := cF) (cC := cC) (cZ := cZ) (cQ := cQ) (cS := cS) (b := bx) (o := o) (sn := sn) (tr := tr) (ad := ad) (bm := bm) (P := P) (Tt := Tt) hR (xs (i + 1))
  refine lv_aload_n hx hb dL_law_575 rfl (lv_at hl 2 rfl) ?_
  refine lw_arg C hH.2.2.2 (lv_at hl 3 rfl) (lv_at hl 0 rfl) 1 (by omega) rfl dL_law_576 dL_law_577 dL_law_578 dL_law_579 dL_law_580 ?_
  refine lw_c9 C hH h9 gL_law_X9_recall rfl (by decide) hdV_X9_recall rfl clsW_adr rfl hl.1 rfl (Nat.le_of_ble_eq_true rfl) dL_law_581 (fun H1 locs1 hH1 => ?_)
  refine lv_aload_n hx hb dL_law_584 rfl (lv_at hl 1 rfl) ?_
  refine lw_arg C hH1.2.2.2 (lv_at hl 3 rfl) (lv_at hl 0 rfl) 1 (by omega) rfl dL_law_585 dL_law_586 dL_law_587 dL_law_588 dL_law_589 ?_
  refine lw_c10 C hH1 h10 gL_law_X10_recall rfl (by decide) hdV_X10_recall rfl modW_adr rfl hl.1 rfl (Nat.le_of_ble_eq_true rfl) dL_law_590 (fun H2 locs2 hH2 => ?_)
  refine lv_icmp_eq (tgt := 1272) hx hb dL_law_593 (by decide) (fun _ => ?_) (fun q => absurd rfl q)
  exact kk d H2 locs2 ls V' E' P' T' Ts' Tt' S' M' Z' hH2 hR' hl
set_option maxHeartbeats 4000000 in
set_option maxRecDepth 100000 in
theorem lw_case_12 {d : Drawn} {H : Heap} {locs : List Loc} {ls : Array Slot} {i : Nat} {V : Nat → Int32} {E : Nat → Nat → Int32} {P : Nat → UInt32} {T Ts Tt : Nat → Nat → Int32} {S : Nat → Nat → Nat → Int32} {M : Nat → Int32} {Z : Nat → Nat → Int32} (C : lwC p s m meth c b L xs dC dI cI cF cC cZ cQ cS) (hH : lwH s dC dI d H locs (clsW cI cF cC cQ cS bx o sn tr ad V E P T Ts Tt S ++ modW cI cC cZ bm M Z)) (hR : Rel V E T Ts S M Z) (hl : lv_has ls 8 [(3, .int (nI i)), (2, .ref (bm 0)), (1, .ref (bx 0)), (0, .ref b)]) (hi : i + 6 ≤ L)
    (kk : lwK p l e s m below meth c b dC dI cI cF cC cZ cQ cS bx o sn tr ad bm i) : lwW p l e s m below meth c b d H locs 598 ls [] := by
  have hx := C.1
  have hb := C.2.1
  obtain ⟨r, V', E', P', T', Ts', Tt', S', M', Z', hR', h9, h10⟩ := P_pass (l := l) (dC := dC) (dI := dI) (cI := cI) (cF := cF) (cC := cC) (cZ := cZ) (cQ := cQ) (cS := cS) (b := bx) (o := o) (sn := sn) (tr := tr) (ad := ad) (bm := bm) (P := P) (Tt := Tt) hR (xs (i + 1))
  refine lv_aload_n hx hb dL_law_598 rfl (lv_at hl 2 rfl) ?_
  refine lw_arg C hH.2.2.2 (lv_at hl 3 rfl) (lv_at hl 0 rfl) 1 (by omega) rfl dL_law_599 dL_law_600 dL_law_601 dL_law_602 dL_law_603 ?_
  refine lw_c9 C hH h9 gL_law_X9_pass rfl (by decide) hdV_X9_pass rfl clsW_adr rfl hl.1 rfl (Nat.le_of_ble_eq_true rfl) dL_law_604 (fun H1 locs1 hH1 => ?_)
  refine lv_aload_n hx hb dL_law_607 rfl (lv_at hl 1 rfl) ?_
  refine lw_arg C hH1.2.2.2 (lv_at hl 3 rfl) (lv_at hl 0 rfl) 1 (by omega) rfl dL_law_608 dL_law_609 dL_law_610 dL_law_611 dL_law_612 ?_
  refine lw_c10 C hH1 h10 gL_law_X10_pass rfl (by decide) hdV_X10_pass rfl modW_adr rfl hl.1 rfl (Nat.le_of_ble_eq_true rfl) dL_law_613 (fun H2 locs2 hH2 => ?_)
  refine lv_icmp_eq (tgt := 1272) hx hb dL_law_616 (by decide) (fun _ => ?_) (fun q => absurd rfl q)
  exact kk d H2 locs2 ls V' E' P' T' Ts' Tt' S' M' Z' hH2 hR' hl
set_option maxHeartbeats 4000000 in
set_option maxRecDepth 100000 in
theorem lw_case_13 {d : Drawn} {H : Heap} {locs : List Loc} {ls : Array Slot} {i : Nat} {V : Nat → Int32} {E : Nat → Nat → Int32} {P : Nat → UInt32} {T Ts Tt : Nat → Nat → Int32} {S : Nat → Nat → Nat → Int32} {M : Nat → Int32} {Z : Nat → Nat → Int32} (C : lwC p s m meth c b L xs dC dI cI cF cC cZ cQ cS) (hH : lwH s dC dI d H locs (clsW cI cF cC cQ cS bx o sn tr ad V E P T Ts Tt S ++ modW cI cC cZ bm M Z)) (hR : Rel V E T Ts S M Z) (hl : lv_has ls 8 [(3, .int (nI i)), (2, .ref (bm 0)), (1, .ref (bx 0)), (0, .ref b)]) (hi : i + 6 ≤ L)
    (kk : lwK p l e s m below meth c b dC dI cI cF cC cZ cQ cS bx o sn tr ad bm i) : lwW p l e s m below meth c b d H locs 621 ls [] := by
  have hx := C.1
  have hb := C.2.1
  obtain ⟨r, V', E', P', T', Ts', Tt', S', M', Z', hR', h9, h10⟩ := P_type (l := l) (dC := dC) (dI := dI) (cI := cI) (cF := cF) (cC := cC) (cZ := cZ) (cQ := cQ) (cS := cS) (b := bx) (o := o) (sn := sn) (tr := tr) (ad := ad) (bm := bm) (P := P) (Tt := Tt) hR (xch (xs (i + 1))) (xch_ok _)
  refine lv_aload_n hx hb dL_law_621 rfl (lv_at hl 2 rfl) ?_
  refine lw_arg C hH.2.2.2 (lv_at hl 3 rfl) (lv_at hl 0 rfl) 1 (by omega) rfl dL_law_622 dL_law_623 dL_law_624 dL_law_625 dL_law_626 ?_
  refine lv_i2c (v := xch (xs (i + 1))) hx hb dL_law_627 rfl ?_
  refine lw_c9 C hH h9 gL_law_X9_type rfl (by decide) hdV_X9_type rfl clsW_adr rfl hl.1 rfl (Nat.le_of_ble_eq_true rfl) dL_law_628 (fun H1 locs1 hH1 => ?_)
  refine lv_aload_n hx hb dL_law_631 rfl (lv_at hl 1 rfl) ?_
  refine lw_arg C hH1.2.2.2 (lv_at hl 3 rfl) (lv_at hl 0 rfl) 1 (by omega) rfl dL_law_632 dL_law_633 dL_law_634 dL_law_635 dL_law_636 ?_
  refine lv_i2c (v := xch (xs (i + 1))) hx hb dL_law_637 rfl ?_
  refine lw_c10 C hH1 h10 gL_law_X10_type rfl (by decide) hdV_X10_type rfl modW_adr rfl hl.1 rfl (Nat.le_of_ble_eq_true rfl) dL_law_638 (fun H2 locs2 hH2 => ?_)
  refine lv_icmp_eq (tgt := 1272) hx hb dL_law_641 (by decide) (fun _ => ?_) (fun q => absurd rfl q)
  exact kk d H2 locs2 ls V' E' P' T' Ts' Tt' S' M' Z' hH2 hR' hl
set_option maxHeartbeats 4000000 in
set_option maxRecDepth 100000 in
theorem lw_case_14 {d : Drawn} {H : Heap} {locs : List Loc} {ls : Array Slot} {i : Nat} {V : Nat → Int32} {E : Nat → Nat → Int32} {P : Nat → UInt32} {T Ts Tt : Nat → Nat → Int32} {S : Nat → Nat → Nat → Int32} {M : Nat → Int32} {Z : Nat → Nat → Int32} (C : lwC p s m meth c b L xs dC dI cI cF cC cZ cQ cS) (hH : lwH s dC dI d H locs (clsW cI cF cC cQ cS bx o sn tr ad V E P T Ts Tt S ++ modW cI cC cZ bm M Z)) (hR : Rel V E T Ts S M Z) (hl : lv_has ls 8 [(3, .int (nI i)), (2, .ref (bm 0)), (1, .ref (bx 0)), (0, .ref b)]) (hi : i + 6 ≤ L)
    (kk : lwK p l e s m below meth c b dC dI cI cF cC cZ cQ cS bx o sn tr ad bm i) : lwW p l e s m below meth c b d H locs 646 ls [] := by
  have hx := C.1
  have hb := C.2.1
  obtain ⟨r, V', E', P', T', Ts', Tt', S', M', Z', hR', h9, h10⟩ := P_clearText (l := l) (dC := dC) (dI := dI) (cI := cI) (cF := cF) (cC := cC) (cZ := cZ) (cQ := cQ) (cS := cS) (b := bx) (o := o) (sn := sn) (tr := tr) (ad := ad) (bm := bm) (P := P) (Tt := Tt) hR 
  refine lv_aload_n hx hb dL_law_646 rfl (lv_at hl 2 rfl) ?_
  refine lw_c9 C hH h9 gL_law_X9_clearText rfl (by decide) hdV_X9_clearText rfl clsW_adr rfl hl.1 rfl (Nat.le_of_ble_eq_true rfl) dL_law_647 (fun H1 locs1 hH1 => ?_)
  refine lv_aload_n hx hb dL_law_650 rfl (lv_at hl 1 rfl) ?_
  refine lw_c10 C hH1 h10 gL_law_X10_clearText rfl (by decide) hdV_X10_clearText rfl modW_adr rfl hl.1 rfl (Nat.le_of_ble_eq_true rfl) dL_law_651 (fun H2 locs2 hH2 => ?_)
  refine lv_icmp_eq (tgt := 1272) hx hb dL_law_654 (by decide) (fun _ => ?_) (fun q => absurd rfl q)
  exact kk d H2 locs2 ls V' E' P' T' Ts' Tt' S' M' Z' hH2 hR' hl
set_option maxHeartbeats 4000000 in
set_option maxRecDepth 100000 in
theorem lw_case_15 {d : Drawn} {H : Heap} {locs : List Loc} {ls : Array Slot} {i : Nat} {V : Nat → Int32} {E : Nat → Nat → Int32} {P : Nat → UInt32} {T Ts Tt : Nat → Nat → Int32} {S : Nat → Nat → Nat → Int32} {M : Nat → Int32} {Z : Nat → Nat → Int32} (C : lwC p s m meth c b L xs dC dI cI cF cC cZ cQ cS) (hH : lwH s dC dI d H locs (clsW cI cF cC cQ cS bx o sn tr ad V E P T Ts Tt S ++ modW cI cC cZ bm M Z)) (hR : Rel V E T Ts S M Z) (hl : lv_has ls 8 [(3, .int (nI i)), (2, .ref (bm 0)), (1, .ref (bx 0)), (0, .ref b)]) (hi : i + 6 ≤ L)
    (kk : lwK p l e s m below meth c b dC dI cI cF cC cZ cQ cS bx o sn tr ad bm i) : lwW p l e s m below meth c b d H locs 659 ls [] := by
  have hx := C.1
  have hb := C.2.1
  obtain ⟨r, V', E', P', T', Ts', Tt', S', M', Z', hR', h9, h10⟩ := P_undo (l := l) (dC := dC) (dI := dI) (cI := cI) (cF := cF) (cC := cC) (cZ := cZ) (cQ := cQ) (cS := cS) (b := bx) (o := o) (sn := sn) (tr := tr) (ad := ad) (bm := bm) (P := P) (Tt := Tt) hR 
  refine lv_aload_n hx hb dL_law_659 rfl (lv_at hl 2 rfl) ?_
  refine lw_c9 C hH h9 gL_law_X9_undo rfl (by decide) hdV_X9_undo rfl clsW_adr rfl hl.1 rfl (Nat.le_of_ble_eq_true rfl) dL_law_660 (fun H1 locs1 hH1 => ?_)
  refine lv_aload_n hx hb dL_law_663 rfl (lv_at hl 1 rfl) ?_
  refine lw_c10 C hH1 h10 gL_law_X10_undo rfl (by decide) hdV_X10_undo rfl modW_adr rfl hl.1 rfl (Nat.le_of_ble_eq_true rfl) dL_law_664 (fun H2 locs2 hH2 => ?_)
  refine lv_icmp_eq (tgt := 1272) hx hb dL_law_667 (by decide) (fun _ => ?_) (fun q => absurd rfl q)
  exact kk d H2 locs2 ls V' E' P' T' Ts' Tt' S' M' Z' hH2 hR' hl
end LW
