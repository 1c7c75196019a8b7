theorem xh_adr {cI cF cQ : ClassId} {ad : Nat → Nat → Nat} {S S' : Nat → Nat → Nat → Int32} {L L' : va_W} (h : L.map Prod.fst = L'.map Prod.fst) : (L ++ hiW cI cF cQ ad S).map Prod.fst = (L' ++ hiW cI cF cQ ad S').map Prod.fst := by
  rw [List.map_append, List.map_append, h, hiW_adr]
/-- the middle of a world changes -/
theorem xmiddle {A : Nat → Prop} {D : va_G} {cl : List vw_C} {F G wc w1 : va_W} {H H1 : Heap} (hP : va_P D cl (F ++ (wc ++ G)) H) (hD : va_D A (F ++ (wc ++ G))) (hadr : wc.map Prod.fst = w1.map Prod.fst) (hk : ∀ q : Nat, q < H.size → ¬ va_B wc q → H1[q]? = H[q]?) (hP1 : va_P D cl w1 H1) : va_P D cl (F ++ (w1 ++ G)) H1 ∧ va_D A (F ++ (w1 ++ G)) := by
  obtain ⟨a, b⟩ := xfront (xP_r hP) (xD_r hD) hadr hk hP1
  exact xback hP hD (by rw [List.map_append, List.map_append, hadr]) (fun q h1 h2 => hk q h1 fun z => h2 (by
    obtain ⟨e, he⟩ := xB_mem z
    exact xB_in (c := (q, e)) (List.mem_append_left _ he))) a
/-- two parts of a world in the other order: a call that changes them -/
theorem xswap_in {D : va_G} {cl : List vw_C} {F X Y : va_W} {H : Heap} (hP : va_P D cl (F ++ (X ++ Y)) H) : va_P D cl (Y ++ X) H := va_P.app (xP_r (xP_r hP)) (xP_l (xP_r hP))
theorem xswap_inD {A : Nat → Prop} {F X Y : va_W} (hD : va_D A (F ++ (X ++ Y))) : va_D A (Y ++ X) := xD_app (xD_r (xD_r hD)) (xD_l (xD_r hD)) fun _ hc _ hd e => xD_ne (xD_r hD) hd hc e.symm
theorem xswap_out {A : Nat → Prop} {D : va_G} {cl : List vw_C} {F X Y X1 Y1 : va_W} {H H1 : Heap} (hP : va_P D cl (F ++ (X ++ Y)) H) (hD : va_D A (F ++ (X ++ Y))) (hx : X1.map Prod.fst = X.map Prod.fst) (hy : Y1.map Prod.fst = Y.map Prod.fst) (hk : ∀ q : Nat, q < H.size → ¬ va_B (Y ++ X) q → H1[q]? = H[q]?) (hP1 : va_P D cl (Y1 ++ X1) H1) : va_P D cl (F ++ (X1 ++ Y1)) H1 ∧ va_D A (F ++ (X1 ++ Y1)) :=
  xback hP hD (by rw [List.map_append, List.map_append, hx, hy]) (fun q h1 h2 => hk q h1 fun z => h2 (by
    obtain ⟨e, he⟩ := xB_mem z
    rcases List.mem_append.mp he with h | h
    · exact xB_in (c := (q, e)) (List.mem_append_right _ h)
    · exact xB_in (c := (q, e)) (List.mem_append_left _ h))) (va_P.app (xP_r hP1) (xP_l hP1))
