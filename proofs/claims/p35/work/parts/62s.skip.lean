/-- two parts of a world with others between them -/
theorem xskip_in {D : va_G} {cl : List vw_C} {F X M Y : va_W} {H : Heap} (hP : va_P D cl (F ++ (X ++ (M ++ Y))) H) : va_P D cl (X ++ Y) H := va_P.app (xP_l (xP_r hP)) (xP_r (xP_r (xP_r hP)))
theorem xskip_inD {A : Nat → Prop} {F X M Y : va_W} (hD : va_D A (F ++ (X ++ (M ++ Y)))) : va_D A (X ++ Y) := xD_app (xD_l (xD_r hD)) (xD_r (xD_r (xD_r hD))) fun _ hc _ hd e => xD_ne (xD_r hD) hc (List.mem_append_right _ hd) e
theorem xskip_out {A : Nat → Prop} {D : va_G} {cl : List vw_C} {F X M Y X1 Y1 : va_W} {H H1 : Heap} (hP : va_P D cl (F ++ (X ++ (M ++ Y))) H) (hD : va_D A (F ++ (X ++ (M ++ Y)))) (hx : X1.map Prod.fst = X.map Prod.fst) (hy : Y1.map Prod.fst = Y.map Prod.fst) (hk : ∀ q : Nat, q < H.size → ¬ va_B (X ++ Y) q → H1[q]? = H[q]?) (hP1 : va_P D cl (X1 ++ Y1) H1) : va_P D cl (F ++ (X1 ++ (M ++ Y1))) H1 ∧ va_D A (F ++ (X1 ++ (M ++ Y1))) := by
  refine xsem hP hD (by simp only [List.map_append, hx, hy]) hk hP1 fun c hc => ?_
  have hB : ∀ q, va_B (X ++ Y) q → (∃ e, (q, e) ∈ X) ∨ (∃ e, (q, e) ∈ Y) := fun q hq => by
    obtain ⟨e, he⟩ := xB_mem hq
    rcases List.mem_append.mp he with h | h
    · exact Or.inl ⟨e, h⟩
    · exact Or.inr ⟨e, h⟩
  rcases List.mem_append.mp hc with h | h
  · refine Or.inr ⟨List.mem_append_left _ h, fun hb => ?_⟩
    rcases hB _ hb with ⟨e, he⟩ | ⟨e, he⟩
    · exact xD_ne hD h (List.mem_append_left _ he) rfl
    · exact xD_ne hD h (List.mem_append_right _ (List.mem_append_right _ he)) rfl
  · rcases List.mem_append.mp h with h | h
    · exact Or.inl (List.mem_append_left _ h)
    · rcases List.mem_append.mp h with h | h
      · refine Or.inr ⟨List.mem_append_right _ (List.mem_append_right _ (List.mem_append_left _ h)), fun hb => ?_⟩
        rcases hB _ hb with ⟨e, he⟩ | ⟨e, he⟩
        · exact xD_ne (xD_r hD) he (List.mem_append_left _ h) rfl
        · exact xD_ne (xD_r (xD_r hD)) h he rfl
      · exact Or.inl (List.mem_append_right _ h)
