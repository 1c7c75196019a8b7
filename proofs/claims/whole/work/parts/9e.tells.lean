/-! What both tell: what would expire, takes, the day of a stage. -/
theorem qExpire {gz bz oz tk lz nx : Nat} {T : Nat → Nat → Int32} {z : Nat → Int32} (h : RelN 1 gz bz oz tk lz nx T z) {kb dn : Nat} (hk : kb < bz) :
    (xpass bz (T 6) (T 2) (T 30) (T 38 1) (T 38 2) (nI 0, T 40 0, T 8, T 9, T 13, T 11, lz, nx, T 34, T 35, T 36, T 37) dn).2.2.2.2.1 kb - T 13 kb = zB (zps z bz dn).2 kb 6 - zB z kb 6 := by
  have hbz := h.1.1.2.1
  have e1 := ((rPass h dn).2.2.2.1 kb (by omega)).2.1.2.1
  have e2 := (h.2.2.1 kb (by omega)).2.1.2.1
  rw [← e1, ← e2]
  rfl
theorem qTaken {lo gz bz oz tk lz nx : Nat} {T : Nat → Nat → Int32} {z : Nat → Int32} (h : RelN lo gz bz oz tk lz nx T z) {k wn : Nat} (hk : k < 70) (hw : wn ≤ 1) : (if nI wn = 0 then T 28 k else T 29 k) = z (794 + 2 * k + wn) := by
  obtain ⟨t1, t2⟩ := h.2.2.2.2.1 k hk
  rcases (show wn = 0 ∨ wn = 1 by omega) with rfl | rfl
  · exact t1
  · exact t2.trans (congrArg z (by omega))
theorem qReach {lo gz bz oz tk lz nx : Nat} {T : Nat → Nat → Int32} {z : Nat → Int32} (h : RelN lo gz bz oz tk lz nx T z) {gk sn dl : Nat} (hk : gk < 12) : xfst (fun j => xreach (T 30 1) (T 30 2) (T 30 3) (nI (dl - j)) (T 2 gk)) sn 0 dl = xfst (fun j => xreach (z 955) (z 956) (z 957) (nI (dl - j)) (zG z gk 1)) sn 0 dl := by
  rw [(h.2.2.2.2.2.1 1 (by omega)).1, (h.2.2.2.2.2.1 2 (by omega)).1, (h.2.2.2.2.2.1 3 (by omega)).1, (h.2.1 gk hk).2.1]
/-- takes never fill their row -/
theorem RelN.tk70 {lo gz bz oz tk lz nx : Nat} {T : Nat → Nat → Int32} {z : Nat → Int32} (h : RelN lo gz bz oz tk lz nx T z) : tk ≤ 70 := by
  have h1 := h.1.1
  omega
