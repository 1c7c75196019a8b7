/-! Steps of both: what is given; a day; many days. -/
theorem rDon {gz bz oz tk lz nx : Nat} {T : Nat → Nat → Int32} {z : Nat → Int32} {mx : Int32} (h : RelN 1 gz bz oz tk lz nx T z) : ∀ k, k ≤ bz →
    (xdon (xstg (T 30) (T 8) (T 2) (T 6)) (T 38 1) (T 40 0) (mx, T 9, T 11, lz, nx, T 34, T 35, T 36, T 37) k).1 = (zdon (mx, z) k).1 ∧
    RelN 1 gz bz oz tk (xdon (xstg (T 30) (T 8) (T 2) (T 6)) (T 38 1) (T 40 0) (mx, T 9, T 11, lz, nx, T 34, T 35, T 36, T 37) k).2.2.2.1 (xdon (xstg (T 30) (T 8) (T 2) (T 6)) (T 38 1) (T 40 0) (mx, T 9, T 11, lz, nx, T 34, T 35, T 36, T 37) k).2.2.2.2.1 (xwT T 11 (xdon (xstg (T 30) (T 8) (T 2) (T 6)) (T 38 1) (T 40 0) (mx, T 9, T 11, lz, nx, T 34, T 35, T 36, T 37) k).2) (zdon (mx, z) k).2
  | 0, _ => ⟨rfl, rWx h (by omega)⟩
  | k + 1, hk => by
    obtain ⟨i1, ih⟩ := rDon (mx := mx) h k (by omega)
    generalize hq : xdon (xstg (T 30) (T 8) (T 2) (T 6)) (T 38 1) (T 40 0) (mx, T 9, T 11, lz, nx, T 34, T 35, T 36, T 37) k = q at i1 ih
    generalize hz : zdon (mx, z) k = y at i1 ih
    obtain ⟨⟨-, -, -, b4, -⟩, -, b11, -⟩ := ih.2.2.1 k (by have := ih.1.1.2.1; omega)
    obtain ⟨-, -, u, hu1, hu2⟩ := b11 (by omega)
    have e3 : q.2.1 k = zB y.2 k 3 := b4
    have hu : q.2.1 k = nI u := hu2
    have es : xstg (T 30) (T 8) (T 2) (T 6) k = zstg y.2 k := by
      have e := rStgEq (bz := bz) (b := k) ih (by omega)
      exact e
    have e5 : T 38 1 = y.2 5 := ih.2.2.2.2.2.2.2 1 (by omega)
    have eq1 : xdon (xstg (T 30) (T 8) (T 2) (T 6)) (T 38 1) (T 40 0) (mx, T 9, T 11, lz, nx, T 34, T 35, T 36, T 37) (k + 1) = if ¬ q.1 ≤ 0 ∧ ¬ q.2.1 k ≤ 0 ∧ ¬ nI (xstg (T 30) (T 8) (T 2) (T 6) k) < T 38 1 then (q.1 - (if q.1 < q.2.1 k then q.1 else q.2.1 k), xww (nI 2) q.2 k (if q.1 < q.2.1 k then q.1 else q.2.1 k) (T 40 0)) else q := by rw [← hq]; rfl
    have eq2 : zdon (mx, z) (k + 1) = if ¬ zdu y k ≤ 0 ∧ ¬ nI (zstg y.2 k) < y.2 5 then (y.1 - zdu y k, zgive y.2 k (zdu y k)) else y := by rw [← hz]; rfl
    have ed : zdu y k = if q.2.1 k < q.1 then q.2.1 k else q.1 := by
      unfold zdu
      rw [← e3, ← i1]
    rw [eq1, eq2, es, e5, ed]
    by_cases c1 : q.1 ≤ 0
    · have e : ¬ q.2.1 k < q.1 := fun hl => by
        rw [hu] at hl
        have h1 := Int32.lt_iff_toInt_lt.mp hl
        have h2 := Int32.le_iff_toInt_le.mp c1
        rw [nI_toInt (by omega)] at h1
        rw [Int32.toInt_zero] at h2
        omega
      rw [if_neg (fun z => z.1 c1), if_neg e, if_neg (fun z => z.1 c1)]
      exact ⟨i1, ih⟩
    · obtain ⟨p, hp1, hp2⟩ := nI_of (x := q.1) (fun h0 => c1 (Int32.le_of_lt h0))
      have hp0 : p ≠ 0 := fun h0 => c1 (by rw [hp2, h0]; decide)
      have em : (if q.2.1 k < q.1 then q.2.1 k else q.1) = nI (min u p) := by
        rw [hu, hp2]
        by_cases hl : u < p
        · rw [if_pos ((nI_lt_iff (by omega) hp1).mpr hl), Nat.min_eq_left (by omega)]
        · rw [if_neg (fun z => hl ((nI_lt_iff (by omega) hp1).mp z)), Nat.min_eq_right (by omega)]
      have em2 : (if q.1 < q.2.1 k then q.1 else q.2.1 k) = nI (min u p) := by
        rw [hu, hp2]
        by_cases hl : p < u
        · rw [if_pos ((nI_lt_iff hp1 (by omega)).mpr hl), Nat.min_eq_right (by omega)]
        · rw [if_neg (fun z => hl ((nI_lt_iff hp1 (by omega)).mp z)), Nat.min_eq_left (by omega)]
      rw [em, em2]
      have hmin : (¬ nI (min u p) ≤ 0) ↔ ¬ q.2.1 k ≤ 0 := by
        rw [hu, nI_le0 (by omega), nI_le0 (by omega)]
        omega
      by_cases hc : ¬ q.2.1 k ≤ 0 ∧ ¬ nI (zstg y.2 k) < y.2 5
      · rw [if_pos ⟨c1, hc⟩, if_pos ⟨hmin.mpr hc.1, hc.2⟩]
        exact ⟨by show q.1 - nI (min u p) = y.1 - nI (min u p); rw [i1], rww11 (kd := nI 2) ih (by omega) hu (by omega) (Nat.min_le_left u p)⟩
      · rw [if_neg (fun z => hc z.2), if_neg (fun z => hc ⟨hmin.mp z.1, z.2⟩)]
        exact ⟨i1, ih⟩
/-- a state some days on -/
def xpT (T : Nat → Nat → Int32) (q : XP) : Nat → Nat → Int32 := xT (xT (xT (xT (xT (xT (xT (xT (xT (xT (xT T 8 q.2.2.1) 9 q.2.2.2.1) 13 q.2.2.2.2.1) 11 q.2.2.2.2.2.1) 32 (fun _ => nI q.2.2.2.2.2.2.1)) 33 (fun _ => nI q.2.2.2.2.2.2.2.1)) 34 q.2.2.2.2.2.2.2.2.1) 35 q.2.2.2.2.2.2.2.2.2.1) 36 q.2.2.2.2.2.2.2.2.2.2.1) 37 q.2.2.2.2.2.2.2.2.2.2.2) 40 (fun _ => q.2.1)
theorem xpT_ne (T : Nat → Nat → Int32) (q : XP) {k : Nat} (h : ¬ (k = 8 ∨ k = 9 ∨ k = 13 ∨ k = 11 ∨ k = 32 ∨ k = 33 ∨ k = 34 ∨ k = 35 ∨ k = 36 ∨ k = 37 ∨ k = 40)) : xpT T q k = T k := by
  unfold xpT
  rw [xT_ne _ _ (by omega), xT_ne _ _ (by omega), xT_ne _ _ (by omega), xT_ne _ _ (by omega), xT_ne _ _ (by omega), xT_ne _ _ (by omega), xT_ne _ _ (by omega), xT_ne _ _ (by omega), xT_ne _ _ (by omega), xT_ne _ _ (by omega), xT_ne _ _ (by omega)]
/-- one day -/
theorem rDay {gz bz oz tk : Nat} {T : Nat → Nat → Int32} {z : Nat → Int32} {q : XP} (h : RelN 1 gz bz oz tk q.2.2.2.2.2.2.1 q.2.2.2.2.2.2.2.1 (xpT T q) z) :
    (xday bz (T 6) (T 2) (T 30) (T 38 1) (T 38 2) q).1 = q.1 + (zday z bz).1 ∧
    RelN 1 gz bz oz tk (xday bz (T 6) (T 2) (T 30) (T 38 1) (T 38 2) q).2.2.2.2.2.2.1 (xday bz (T 6) (T 2) (T 30) (T 38 1) (T 38 2) q).2.2.2.2.2.2.2.1 (xpT T (xday bz (T 6) (T 2) (T 30) (T 38 1) (T 38 2) q)) (zday z bz).2 := by
  have h1 := rAge h
  generalize hU : xT (xT (xpT T q) 8 (xage (xpT T q 9) (xpT T q 8) bz)) 40 (fun _ => xpT T q 40 0 + nI 1) = U at h1
  have u8 : U 8 = xage q.2.2.2.1 q.2.2.1 bz := by rw [← hU]; rfl
  have u40 : U 40 0 = q.2.1 + nI 1 := by rw [← hU]; rfl
  have u9 : U 9 = q.2.2.2.1 := by rw [← hU]; rfl
  have u13 : U 13 = q.2.2.2.2.1 := by rw [← hU]; rfl
  have u11 : U 11 = q.2.2.2.2.2.1 := by rw [← hU]; rfl
  have u34 : U 34 = q.2.2.2.2.2.2.2.2.1 := by rw [← hU]; rfl
  have u35 : U 35 = q.2.2.2.2.2.2.2.2.2.1 := by rw [← hU]; rfl
  have u36 : U 36 = q.2.2.2.2.2.2.2.2.2.2.1 := by rw [← hU]; rfl
  have u37 : U 37 = q.2.2.2.2.2.2.2.2.2.2.2 := by rw [← hU]; rfl
  have u6 : U 6 = T 6 := by rw [← hU]; rfl
  have u2 : U 2 = T 2 := by rw [← hU]; rfl
  have u30 : U 30 = T 30 := by rw [← hU]; rfl
  have u38 : U 38 = T 38 := by rw [← hU]; rfl
  obtain ⟨x1, x2, x3⟩ := rExp h1 bz (Nat.le_refl _)
  have eE : xexp (U 8) (U 40 0) (U 9, U 13, q.2.2.2.2.2.2.1, q.2.2.2.2.2.2.2.1, U 34, U 35, U 36, U 37) bz = xdayE bz q := by
    rw [u8, u40, u9, u13, u34, u35, u36, u37]
    rfl
  rw [eE] at x1 x2 x3
  have hE := x2.up (fun b hb hn => x3 b hb hn)
  have hz6 : T 38 2 = (zexp (zage (upd z 0 (z 0 + nI 1)) bz) 0 bz).2 6 := by
    have := hE.2.2.2.2.2.2.2 2 (by omega)
    have e : xwT U 13 (xdayE bz q).2 38 2 = T 38 2 := by
      show U 38 2 = _
      rw [u38]
    rw [e] at this
    exact this
  obtain ⟨d1, d2⟩ := rDon (mx := T 38 2) hE bz (Nat.le_refl _)
  have eD : xdon (xstg (xwT U 13 (xdayE bz q).2 30) (xwT U 13 (xdayE bz q).2 8) (xwT U 13 (xdayE bz q).2 2) (xwT U 13 (xdayE bz q).2 6)) (xwT U 13 (xdayE bz q).2 38 1) (xwT U 13 (xdayE bz q).2 40 0) (T 38 2, xwT U 13 (xdayE bz q).2 9, xwT U 13 (xdayE bz q).2 11, (xdayE bz q).2.2.2.1, (xdayE bz q).2.2.2.2.1, xwT U 13 (xdayE bz q).2 34, xwT U 13 (xdayE bz q).2 35, xwT U 13 (xdayE bz q).2 36, xwT U 13 (xdayE bz q).2 37) bz = xdayD bz (T 6) (T 2) (T 30) (T 38 1) (T 38 2) q := by
    show xdon (xstg (U 30) (U 8) (U 2) (U 6)) (U 38 1) (U 40 0) (T 38 2, (xdayE bz q).2.1, U 11, (xdayE bz q).2.2.2) bz = _
    rw [u30, u8, u2, u6, u38, u40, u11]
    rfl
  rw [eD] at d1 d2
  have ez : zday z bz = ((zexp (zage (upd z 0 (z 0 + nI 1)) bz) 0 bz).1, (zdon ((zexp (zage (upd z 0 (z 0 + nI 1)) bz) 0 bz).2 6, (zexp (zage (upd z 0 (z 0 + nI 1)) bz) 0 bz).2) bz).2) := by
    unfold zday
    rw [zexp_any]
  rw [ez, ← hz6]
  refine ⟨by show q.1 + (xdayE bz q).1 = _; rw [x1], d2.congrT (fun k hk => ?_) (fun k hk hn => ?_)⟩
  · rcases hk with rfl | rfl | rfl | rfl | rfl | rfl | rfl | rfl
    · show T 0 0 = U 0 0; rw [← hU]; rfl
    · show T 5 0 = U 5 0; rw [← hU]; rfl
    · show T 16 0 = U 16 0; rw [← hU]; rfl
    · show T 17 0 = U 17 0; rw [← hU]; rfl
    · rfl
    · rfl
    · show T 39 0 = U 39 0; rw [← hU]; rfl
    · show q.2.1 + nI 1 = U 40 0; rw [u40]
  · by_cases ht : k = 8 ∨ k = 9 ∨ k = 13 ∨ k = 11 ∨ k = 34 ∨ k = 35 ∨ k = 36 ∨ k = 37
    · rcases ht with rfl | rfl | rfl | rfl | rfl | rfl | rfl | rfl
      · exact u8.symm
      · rfl
      · rfl
      · rfl
      · rfl
      · rfl
      · rfl
      · rfl
    · rw [xpT_ne _ _ (by omega), xwT_ne _ _ _ (by omega), xwT_ne _ _ _ (by omega), ← hU, xT_ne _ _ (by omega), xT_ne _ _ (by omega), xpT_ne _ _ (by omega)]
theorem rPass {gz bz oz tk lz nx : Nat} {T : Nat → Nat → Int32} {z : Nat → Int32} (h : RelN 1 gz bz oz tk lz nx T z) : ∀ k,
    (xpass bz (T 6) (T 2) (T 30) (T 38 1) (T 38 2) (nI 0, T 40 0, T 8, T 9, T 13, T 11, lz, nx, T 34, T 35, T 36, T 37) k).1 = (zps z bz k).1 ∧
    RelN 1 gz bz oz tk (xpass bz (T 6) (T 2) (T 30) (T 38 1) (T 38 2) (nI 0, T 40 0, T 8, T 9, T 13, T 11, lz, nx, T 34, T 35, T 36, T 37) k).2.2.2.2.2.2.1 (xpass bz (T 6) (T 2) (T 30) (T 38 1) (T 38 2) (nI 0, T 40 0, T 8, T 9, T 13, T 11, lz, nx, T 34, T 35, T 36, T 37) k).2.2.2.2.2.2.2.1 (xpT T (xpass bz (T 6) (T 2) (T 30) (T 38 1) (T 38 2) (nI 0, T 40 0, T 8, T 9, T 13, T 11, lz, nx, T 34, T 35, T 36, T 37) k)) (zps z bz k).2
  | 0 => ⟨rfl, h.congrT (fun k hk => by
      rcases hk with rfl | rfl | rfl | rfl | rfl | rfl | rfl | rfl
      · rfl
      · rfl
      · rfl
      · rfl
      · exact h.1.2.1.2.2.2.2.1.symm
      · exact h.1.2.1.2.2.2.2.2.symm
      · rfl
      · rfl) (fun k hk hn => by
      by_cases ht : k = 8 ∨ k = 9 ∨ k = 13 ∨ k = 11 ∨ k = 34 ∨ k = 35 ∨ k = 36 ∨ k = 37
      · rcases ht with rfl | rfl | rfl | rfl | rfl | rfl | rfl | rfl <;> rfl
      · exact xpT_ne _ _ (by omega))⟩
  | k + 1 => by
    obtain ⟨i1, ih⟩ := rPass h k
    obtain ⟨j1, jh⟩ := rDay ih
    refine ⟨?_, jh⟩
    show (xday bz (T 6) (T 2) (T 30) (T 38 1) (T 38 2) (xpass bz (T 6) (T 2) (T 30) (T 38 1) (T 38 2) (nI 0, T 40 0, T 8, T 9, T 13, T 11, lz, nx, T 34, T 35, T 36, T 37) k)).1 = (zps z bz k).1 + (zday (zps z bz k).2 bz).1
    rw [j1, i1]
