/-! Steps of both, for a state told by its fields; a recall. -/
theorem rMove11T {lo gz bz oz tk lz nx : Nat} {T T' : Nat → Nat → Int32} {z : Nat → Int32} {kb m us : Nat} {kd : Int32} (h : RelN lo gz bz oz tk lz nx T z) (hkb : kb < bz) (hus : T 9 kb = nI us) (hL : us < 2 ^ 31) (hm : m ≤ us)
    (h9 : T' 9 = upd (T 9) kb (T 9 kb - nI m)) (hF : T' 11 = upd (T 11) kb (T 11 kb + nI m)) (h32 : T' 32 0 = nI (min (lz + 1) 10)) (h33 : T' 33 0 = nI ((nx + 1) % 10)) (h34 : T' 34 = upd (T 34) nx kd) (h35 : T' 35 = upd (T 35) nx (nI kb)) (h36 : T' 36 = upd (T 36) nx (nI m)) (h37 : T' 37 = upd (T 37) nx (T 40 0))
    (hs : ∀ k, k = 0 ∨ k = 5 ∨ k = 16 ∨ k = 17 ∨ k = 39 ∨ k = 40 → T' k 0 = T k 0) (ho : ∀ k, k < 41 → ¬ (k = 0 ∨ k = 5 ∨ k = 16 ∨ k = 17 ∨ k = 32 ∨ k = 33 ∨ k = 39 ∨ k = 40) → ¬ (k = 9 ∨ k = 11 ∨ k = 34 ∨ k = 35 ∨ k = 36 ∨ k = 37) → T' k = T k) :
    RelN lo gz bz oz tk (min (lz + 1) 10) ((nx + 1) % 10) T' (zmove z kb 5 kd (nI m)) := by
  refine (rMove11 (kd := kd) h hkb hus hL hm).congrT (fun k hk => ?_) (fun k hk hn => ?_)
  · rcases hk with rfl | rfl | rfl | rfl | rfl | rfl | rfl | rfl
    · exact hs 0 (by omega)
    · exact hs 5 (by omega)
    · exact hs 16 (by omega)
    · exact hs 17 (by omega)
    · exact h32
    · exact h33
    · exact hs 39 (by omega)
    · exact hs 40 (by omega)
  · by_cases ht : k = 9 ∨ k = 11 ∨ k = 34 ∨ k = 35 ∨ k = 36 ∨ k = 37
    · rcases ht with rfl | rfl | rfl | rfl | rfl | rfl
      · exact h9
      · exact hF
      · exact h34
      · exact h35
      · exact h36
      · exact h37
    · rw [ho k hk hn ht, xT_ne _ _ (by omega), xT_ne _ _ (by omega), xT_ne _ _ (by omega), xT_ne _ _ (by omega), xT_ne _ _ (by omega), xT_ne _ _ (by omega), xT_ne _ _ (by omega), xT_ne _ _ (by omega)]
theorem rMove13T {lo gz bz oz tk lz nx : Nat} {T T' : Nat → Nat → Int32} {z : Nat → Int32} {kb m us : Nat} {kd : Int32} (h : RelN lo gz bz oz tk lz nx T z) (hkb : kb < bz) (hus : T 9 kb = nI us) (hL : us < 2 ^ 31) (hm : m ≤ us)
    (h9 : T' 9 = upd (T 9) kb (T 9 kb - nI m)) (hF : T' 13 = upd (T 13) kb (T 13 kb + nI m)) (h32 : T' 32 0 = nI (min (lz + 1) 10)) (h33 : T' 33 0 = nI ((nx + 1) % 10)) (h34 : T' 34 = upd (T 34) nx kd) (h35 : T' 35 = upd (T 35) nx (nI kb)) (h36 : T' 36 = upd (T 36) nx (nI m)) (h37 : T' 37 = upd (T 37) nx (T 40 0))
    (hs : ∀ k, k = 0 ∨ k = 5 ∨ k = 16 ∨ k = 17 ∨ k = 39 ∨ k = 40 → T' k 0 = T k 0) (ho : ∀ k, k < 41 → ¬ (k = 0 ∨ k = 5 ∨ k = 16 ∨ k = 17 ∨ k = 32 ∨ k = 33 ∨ k = 39 ∨ k = 40) → ¬ (k = 9 ∨ k = 13 ∨ k = 34 ∨ k = 35 ∨ k = 36 ∨ k = 37) → T' k = T k) :
    RelN lo gz bz oz tk (min (lz + 1) 10) ((nx + 1) % 10) T' (zmove z kb 6 kd (nI m)) := by
  refine (rMove13 (kd := kd) h hkb hus hL hm).congrT (fun k hk => ?_) (fun k hk hn => ?_)
  · rcases hk with rfl | rfl | rfl | rfl | rfl | rfl | rfl | rfl
    · exact hs 0 (by omega)
    · exact hs 5 (by omega)
    · exact hs 16 (by omega)
    · exact hs 17 (by omega)
    · exact h32
    · exact h33
    · exact hs 39 (by omega)
    · exact hs 40 (by omega)
  · by_cases ht : k = 9 ∨ k = 13 ∨ k = 34 ∨ k = 35 ∨ k = 36 ∨ k = 37
    · rcases ht with rfl | rfl | rfl | rfl | rfl | rfl
      · exact h9
      · exact hF
      · exact h34
      · exact h35
      · exact h36
      · exact h37
    · rw [ho k hk hn ht, xT_ne _ _ (by omega), xT_ne _ _ (by omega), xT_ne _ _ (by omega), xT_ne _ _ (by omega), xT_ne _ _ (by omega), xT_ne _ _ (by omega), xT_ne _ _ (by omega), xT_ne _ _ (by omega)]
theorem rMove14T {lo gz bz oz tk lz nx : Nat} {T T' : Nat → Nat → Int32} {z : Nat → Int32} {kb m us : Nat} {kd : Int32} (h : RelN lo gz bz oz tk lz nx T z) (hkb : kb < bz) (hus : T 9 kb = nI us) (hL : us < 2 ^ 31) (hm : m ≤ us)
    (h9 : T' 9 = upd (T 9) kb (T 9 kb - nI m)) (hF : T' 14 = upd (T 14) kb (T 14 kb + nI m)) (h32 : T' 32 0 = nI (min (lz + 1) 10)) (h33 : T' 33 0 = nI ((nx + 1) % 10)) (h34 : T' 34 = upd (T 34) nx kd) (h35 : T' 35 = upd (T 35) nx (nI kb)) (h36 : T' 36 = upd (T 36) nx (nI m)) (h37 : T' 37 = upd (T 37) nx (T 40 0))
    (hs : ∀ k, k = 0 ∨ k = 5 ∨ k = 16 ∨ k = 17 ∨ k = 39 ∨ k = 40 → T' k 0 = T k 0) (ho : ∀ k, k < 41 → ¬ (k = 0 ∨ k = 5 ∨ k = 16 ∨ k = 17 ∨ k = 32 ∨ k = 33 ∨ k = 39 ∨ k = 40) → ¬ (k = 9 ∨ k = 14 ∨ k = 34 ∨ k = 35 ∨ k = 36 ∨ k = 37) → T' k = T k) :
    RelN lo gz bz oz tk (min (lz + 1) 10) ((nx + 1) % 10) T' (zmove z kb 7 kd (nI m)) := by
  refine (rMove14 (kd := kd) h hkb hus hL hm).congrT (fun k hk => ?_) (fun k hk hn => ?_)
  · rcases hk with rfl | rfl | rfl | rfl | rfl | rfl | rfl | rfl
    · exact hs 0 (by omega)
    · exact hs 5 (by omega)
    · exact hs 16 (by omega)
    · exact hs 17 (by omega)
    · exact h32
    · exact h33
    · exact hs 39 (by omega)
    · exact hs 40 (by omega)
  · by_cases ht : k = 9 ∨ k = 14 ∨ k = 34 ∨ k = 35 ∨ k = 36 ∨ k = 37
    · rcases ht with rfl | rfl | rfl | rfl | rfl | rfl
      · exact h9
      · exact hF
      · exact h34
      · exact h35
      · exact h36
      · exact h37
    · rw [ho k hk hn ht, xT_ne _ _ (by omega), xT_ne _ _ (by omega), xT_ne _ _ (by omega), xT_ne _ _ (by omega), xT_ne _ _ (by omega), xT_ne _ _ (by omega), xT_ne _ _ (by omega), xT_ne _ _ (by omega)]
theorem rMove15T {lo gz bz oz tk lz nx : Nat} {T T' : Nat → Nat → Int32} {z : Nat → Int32} {kb m us : Nat} {kd : Int32} (h : RelN lo gz bz oz tk lz nx T z) (hkb : kb < bz) (hus : T 9 kb = nI us) (hL : us < 2 ^ 31) (hm : m ≤ us)
    (h9 : T' 9 = upd (T 9) kb (T 9 kb - nI m)) (hF : T' 15 = upd (T 15) kb (T 15 kb + nI m)) (h32 : T' 32 0 = nI (min (lz + 1) 10)) (h33 : T' 33 0 = nI ((nx + 1) % 10)) (h34 : T' 34 = upd (T 34) nx kd) (h35 : T' 35 = upd (T 35) nx (nI kb)) (h36 : T' 36 = upd (T 36) nx (nI m)) (h37 : T' 37 = upd (T 37) nx (T 40 0))
    (hs : ∀ k, k = 0 ∨ k = 5 ∨ k = 16 ∨ k = 17 ∨ k = 39 ∨ k = 40 → T' k 0 = T k 0) (ho : ∀ k, k < 41 → ¬ (k = 0 ∨ k = 5 ∨ k = 16 ∨ k = 17 ∨ k = 32 ∨ k = 33 ∨ k = 39 ∨ k = 40) → ¬ (k = 9 ∨ k = 15 ∨ k = 34 ∨ k = 35 ∨ k = 36 ∨ k = 37) → T' k = T k) :
    RelN lo gz bz oz tk (min (lz + 1) 10) ((nx + 1) % 10) T' (zmove z kb 8 kd (nI m)) := by
  refine (rMove15 (kd := kd) h hkb hus hL hm).congrT (fun k hk => ?_) (fun k hk hn => ?_)
  · rcases hk with rfl | rfl | rfl | rfl | rfl | rfl | rfl | rfl
    · exact hs 0 (by omega)
    · exact hs 5 (by omega)
    · exact hs 16 (by omega)
    · exact hs 17 (by omega)
    · exact h32
    · exact h33
    · exact hs 39 (by omega)
    · exact hs 40 (by omega)
  · by_cases ht : k = 9 ∨ k = 15 ∨ k = 34 ∨ k = 35 ∨ k = 36 ∨ k = 37
    · rcases ht with rfl | rfl | rfl | rfl | rfl | rfl
      · exact h9
      · exact hF
      · exact h34
      · exact h35
      · exact h36
      · exact h37
    · rw [ho k hk hn ht, xT_ne _ _ (by omega), xT_ne _ _ (by omega), xT_ne _ _ (by omega), xT_ne _ _ (by omega), xT_ne _ _ (by omega), xT_ne _ _ (by omega), xT_ne _ _ (by omega), xT_ne _ _ (by omega)]
/-- a state with another shelf, another row F, another log -/
def xwT (T : Nat → Nat → Int32) (F : Nat) (q : XW) : Nat → Nat → Int32 := xT (xT (xT (xT (xT (xT (xT (xT T 9 q.1) F q.2.1) 32 (fun _ => nI q.2.2.1)) 33 (fun _ => nI q.2.2.2.1)) 34 q.2.2.2.2.1) 35 q.2.2.2.2.2.1) 36 q.2.2.2.2.2.2.1) 37 q.2.2.2.2.2.2.2
theorem xwT_ne (T : Nat → Nat → Int32) (F : Nat) (q : XW) {k : Nat} (h : ¬ (k = 9 ∨ k = F ∨ k = 32 ∨ k = 33 ∨ k = 34 ∨ k = 35 ∨ k = 36 ∨ k = 37)) : xwT T F q k = T k := by
  unfold xwT
  rw [xT_ne _ _ (by omega), xT_ne _ _ (by omega), xT_ne _ _ (by omega), xT_ne _ _ (by omega), xT_ne _ _ (by omega), xT_ne _ _ (by omega), xT_ne _ _ (by omega), xT_ne _ _ (by omega)]
theorem nI_le0 {u : Nat} (h : u < 2 ^ 31) : nI u ≤ 0 ↔ u = 0 := by
  constructor
  · intro q
    have := (nI_le_iff (b := 0) h (by omega)).mp q
    omega
  · intro q
    subst q
    decide
theorem rww13 {lo gz bz oz tk : Nat} {T : Nat → Nat → Int32} {z : Nat → Int32} {q : XW} {b u m : Nat} {kd : Int32} (h : RelN lo gz bz oz tk q.2.2.1 q.2.2.2.1 (xwT T 13 q) z) (hb : b < bz) (hu : q.1 b = nI u) (hL : u < 2 ^ 31) (hm : m ≤ u) :
    RelN lo gz bz oz tk (xww kd q b (nI m) (T 40 0)).2.2.1 (xww kd q b (nI m) (T 40 0)).2.2.2.1 (xwT T 13 (xww kd q b (nI m) (T 40 0))) (zmove z b 6 kd (nI m)) :=
  rMove13T (T := xwT T 13 q) (T' := xwT T 13 (xww kd q b (nI m) (T 40 0))) h hb hu hL hm rfl rfl rfl rfl rfl rfl rfl rfl
    (fun k hk => by rw [xwT_ne _ _ _ (by omega), xwT_ne _ _ _ (by omega)]) (fun k hk h1 h2 => by rw [xwT_ne _ _ _ (by omega), xwT_ne _ _ _ (by omega)])
theorem rww15 {lo gz bz oz tk : Nat} {T : Nat → Nat → Int32} {z : Nat → Int32} {q : XW} {b u m : Nat} {kd : Int32} (h : RelN lo gz bz oz tk q.2.2.1 q.2.2.2.1 (xwT T 15 q) z) (hb : b < bz) (hu : q.1 b = nI u) (hL : u < 2 ^ 31) (hm : m ≤ u) :
    RelN lo gz bz oz tk (xww kd q b (nI m) (T 40 0)).2.2.1 (xww kd q b (nI m) (T 40 0)).2.2.2.1 (xwT T 15 (xww kd q b (nI m) (T 40 0))) (zmove z b 8 kd (nI m)) :=
  rMove15T (T := xwT T 15 q) (T' := xwT T 15 (xww kd q b (nI m) (T 40 0))) h hb hu hL hm rfl rfl rfl rfl rfl rfl rfl rfl
    (fun k hk => by rw [xwT_ne _ _ _ (by omega), xwT_ne _ _ _ (by omega)]) (fun k hk h1 h2 => by rw [xwT_ne _ _ _ (by omega), xwT_ne _ _ _ (by omega)])
theorem rww11 {lo gz bz oz tk : Nat} {T : Nat → Nat → Int32} {z : Nat → Int32} {q : XW} {b u m : Nat} {kd : Int32} (h : RelN lo gz bz oz tk q.2.2.1 q.2.2.2.1 (xwT T 11 q) z) (hb : b < bz) (hu : q.1 b = nI u) (hL : u < 2 ^ 31) (hm : m ≤ u) :
    RelN lo gz bz oz tk (xww kd q b (nI m) (T 40 0)).2.2.1 (xww kd q b (nI m) (T 40 0)).2.2.2.1 (xwT T 11 (xww kd q b (nI m) (T 40 0))) (zmove z b 5 kd (nI m)) :=
  rMove11T (T := xwT T 11 q) (T' := xwT T 11 (xww kd q b (nI m) (T 40 0))) h hb hu hL hm rfl rfl rfl rfl rfl rfl rfl rfl
    (fun k hk => by rw [xwT_ne _ _ _ (by omega), xwT_ne _ _ _ (by omega)]) (fun k hk h1 h2 => by rw [xwT_ne _ _ _ (by omega), xwT_ne _ _ _ (by omega)])
theorem rRecall {lo gz bz oz tk lz nx kg : Nat} {T : Nat → Nat → Int32} {z : Nat → Int32} (h : RelN lo gz bz oz tk lz nx T z) : ∀ k, k ≤ bz →
    RelN lo gz bz oz tk (xwg (T 6) (nI kg) (T 40 0) (T 9, T 15, lz, nx, T 34, T 35, T 36, T 37) k).2.2.1 (xwg (T 6) (nI kg) (T 40 0) (T 9, T 15, lz, nx, T 34, T 35, T 36, T 37) k).2.2.2.1 (xwT T 15 (xwg (T 6) (nI kg) (T 40 0) (T 9, T 15, lz, nx, T 34, T 35, T 36, T 37) k)) (zrc z (nI kg) k)
  | 0, _ => h.congrT (fun k hk => by
      rcases hk with rfl | rfl | rfl | rfl | rfl | rfl | rfl | rfl
      · rfl
      · rfl
      · rfl
      · rfl
      · exact h.1.2.1.2.2.2.2.1.symm
      · exact h.1.2.1.2.2.2.2.2.symm
      · rfl
      · rfl) (fun k hk hn => by
      by_cases ht : k = 9 ∨ k = 15 ∨ k = 34 ∨ k = 35 ∨ k = 36 ∨ k = 37
      · rcases ht with rfl | rfl | rfl | rfl | rfl | rfl <;> rfl
      · exact xwT_ne _ _ _ (by omega))
  | k + 1, hk => by
    have ih := rRecall (kg := kg) h k (by omega)
    generalize hq : xwg (T 6) (nI kg) (T 40 0) (T 9, T 15, lz, nx, T 34, T 35, T 36, T 37) k = q at ih
    generalize hz : zrc z (nI kg) k = z1 at ih
    obtain ⟨⟨b1, -, -, b4, -⟩, -, b11, -⟩ := ih.2.2.1 k (by have := ih.1.1.2.1; omega)
    obtain ⟨-, -, u, hu1, hu2⟩ := b11 (by omega)
    have e1 : T 6 k = zB z1 k 0 := b1
    have e3 : q.1 k = zB z1 k 3 := b4
    have eq1 : xwg (T 6) (nI kg) (T 40 0) (T 9, T 15, lz, nx, T 34, T 35, T 36, T 37) (k + 1) = if T 6 k = nI kg ∧ ¬ q.1 k ≤ 0 then xww (nI 3) q k (q.1 k) (T 40 0) else q := by rw [← hq]; rfl
    have eq2 : zrc z (nI kg) (k + 1) = if zB z1 k 0 = nI kg ∧ ¬ zB z1 k 3 ≤ 0 then zwaste z1 k (zB z1 k 3) 2 else z1 := by rw [← hz]; rfl
    rw [eq1, eq2, ← e1, ← e3]
    have hu : q.1 k = nI u := hu2
    by_cases hc : T 6 k = nI kg ∧ ¬ q.1 k ≤ 0
    · rw [if_pos hc, if_pos hc, hu]
      exact rww15 (kd := nI 3) ih (by omega) hu (by omega) (Nat.le_refl u)
    · rw [if_neg hc, if_neg hc]
      exact ih
