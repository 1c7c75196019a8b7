def zsl (z : Nat → Int32) (b p k : Nat) : Nat → Int32 := fun j => if b + p ≤ j ∧ j < b + k then z (j + 1) else z j
theorem zsl_0 (z : Nat → Int32) (b p : Nat) : z = zsl z b p p := by
  funext j
  exact (if_neg (by omega)).symm
theorem zsl_1 {z : Nat → Int32} {b p k : Nat} (h : p ≤ k) : upd (zsl z b p k) (b + k) (zsl z b p k (b + k + 1)) = zsl z b p (k + 1) := by
  funext j
  unfold upd zsl
  by_cases e : j = b + k
  · subst e
    rw [if_pos rfl, if_neg (by omega), if_pos (by omega)]
  · rw [if_neg e]
    by_cases h2 : b + p ≤ j ∧ j < b + k
    · rw [if_pos h2, if_pos (by omega)]
    · rw [if_neg h2, if_neg (by omega)]
def zremA (z : Nat → Int32) (kg p lm : Nat) : Nat → Int32 := upd (zsl z (10 + 7 * kg + 3) p (lm - 1)) (10 + 7 * kg + 3 + lm - 1) (nI 0)
def zrem (z : Nat → Int32) (kg p lm : Nat) : Nat → Int32 := upd (zremA z kg p lm) (10 + 7 * kg + 2) (zremA z kg p lm (10 + 7 * kg + 2) - nI 1)
