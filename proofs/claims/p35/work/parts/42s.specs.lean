def zcp (a b : Nat → Int32) (n : Nat) : Nat → Int32 := fun j => if j < n then a j else b j
theorem zcp_0 (a b : Nat → Int32) : b = zcp a b 0 := by
  funext j
  exact (if_neg (Nat.not_lt_zero j)).symm
theorem zcp_1 (a b : Nat → Int32) (k : Nat) : upd (zcp a b k) k (a k) = zcp a b (k + 1) := by
  funext j
  unfold upd zcp
  by_cases h : j = k
  · subst h
    rw [if_pos rfl, if_pos (by omega)]
  · rw [if_neg h]
    by_cases h2 : j < k
    · rw [if_pos h2, if_pos (by omega)]
    · rw [if_neg h2, if_neg (by omega)]
