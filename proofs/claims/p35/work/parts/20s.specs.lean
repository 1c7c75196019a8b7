/-! The reference's row of numbers. -/
def zG (z : Nat → Int32) (g w : Nat) : Int32 := z (10 + 7 * g + w)
def zB (z : Nat → Int32) (b w : Nat) : Int32 := z (94 + 10 * b + w)
def zO (z : Nat → Int32) (o w : Nat) : Int32 := z (494 + 10 * o + w)
def zadd (z : Nat → Int32) (b w : Nat) (u : Int32) : Nat → Int32 := upd z (94 + 10 * b + w) (z (94 + 10 * b + w) + u)
def zshr (z : Nat → Int32) (k : Nat) : Nat → Int32 := fun j => if 962 + k < j ∧ j ≤ 962 + 39 then z (j - 4) else z j
theorem zshr_0 (z : Nat → Int32) : z = zshr z 39 := by
  funext j
  unfold zshr
  rw [if_neg (by omega)]
theorem zshr_1 {z : Nat → Int32} {k : Nat} (h : 4 ≤ k) (hk : k ≤ 39) : upd (zshr z k) (962 + k) (zshr z k (962 + k - 4)) = zshr z (k - 1) := by
  funext j
  unfold upd zshr
  by_cases e : j = 962 + k
  · subst e
    rw [if_pos rfl, if_neg (by omega), if_pos (by omega)]
  · rw [if_neg e]
    by_cases h2 : 962 + k < j ∧ j ≤ 962 + 39
    · rw [if_pos h2, if_pos (by omega)]
    · rw [if_neg h2, if_neg (by omega)]
/-- a new event ahead of the others -/
def znt (z : Nat → Int32) (k b u : Int32) : Nat → Int32 := upd (upd (upd (upd (zshr z 3) 962 k) 963 b) 964 u) 965 (upd (upd (upd (zshr z 3) 962 k) 963 b) 964 u 0)
def znote (z : Nat → Int32) (k b u : Int32) : Nat → Int32 := upd (znt z k b u) 9 (znt z k b u 9 + (if znt z k b u 9 < nI 10 then nI 1 else nI 0))
def zmv (past : Nat → Int32) (n : Nat) : Nat → Int32 := fun j => if j < n then past (j + 1002) else past j
theorem zmv_0 (past : Nat → Int32) : past = zmv past 0 := by
  funext j
  exact (if_neg (Nat.not_lt_zero j)).symm
theorem zmv_1 (past : Nat → Int32) (k : Nat) : upd (zmv past k) k (zmv past k (k + 1002)) = zmv past (k + 1) := by
  funext j
  unfold upd zmv
  by_cases e : j = k
  · subst e; rw [if_pos rfl, if_neg (by omega), if_pos (by omega)]
  · rw [if_neg e]
    by_cases h : j < k
    · rw [if_pos h, if_pos (by omega)]
    · rw [if_neg h, if_neg (by omega)]
def zput (z past : Nat → Int32) (p n : Nat) : Nat → Int32 := fun j => if p * 1002 ≤ j ∧ j < p * 1002 + n then z (j - p * 1002) else past j
theorem zput_0 (z past : Nat → Int32) (p : Nat) : past = zput z past p 0 := by
  funext j
  exact (if_neg (by omega)).symm
theorem zput_1 (z past : Nat → Int32) (p k : Nat) : upd (zput z past p k) (p * 1002 + k) (z k) = zput z past p (k + 1) := by
  funext j
  unfold upd zput
  by_cases e : j = p * 1002 + k
  · subst e; rw [if_pos rfl, if_pos (by omega)]; congr 1; omega
  · rw [if_neg e]
    by_cases h : p * 1002 ≤ j ∧ j < p * 1002 + k
    · rw [if_pos h, if_pos (by omega)]
    · rw [if_neg h, if_neg (by omega)]
def zrec (z past : Nat → Int32) (pm : Nat) : Nat → Int32 := if pm = 4 then zput z (zmv past 3006) (pm - 1) 1002 else zput z past pm 1002
