theorem zage_2 {z : Nat → Int32} {k : Nat} : zage z k 2 = z 2 := by
  induction k with
  | zero => rfl
  | succ k ih => exact (zadd_at (by omega)).trans ih
theorem zage_idx {z : Nat → Int32} {k n : Nat} (h : zidx z n) (hn : n ≤ 40) : zidx (zage z k) n := by
  induction k with
  | zero => exact h
  | succ k ih => exact zidx_add ih (by decide) (by decide) hn
theorem zdon_at2 {q0 : Int32 × (Nat → Int32)} {k : Nat} : (zdon q0 k).2 2 = q0.2 2 := by
  induction k with
  | zero => rfl
  | succ k ih =>
    show (ite _ _ _ : Int32 × (Nat → Int32)).2 2 = _
    split
    · show zgive (zdon q0 k).2 k (zdu (zdon q0 k) k) 2 = _
      exact zgive_2.trans ih
    · exact ih
theorem zdon_idx {q0 : Int32 × (Nat → Int32)} {k n : Nat} (h : zidx q0.2 n) (hn : n ≤ 40) : zidx (zdon q0 k).2 n := by
  induction k with
  | zero => exact h
  | succ k ih =>
    show zidx (ite _ _ _ : Int32 × (Nat → Int32)).2 n
    split
    · show zidx (zgive (zdon q0 k).2 k (zdu (zdon q0 k) k)) n
      exact zidx_give ih hn
    · exact ih
theorem zday_2 {z : Nat → Int32} {bz : Nat} {v : Int32} (h : z 2 = v) : (zday z bz).2 2 = v :=
  zdon_at2.trans (zexp_keep2 (zage_2.trans h))
theorem zday_idx {z : Nat → Int32} {bz n : Nat} (h : zidx z n) (hn : n ≤ 40) : zidx (zday z bz).2 n :=
  zdon_idx (zexp_idx (zage_idx (zidx_0 h) hn) hn) hn
def zps (z : Nat → Int32) (bz : Nat) : Nat → Int32 × (Nat → Int32)
  | 0 => (nI 0, z)
  | k + 1 => ((zps z bz k).1 + (zday (zps z bz k).2 bz).1, (zday (zps z bz k).2 bz).2)
