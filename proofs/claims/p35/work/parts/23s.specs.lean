def zage (z : Nat → Int32) : Nat → Nat → Int32
  | 0 => z
  | k + 1 => zadd (zage z k) k 2 (if zB (zage z k) k 3 ≤ 0 then nI 0 else (-1))
def zday (z : Nat → Int32) (bz : Nat) : Int32 × (Nat → Int32) := ((zexp (zage (upd z 0 (z 0 + nI 1)) bz) bz bz).1, (zdon ((zexp (zage (upd z 0 (z 0 + nI 1)) bz) bz bz).2 6, (zexp (zage (upd z 0 (z 0 + nI 1)) bz) bz bz).2) bz).2)
theorem zidx_to {z z' : Nat → Int32} {n : Nat} (h : zidx z n) (e : ∀ b, b < n → z' (94 + 10 * b + 0) = z (94 + 10 * b + 0)) : zidx z' n := by
  intro b hb
  have e2 : zB z' b 0 = zB z b 0 := e b hb
  rw [e2]
  exact h b hb
theorem zidx_0 {z : Nat → Int32} {n : Nat} {v : Int32} (h : zidx z n) : zidx (upd z 0 v) n := zidx_to h (fun b _ => upd_ne _ _ (by omega))
theorem zidx_add {z : Nat → Int32} {n b w : Nat} {u : Int32} (h : zidx z n) (hw : 0 < w) (hw2 : w < 10) (hn : n ≤ 40) : zidx (zadd z b w u) n := zidx_to h (fun j _ => zadd_at (by omega))
theorem zidx_waste {z : Nat → Int32} {n b ca : Nat} {u : Int32} (h : zidx z n) (hc : ca < 3) (hn : n ≤ 40) : zidx (zwaste z b u ca) n := by
  refine zidx_to h (fun j hj => ?_)
  unfold zwaste
  rw [znote_at (by omega) (by omega), zadd_at (by omega), zadd_at (by omega)]
theorem zexp_keep2 {z : Nat → Int32} {bz n : Nat} {v : Int32} (h : z 2 = v) : (zexp z bz n).2 2 = v := by
  rw [zexp_n z bz 0 n]
  induction n with
  | zero => exact h
  | succ k ih =>
    show (ite _ _ _ : Int32 × (Nat → Int32)).2 2 = v
    split
    · show zwaste (zexp z 0 k).2 k (zB (zexp z 0 k).2 k 3) 0 2 = v
      exact zwaste_2.trans ih
    · exact ih
theorem zexp_idx {z : Nat → Int32} {bz n m : Nat} (h : zidx z m) (hm : m ≤ 40) : zidx (zexp z bz n).2 m := by
  rw [zexp_n z bz 0 n]
  induction n with
  | zero => exact h
  | succ k ih =>
    show zidx (ite _ _ _ : Int32 × (Nat → Int32)).2 m
    split
    · show zidx (zwaste (zexp z 0 k).2 k (zB (zexp z 0 k).2 k 3) 0) m
      exact zidx_waste ih (by decide) hm
    · exact ih
