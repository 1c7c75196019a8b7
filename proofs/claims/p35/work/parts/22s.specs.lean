theorem znote_at {z : Nat → Int32} {k b u : Int32} {j : Nat} (h : j < 962) (h9 : j ≠ 9) : znote z k b u j = z j := by
  unfold znote znt zshr upd
  rw [if_neg h9, if_neg (by omega), if_neg (by omega), if_neg (by omega), if_neg (by omega)]
  exact if_neg (by omega)
theorem zadd_at {z : Nat → Int32} {b w : Nat} {u : Int32} {j : Nat} (h : j ≠ 94 + 10 * b + w) : zadd z b w u j = z j := if_neg h
theorem zwaste_2 {z : Nat → Int32} {b : Nat} {u : Int32} {ca : Nat} : zwaste z b u ca 2 = z 2 := by
  unfold zwaste
  rw [znote_at (by decide) (by decide), zadd_at (by omega), zadd_at (by omega)]
def zexp (z : Nat → Int32) (_ : Nat) : Nat → Int32 × (Nat → Int32)
  | 0 => (nI 0, z)
  | k + 1 => if ¬ zB (zexp z 0 k).2 k 3 ≤ 0 ∧ zB (zexp z 0 k).2 k 2 = 0 then ((zexp z 0 k).1 + zB (zexp z 0 k).2 k 3, zwaste (zexp z 0 k).2 k (zB (zexp z 0 k).2 k 3) 0) else zexp z 0 k
theorem zexp_n (z : Nat → Int32) (a b : Nat) : ∀ k, zexp z a k = zexp z b k
  | 0 => rfl
  | k + 1 => rfl
theorem zexp_1 {z : Nat → Int32} {bz k : Nat} {q : Int32 × (Nat → Int32)} (hq : q = zexp z bz k) (h1 : ¬ zB q.2 k 3 ≤ 0) (h2 : zB q.2 k 2 = 0) : (q.1 + zB q.2 k 3, zwaste q.2 k (zB q.2 k 3) 0) = zexp z bz (k + 1) := by
  rw [zexp_n z bz 0 k] at hq
  subst hq
  exact (if_pos ⟨h1, h2⟩).symm
theorem zexp_2 {z : Nat → Int32} {bz k : Nat} {q : Int32 × (Nat → Int32)} (hq : q = zexp z bz k) (h : ¬ (¬ zB q.2 k 3 ≤ 0 ∧ zB q.2 k 2 = 0)) : q = zexp z bz (k + 1) := by
  rw [zexp_n z bz 0 k] at hq
  subst hq
  exact (if_neg h).symm
/-- every batch's good is a number below 12 -/
def zidx (z : Nat → Int32) (n : Nat) : Prop := ∀ b, b < n → (zB z b 0).toNatClampNeg < 12 ∧ zB z b 0 = nI (zB z b 0).toNatClampNeg
def zgive (z : Nat → Int32) (b : Nat) (u : Int32) : Nat → Int32 := znote (zadd (zadd z b 3 (-u)) b 5 u) (nI 2) (nI b) u
theorem zgive_2 {z : Nat → Int32} {b : Nat} {u : Int32} : zgive z b u 2 = z 2 := by
  unfold zgive
  rw [znote_at (by decide) (by decide), zadd_at (by omega), zadd_at (by omega)]
theorem zidx_give {z : Nat → Int32} {n b : Nat} {u : Int32} (h : zidx z n) (hn : n ≤ 40) : zidx (zgive z b u) n := by
  intro j hj
  have e : zB (zgive z b u) j 0 = zB z j 0 := by
    unfold zB zgive
    rw [znote_at (by omega) (by omega), zadd_at (by omega), zadd_at (by omega)]
  rw [e]
  exact h j hj
def zdu (q : Int32 × (Nat → Int32)) (k : Nat) : Int32 := if zB q.2 k 3 < q.1 then zB q.2 k 3 else q.1
def zdon (q0 : Int32 × (Nat → Int32)) : Nat → Int32 × (Nat → Int32)
  | 0 => q0
  | k + 1 => if ¬ zdu (zdon q0 k) k ≤ 0 ∧ ¬ nI (zstg (zdon q0 k).2 k) < (zdon q0 k).2 5 then ((zdon q0 k).1 - zdu (zdon q0 k) k, zgive (zdon q0 k).2 k (zdu (zdon q0 k) k)) else zdon q0 k
theorem zdon_1 {q0 q : Int32 × (Nat → Int32)} {k : Nat} (hq : q = zdon q0 k) (h1 : ¬ zdu q k ≤ 0) (h2 : ¬ nI (zstg q.2 k) < q.2 5) : (q.1 - zdu q k, zgive q.2 k (zdu q k)) = zdon q0 (k + 1) := by
  subst hq
  exact (if_pos ⟨h1, h2⟩).symm
theorem zdon_2 {q0 q : Int32 × (Nat → Int32)} {k : Nat} (hq : q = zdon q0 k) (h : ¬ (¬ zdu q k ≤ 0 ∧ ¬ nI (zstg q.2 k) < q.2 5)) : q = zdon q0 (k + 1) := by
  subst hq
  exact (if_neg h).symm
