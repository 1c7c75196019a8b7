/-! Reading a delivery: size, part, digits, the three rows. -/
abbrev XD : Type := Nat × Nat × Nat × (Nat → Nat → Int32)
def xupR (R : Nat → Nat → Int32) (p : Nat) (f : Nat → Int32) : Nat → Nat → Int32 := fun j => if j = p then f else R j
def xdPart (D : XD) (p : Nat) : XD := (D.1, p, 0, D.2.2.2)
def xdEntry (D : XD) : Bool × XD := if 16 ≤ D.1 then (false, D) else (true, xdPart (D.1 + 1, D.2.1, D.2.2.1, xupR D.2.2.2 2 (upd (D.2.2.2 2) D.1 (-1))) 0)
def xdDig (D : XD) (x : Int32) : Bool × XD := if (D.2.2.1 = 1 ∧ D.2.2.2 D.2.1 (D.1 - 1) = 0) ∨ D.2.2.1 = 3 then (false, D) else (true, D.1, D.2.1, D.2.2.1 + 1, xupR D.2.2.2 D.2.1 (upd (D.2.2.2 D.2.1) (D.1 - 1) (if D.2.2.1 = 0 then x else D.2.2.2 D.2.1 (D.1 - 1) * nI 10 + x)))
def xdAcc (D : XD) (ch : Int32) : Bool × XD := if nI 48 ≤ ch ∧ ch ≤ nI 57 then xdDig D (ch - nI 48) else if D.2.2.1 = 0 then (false, D) else if D.2.1 = 0 then (if ch = nI 120 then (true, xdPart D 1) else (false, D)) else if D.2.1 = 1 ∧ ch = nI 47 then (true, xdPart D 2) else if ch = nI 44 then xdEntry D else (false, D)
/-- behind so many characters: the first fault, if there was one, and the state -/
def xdNext (k : Nat) (a : Bool × XD) : Option Nat × XD := if a.1 = true then (none, a.2) else (some k, a.2)
def xdRn (text : Nat → Int32) (D0 : XD) : Nat → Option Nat × XD
  | 0 => (none, D0)
  | k + 1 => match xdRn text D0 k with
    | (none, D) => xdNext k (xdAcc D (text k))
    | (some f, D) => (some f, D)
def xdFault (a : Option Nat × XD) (le : Nat) : Int32 := match a with
  | (some f, _) => nI f
  | (none, D) => if D.2.1 = 0 ∨ D.2.2.1 = 0 then nI le else -1
/-- what holds while a text is read -/
def xdI (D : XD) : Prop := (1 ≤ D.1 ∧ D.1 ≤ 16) ∧ D.2.1 < 3 ∧ D.2.2.1 ≤ 3
theorem xdI_0 (pt dg : Nat) (R : Nat → Nat → Int32) : xdI (xdEntry (0, pt, dg, R)).2 := by
  have : xdEntry (0, pt, dg, R) = (true, xdPart (0 + 1, pt, dg, xupR R 2 (upd (R 2) 0 (-1))) 0) := if_neg (show ¬ 16 ≤ 0 by decide)
  rw [this]
  exact ⟨⟨Nat.le_refl 1, (show 1 ≤ 16 by decide)⟩, (show 0 < 3 by decide), Nat.zero_le _⟩
theorem xdI_entry {D : XD} (h : xdI D) : xdI (xdEntry D).2 := by
  unfold xdEntry
  split
  · exact h
  · refine ⟨⟨?_, ?_⟩, (by decide : 0 < 3), Nat.zero_le _⟩
    · show 1 ≤ D.1 + 1; omega
    · show D.1 + 1 ≤ 16; omega
theorem xdI_step {D : XD} (h : xdI D) (ch : Int32) : xdI (xdAcc D ch).2 := by
  unfold xdAcc
  split
  · unfold xdDig
    split
    · exact h
    · rename_i hn
      refine ⟨h.1, h.2.1, ?_⟩
      have h3 := h.2.2
      have : ¬ D.2.2.1 = 3 := fun q => hn (Or.inr q)
      show D.2.2.1 + 1 ≤ 3
      omega
  · split
    · exact h
    · split
      · split
        · exact ⟨h.1, (by decide : 1 < 3), Nat.zero_le _⟩
        · exact h
      · split
        · exact ⟨h.1, (by decide : 2 < 3), Nat.zero_le _⟩
        · split
          · exact xdI_entry h
          · exact h
theorem xdRn_ok {text : Nat → Int32} {D0 q : XD} {k : Nat} (hq : xdRn text D0 k = (none, q)) (h : (xdAcc q (text k)).1 = true) : xdRn text D0 (k + 1) = (none, (xdAcc q (text k)).2) := by
  show (match xdRn text D0 k with
    | (none, D) => xdNext k (xdAcc D (text k))
    | (some f, D) => (some f, D)) = _
  rw [hq]
  exact if_pos h
theorem xdRn_stay {text : Nat → Int32} {D0 D : XD} {f k : Nat} (hq : xdRn text D0 k = (some f, D)) : ∀ d, xdRn text D0 (k + d) = (some f, D)
  | 0 => hq
  | d + 1 => by
    show (match xdRn text D0 (k + d) with
      | (none, D) => xdNext (k + d) (xdAcc D (text (k + d)))
      | (some f, D) => (some f, D)) = _
    rw [xdRn_stay hq d]
theorem xdRn_fault {text : Nat → Int32} {D0 q : XD} {k le : Nat} (hq : xdRn text D0 k = (none, q)) (h : (xdAcc q (text k)).1 = false) (hk : k < le) : xdRn text D0 le = (some k, (xdAcc q (text k)).2) := by
  have h1 : xdRn text D0 (k + 1) = (some k, (xdAcc q (text k)).2) := by
    show (match xdRn text D0 k with
      | (none, D) => xdNext k (xdAcc D (text k))
      | (some f, D) => (some f, D)) = _
    rw [hq]
    exact if_neg (by rw [h]; decide)
  have := xdRn_stay h1 (le - (k + 1))
  rwa [show k + 1 + (le - (k + 1)) = le from by omega] at this
