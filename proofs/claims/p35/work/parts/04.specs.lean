/-! What the methods answer, in plain functions. -/
def xfmod (a b : Int32) : Int32 := if (a ^^^ b) < 0 then (if a - a / b * b = 0 then a - a / b * b else a - a / b * b + b) else a - a / b * b
def xsum (f : Nat → Int32) : Nat → Int32
  | 0 => nI 0
  | k + 1 => xsum f k + f k
def xsumIf (g : Nat → Int32) (w : Int32) (f : Nat → Int32) : Nat → Int32
  | 0 => nI 0
  | k + 1 => if g k = w then xsumIf g w f k + f k else xsumIf g w f k
def xcnt (g : Nat → Int32) (w : Int32) : Nat → Int32
  | 0 => nI 0
  | k + 1 => if g k = w then xcnt g w k + nI 1 else xcnt g w k
def xage (shelf left : Nat → Int32) (n : Nat) : Nat → Int32 := fun b => if b < n ∧ ¬ shelf b ≤ 0 then left b - nI 1 else left b
theorem xage_0 (shelf left : Nat → Int32) : left = xage shelf left 0 := by
  funext b
  unfold xage
  rw [if_neg (by omega)]
theorem xage_1 {shelf left : Nat → Int32} {k : Nat} (h : ¬ shelf k ≤ 0) : upd (xage shelf left k) k (xage shelf left k k - nI 1) = xage shelf left (k + 1) := by
  funext b
  unfold xage upd
  by_cases e : b = k
  · subst e
    rw [if_pos rfl, if_neg (by omega), if_pos ⟨by omega, h⟩]
  · rw [if_neg e]
    show (if b < k ∧ ¬ shelf b ≤ 0 then left b - nI 1 else left b) = _
    by_cases h2 : b < k ∧ ¬ shelf b ≤ 0
    · rw [if_pos h2, if_pos ⟨by omega, h2.2⟩]
    · rw [if_neg h2, if_neg (fun q => h2 ⟨by omega, q.2⟩)]
theorem xage_2 {shelf left : Nat → Int32} {k : Nat} (h : shelf k ≤ 0) : xage shelf left k = xage shelf left (k + 1) := by
  funext b
  unfold xage
  by_cases h2 : b < k ∧ ¬ shelf b ≤ 0
  · rw [if_pos h2, if_pos ⟨by omega, h2.2⟩]
  · rw [if_neg h2, if_neg]
    intro q
    by_cases e : b = k
    · subst e; exact q.2 h
    · exact h2 ⟨by omega, q.2⟩
/-- a list's row (base b, n entries) with sb put in at place pl -/
def xins (f : Nat → Int32) (b n pl : Nat) (sb : Int32) : Nat → Int32 := fun k => if k = b + pl then sb else if b + pl < k ∧ k ≤ b + n then f (k - 1) else f k
def xshr (f : Nat → Int32) (b n j : Nat) : Nat → Int32 := fun k => if b + j < k ∧ k ≤ b + n then f (k - 1) else f k
theorem xshr_0 (f : Nat → Int32) (b n : Nat) : f = xshr f b n n := by
  funext k
  unfold xshr
  rw [if_neg (by omega)]
theorem xshr_1 {f : Nat → Int32} {b n k : Nat} (h : 0 < k) (hk : k ≤ n) : upd (xshr f b n k) (b + k) (xshr f b n k (b + k - 1)) = xshr f b n (k - 1) := by
  funext j
  unfold upd xshr
  by_cases e : j = b + k
  · subst e
    rw [if_pos rfl, if_neg (by omega), if_pos (by omega)]
  · rw [if_neg e]
    by_cases h2 : b + k < j ∧ j ≤ b + n
    · rw [if_pos h2, if_pos (by omega)]
    · rw [if_neg h2, if_neg (by omega)]
theorem xshr_ins {f : Nat → Int32} {b n pl : Nat} (h : pl ≤ n) {sb : Int32} : upd (xshr f b n pl) (b + pl) sb = xins f b n pl sb := by
  funext j
  unfold upd xshr xins
  rfl
/-- entries from place a on to place e moved one down -/
def xshl (f : Nat → Int32) (b a e : Nat) : Nat → Int32 := fun k => if b + a ≤ k ∧ k < b + e then f (k + 1) else f k
theorem xshl_0 (f : Nat → Int32) (b a : Nat) : f = xshl f b a a := by
  funext k
  unfold xshl
  rw [if_neg (by omega)]
theorem xshl_1 {f : Nat → Int32} {b a k : Nat} (h : a ≤ k) : upd (xshl f b a k) (b + k) (xshl f b a k (b + k + 1)) = xshl f b a (k + 1) := by
  funext j
  unfold upd xshl
  by_cases e : j = b + k
  · subst e
    rw [if_pos rfl, if_neg (by omega), if_pos (by omega)]
  · rw [if_neg e]
    by_cases h2 : b + a ≤ j ∧ j < b + k
    · rw [if_pos h2, if_pos (by omega)]
    · rw [if_neg h2, if_neg (by omega)]
theorem xfmod_place {nx bk : Nat} (h1 : nx < 10) (h2 : bk < 10) : xfmod ((nI nx - nI 1) - nI bk) (nI 10) = nI ((nx + 9 - bk) % 10) := by
  have key : ∀ a, a < 10 → ∀ b, b < 10 → xfmod ((nI a - nI 1) - nI b) (nI 10) = nI ((a + 9 - b) % 10) := by decide +kernel
  exact key nx h1 bk h2
theorem xupd4 (f g : Nat → Int32) : ∀ k, k < 4 → upd (upd (upd (upd f 0 (g 0)) 1 (g 1)) 2 (g 2)) 3 (g 3) k = g k := by
  intro k hk
  rcases (show k = 0 ∨ k = 1 ∨ k = 2 ∨ k = 3 by omega) with rfl | rfl | rfl | rfl <;> rfl
theorem xupd4f (f g : Nat → UInt32) : ∀ k, k < 4 → vf_upd (vf_upd (vf_upd (vf_upd f 0 (g 0)) 1 (g 1)) 2 (g 2)) 3 (g 3) k = g k := by
  intro k hk
  rcases (show k = 0 ∨ k = 1 ∨ k = 2 ∨ k = 3 by omega) with rfl | rfl | rfl | rfl <;> rfl
/-- the stage that so many days left of a life reach, by the shares of the stages 1 to 3 -/
def xreach (s1 s2 s3 dl lf : Int32) : Nat := if s3 * lf < dl * nI 100 then (if s2 * lf < dl * nI 100 then (if s1 * lf < dl * nI 100 then 0 else 1) else 2) else 3
/-- the first n entries are indexes below N -/
def xidx (f : Nat → Int32) (N n : Nat) : Prop := ∀ b, b < n → (f b).toNatClampNeg < N ∧ f b = nI (f b).toNatClampNeg
def xstg (share left life good : Nat → Int32) (b : Nat) : Nat := xreach (share 1) (share 2) (share 3) (left b) (life (good b).toNatClampNeg)
theorem xreach_lt (s1 s2 s3 dl lf : Int32) : xreach s1 s2 s3 dl lf < 4 := by
  unfold xreach
  split
  · split
    · split <;> decide
    · decide
  · decide
theorem xstg_lt (share left life good : Nat → Int32) (b : Nat) : xstg share left life good b < 4 := xreach_lt _ _ _ _ _
/-- a markdown with which no price is without a number -/
def xmd (md : UInt32) : Prop := vf_n32 (FP.fdiv md 1120403456) ∧ vf_n32 (FP.fsub FP.fconst1 (FP.fdiv md 1120403456)) ∧ ∀ p : Int32, vf_n32 (FP.fmul (FP.i2f p) (FP.fsub FP.fconst1 (FP.fdiv md 1120403456)))
def xprice (p : Int32) (md : UInt32) : UInt32 := FP.fmul (FP.i2f p) (FP.fsub FP.fconst1 (FP.fdiv md 1120403456))
def xcntP (P : Nat → Bool) : Nat → Int32
  | 0 => nI 0
  | k + 1 => if P k = true then xcntP P k + nI 1 else xcntP P k
def xsumP (P : Nat → Bool) (f : Nat → Int32) : Nat → Int32
  | 0 => nI 0
  | k + 1 => if P k = true then xsumP P f k + f k else xsumP P f k
/-- the log: size, next place, its four rows -/
abbrev XL : Type := Nat × Nat × (Nat → Int32) × (Nat → Int32) × (Nat → Int32) × (Nat → Int32)
def xlog (L : XL) (k b u d : Int32) : XL := (min (L.1 + 1) 10, (L.2.1 + 1) % 10, upd L.2.2.1 L.2.1 k, upd L.2.2.2.1 L.2.1 b, upd L.2.2.2.2.1 L.2.1 u, upd L.2.2.2.2.2 L.2.1 d)
/-- a shelf, a row that it goes to, the log -/
abbrev XW : Type := (Nat → Int32) × (Nat → Int32) × XL
def xww (kd : Int32) (q : XW) (b : Nat) (u d : Int32) : XW := (upd q.1 b (q.1 b - u), upd q.2.1 b (q.2.1 b + u), xlog q.2.2 kd (nI b) u d)
def xwg (good : Nat → Int32) (w day : Int32) (q0 : XW) : Nat → XW
  | 0 => q0
  | k + 1 => if good k = w ∧ ¬ (xwg good w day q0 k).1 k ≤ 0 then xww (nI 3) (xwg good w day q0 k) k ((xwg good w day q0 k).1 k) day else xwg good w day q0 k
theorem xwg_1 {good : Nat → Int32} {w day : Int32} {q0 q : XW} {k : Nat} (hq : q = xwg good w day q0 k) (h1 : good k = w) (h2 : ¬ q.1 k ≤ 0) : xww (nI 3) q k (q.1 k) day = xwg good w day q0 (k + 1) := by
  subst hq
  exact (if_pos ⟨h1, h2⟩).symm
theorem xwg_2 {good : Nat → Int32} {w day : Int32} {q0 q : XW} {k : Nat} (hq : q = xwg good w day q0 k) (h : ¬ (good k = w ∧ ¬ q.1 k ≤ 0)) : q = xwg good w day q0 (k + 1) := by
  subst hq
  exact (if_neg h).symm
def xexp (left : Nat → Int32) (day : Int32) (q0 : XW) : Nat → Int32 × XW
  | 0 => (nI 0, q0)
  | k + 1 => if ¬ (xexp left day q0 k).2.1 k ≤ 0 ∧ ¬ 0 < left k then ((xexp left day q0 k).1 + (xexp left day q0 k).2.1 k, xww (nI 3) (xexp left day q0 k).2 k ((xexp left day q0 k).2.1 k) day) else xexp left day q0 k
theorem xexp_1 {left : Nat → Int32} {day : Int32} {q0 : XW} {q : Int32 × XW} {k : Nat} (hq : q = xexp left day q0 k) (h1 : ¬ q.2.1 k ≤ 0) (h2 : ¬ 0 < left k) : (q.1 + q.2.1 k, xww (nI 3) q.2 k (q.2.1 k) day) = xexp left day q0 (k + 1) := by
  subst hq
  exact (if_pos ⟨h1, h2⟩).symm
theorem xexp_2 {left : Nat → Int32} {day : Int32} {q0 : XW} {q : Int32 × XW} {k : Nat} (hq : q = xexp left day q0 k) (h : ¬ (¬ q.2.1 k ≤ 0 ∧ ¬ 0 < left k)) : q = xexp left day q0 (k + 1) := by
  subst hq
  exact (if_neg h).symm
theorem xww_log {kd : Int32} {q : XW} {b : Nat} {u d : Int32} : (xww kd q b u d).2.2.1 ≤ 10 ∧ (xww kd q b u d).2.2.2.1 < 10 := ⟨Nat.min_le_right _ _, Nat.mod_lt _ (by decide)⟩
theorem xexp_log {left : Nat → Int32} {day : Int32} {q0 : XW} {ex : Int32 × XW} {n : Nat} (h : ex = xexp left day q0 n) (hL : q0.2.2.1 ≤ 10 ∧ q0.2.2.2.1 < 10) : ex.2.2.2.1 ≤ 10 ∧ ex.2.2.2.2.1 < 10 := by
  subst h
  induction n with
  | zero => exact hL
  | succ k ih =>
    show (ite _ _ _ : Int32 × XW).2.2.2.1 ≤ 10 ∧ (ite _ _ _ : Int32 × XW).2.2.2.2.1 < 10
    split
    · exact xww_log
    · exact ih
def xdon (stg : Nat → Nat) (dst day : Int32) (q0 : Int32 × XW) : Nat → Int32 × XW
  | 0 => q0
  | k + 1 => if ¬ (xdon stg dst day q0 k).1 ≤ 0 ∧ ¬ (xdon stg dst day q0 k).2.1 k ≤ 0 ∧ ¬ nI (stg k) < dst then
      ((xdon stg dst day q0 k).1 - (if (xdon stg dst day q0 k).1 < (xdon stg dst day q0 k).2.1 k then (xdon stg dst day q0 k).1 else (xdon stg dst day q0 k).2.1 k), xww (nI 2) (xdon stg dst day q0 k).2 k (if (xdon stg dst day q0 k).1 < (xdon stg dst day q0 k).2.1 k then (xdon stg dst day q0 k).1 else (xdon stg dst day q0 k).2.1 k) day)
    else xdon stg dst day q0 k
theorem xdon_1 {stg : Nat → Nat} {dst day : Int32} {q0 q : Int32 × XW} {k : Nat} (hq : q = xdon stg dst day q0 k) (h1 : ¬ q.1 ≤ 0) (h2 : ¬ q.2.1 k ≤ 0) (h3 : ¬ nI (stg k) < dst) : (q.1 - (if q.1 < q.2.1 k then q.1 else q.2.1 k), xww (nI 2) q.2 k (if q.1 < q.2.1 k then q.1 else q.2.1 k) day) = xdon stg dst day q0 (k + 1) := by
  subst hq
  exact (if_pos ⟨h1, h2, h3⟩).symm
theorem xdon_2 {stg : Nat → Nat} {dst day : Int32} {q0 q : Int32 × XW} {k : Nat} (hq : q = xdon stg dst day q0 k) (h : ¬ (¬ q.1 ≤ 0 ∧ ¬ q.2.1 k ≤ 0 ∧ ¬ nI (stg k) < dst)) : q = xdon stg dst day q0 (k + 1) := by
  subst hq
  exact (if_neg h).symm
theorem xdon_stop {stg : Nat → Nat} {dst day : Int32} {q0 q : Int32 × XW} {k n : Nat} (hk : k ≤ n) (hq : q = xdon stg dst day q0 k) (c : q.1 ≤ 0) : q = xdon stg dst day q0 n := by
  obtain ⟨d, rfl⟩ := Nat.exists_eq_add_of_le hk
  clear hk
  induction d with
  | zero => exact hq
  | succ d ih => exact xdon_2 ih (fun z => z.1 c)
theorem xdon_log {stg : Nat → Nat} {dst day : Int32} {q0 dx : Int32 × XW} {n : Nat} (h : dx = xdon stg dst day q0 n) (hL : q0.2.2.2.1 ≤ 10 ∧ q0.2.2.2.2.1 < 10) : dx.2.2.2.1 ≤ 10 ∧ dx.2.2.2.2.1 < 10 := by
  subst h
  induction n with
  | zero => exact hL
  | succ k ih =>
    show (ite _ _ _ : Int32 × XW).2.2.2.1 ≤ 10 ∧ (ite _ _ _ : Int32 × XW).2.2.2.2.1 < 10
    split
    · exact xww_log
    · exact ih
/-- expired, the day, days left, the shelf, wasted by expiring, given, the log -/
abbrev XP : Type := Int32 × Int32 × (Nat → Int32) × (Nat → Int32) × (Nat → Int32) × (Nat → Int32) × XL
def xdayE (n : Nat) (q : XP) : Int32 × XW := xexp (xage q.2.2.2.1 q.2.2.1 n) (q.2.1 + nI 1) (q.2.2.2.1, q.2.2.2.2.1, q.2.2.2.2.2.2) n
def xdayD (n : Nat) (good life share : Nat → Int32) (dst mx : Int32) (q : XP) : Int32 × XW := xdon (xstg share (xage q.2.2.2.1 q.2.2.1 n) life good) dst (q.2.1 + nI 1) (mx, (xdayE n q).2.1, q.2.2.2.2.2.1, (xdayE n q).2.2.2) n
def xday (n : Nat) (good life share : Nat → Int32) (dst mx : Int32) (q : XP) : XP := (q.1 + (xdayE n q).1, q.2.1 + nI 1, xage q.2.2.2.1 q.2.2.1 n, (xdayD n good life share dst mx q).2.1, (xdayE n q).2.2.1, (xdayD n good life share dst mx q).2.2.1, (xdayD n good life share dst mx q).2.2.2)
def xpass (n : Nat) (good life share : Nat → Int32) (dst mx : Int32) (q0 : XP) : Nat → XP
  | 0 => q0
  | k + 1 => xday n good life share dst mx (xpass n good life share dst mx q0 k)
theorem xpass_1 {n : Nat} {good life share : Nat → Int32} {dst mx : Int32} {q0 q : XP} {k : Nat} {ex dx : Int32 × XW} (hq : q = xpass n good life share dst mx q0 k) (hex : ex = xexp (xage q.2.2.2.1 q.2.2.1 n) (q.2.1 + nI 1) (q.2.2.2.1, q.2.2.2.2.1, q.2.2.2.2.2.2) n) (hdx : dx = xdon (xstg share (xage q.2.2.2.1 q.2.2.1 n) life good) dst (q.2.1 + nI 1) (mx, ex.2.1, q.2.2.2.2.2.1, ex.2.2.2) n) : (q.1 + ex.1, q.2.1 + nI 1, xage q.2.2.2.1 q.2.2.1 n, dx.2.1, ex.2.2.1, dx.2.2.1, dx.2.2.2) = xpass n good life share dst mx q0 (k + 1) := by
  subst hdx
  subst hex
  subst hq
  rfl
/-- a row of floats by their bits -/
def xfl (f : Nat → Int32) : Nat → UInt32 := fun k => (f k).toUInt32
def xf1 (x : Int32) : UInt32 := x.toUInt32
/-- what a state holds, by the number of the field: goods 0-4, batches 5-15, orders 16-29, stages 30-31, log 32-37, settings 38, rebate 39, day 40 -/
def xmk (a0 : Int32) (a1 a2 a3 a4 : Nat → Int32) (a5 : Int32) (a6 a7 a8 a9 a10 a11 a12 a13 a14 a15 : Nat → Int32) (a16 a17 : Int32) (a18 a19 a20 a21 a22 a23 a24 a25 a26 a27 a28 a29 a30 a31 : Nat → Int32) (a32 a33 : Int32) (a34 a35 a36 a37 a38 : Nat → Int32) (a39 a40 : Int32) : Nat → Nat → Int32 := fun j => match j with
  | 0 => fun _ => a0
  | 1 => a1
  | 2 => a2
  | 3 => a3
  | 4 => a4
  | 5 => fun _ => a5
  | 6 => a6
  | 7 => a7
  | 8 => a8
  | 9 => a9
  | 10 => a10
  | 11 => a11
  | 12 => a12
  | 13 => a13
  | 14 => a14
  | 15 => a15
  | 16 => fun _ => a16
  | 17 => fun _ => a17
  | 18 => a18
  | 19 => a19
  | 20 => a20
  | 21 => a21
  | 22 => a22
  | 23 => a23
  | 24 => a24
  | 25 => a25
  | 26 => a26
  | 27 => a27
  | 28 => a28
  | 29 => a29
  | 30 => a30
  | 31 => a31
  | 32 => fun _ => a32
  | 33 => fun _ => a33
  | 34 => a34
  | 35 => a35
  | 36 => a36
  | 37 => a37
  | 38 => a38
  | 39 => fun _ => a39
  | _ => fun _ => a40
def xupS (S : Nat → Nat → Nat → Int32) (t : Nat) (T : Nat → Nat → Int32) : Nat → Nat → Nat → Int32 := fun i => if i = t then T else S i
abbrev xopen (good left rest : Nat → Int32) (le w : Int32) (b : Nat) : Prop := good b = w ∧ ¬ rest b ≤ 0 ∧ ¬ left b < le
abbrev xbefore (rule : Int32) (left : Nat → Int32) (pric : Nat → UInt32) (o f : Nat) : Prop := if rule = nI 1 then left f < left o else if rule = nI 2 then Op.cmpValue (FP.fcmp (pric o) (pric f)) .g < 0 else left o < left f
def xon (o : Option Nat) : Int32 := match o with
  | none => -1
  | some b => nI b
/-- the first open batch by the rule, among the first so many -/
def xpick (bf : Nat → Nat → Bool) (k : Nat) (o : Option Nat) : Option Nat := match o with
  | none => some k
  | some f => if bf k f = true then some k else some f
def xnb (P : Nat → Bool) (bf : Nat → Nat → Bool) : Nat → Option Nat
  | 0 => none
  | k + 1 => if P k = true then xpick bf k (xnb P bf k) else xnb P bf k
theorem xnb_0 {P : Nat → Bool} {bf : Nat → Nat → Bool} {k : Nat} {o : Option Nat} (h : o = xnb P bf k) (hp : P k = false) : o = xnb P bf (k + 1) := by
  rw [h]
  exact (if_neg (by rw [hp]; decide)).symm
theorem xnb_1 {P : Nat → Bool} {bf : Nat → Nat → Bool} {k : Nat} (h : none = xnb P bf k) (hp : P k = true) : some k = xnb P bf (k + 1) := by
  show some k = if P k = true then xpick bf k (xnb P bf k) else xnb P bf k
  rw [if_pos hp, ← h]
  rfl
theorem xnb_2 {P : Nat → Bool} {bf : Nat → Nat → Bool} {k f : Nat} (h : some f = xnb P bf k) (hp : P k = true) (hb : bf k f = true) : some k = xnb P bf (k + 1) := by
  show some k = if P k = true then xpick bf k (xnb P bf k) else xnb P bf k
  rw [if_pos hp, ← h]
  exact (if_pos hb).symm
theorem xnb_3 {P : Nat → Bool} {bf : Nat → Nat → Bool} {k f : Nat} (h : some f = xnb P bf k) (hp : P k = true) (hb : bf k f = false) : some f = xnb P bf (k + 1) := by
  show some f = if P k = true then xpick bf k (xnb P bf k) else xnb P bf k
  rw [if_pos hp, ← h]
  exact (if_neg (by rw [hb]; decide)).symm
def xcharge (most its : Int32) (pr : UInt32) : UInt32 := if most < its ∧ 0 < Op.cmpValue (FP.fcmp pr (FP.i2f most)) .l then FP.i2f most else pr
/-- a rebate with which no due is without a number -/
def xrb (rb : UInt32) : Prop := ∀ x : Int32, vf_n32 (FP.fmul (FP.i2f x) rb) ∧ vf_n32 (FP.fdiv (FP.fmul (FP.i2f x) rb) 1120403456)
def xdue (sum : Int32) (rb : UInt32) : Int32 := sum - FP.f2i (FP.fdiv (FP.fmul (FP.i2f sum) rb) 1120403456)
theorem xnb_lt {P : Nat → Bool} {bf : Nat → Nat → Bool} {n b : Nat} (h : xnb P bf n = some b) : b < n := by
  induction n generalizing b with
  | zero => cases h
  | succ k ih =>
    have h1 : (if P k = true then xpick bf k (xnb P bf k) else xnb P bf k) = some b := h
    split at h1
    · cases hx : xnb P bf k with
      | none => rw [hx] at h1; cases h1; omega
      | some f =>
        rw [hx] at h1
        have h2 : (if bf k f = true then some k else some f) = some b := h1
        split at h2
        · cases h2; omega
        · cases h2; exact Nat.lt_succ_of_lt (ih hx)
    · exact Nat.lt_succ_of_lt (ih h1)
theorem xnb_p {P : Nat → Bool} {bf : Nat → Nat → Bool} {n b : Nat} (h : xnb P bf n = some b) : P b = true := by
  induction n generalizing b with
  | zero => cases h
  | succ k ih =>
    have h1 : (if P k = true then xpick bf k (xnb P bf k) else xnb P bf k) = some b := h
    split at h1
    · rename_i hp
      cases hx : xnb P bf k with
      | none => rw [hx] at h1; cases h1; exact hp
      | some f =>
        rw [hx] at h1
        have h2 : (if bf k f = true then some k else some f) = some b := h1
        split at h2
        · cases h2; exact hp
        · cases h2; exact ih hx
    · exact ih h1
/-- a filling: size, got, batches, units, cents, what rests -/
abbrev XF : Type := Nat × Int32 × (Nat → Int32) × (Nat → Int32) × (Nat → Int32) × (Nat → Int32)
def xtkn (wa : Int32) (F : XF) (b : Nat) : Int32 := if F.2.2.2.2.2 b < wa - F.2.1 then F.2.2.2.2.2 b else wa - F.2.1
def xft (good : Nat → Int32) (pric : Nat → UInt32) (price : Nat → Int32) (wa : Int32) (og : Nat) (F : XF) (b : Nat) : XF :=
  (F.1 + 1, F.2.1 + xtkn wa F b, upd F.2.2.1 F.1 (nI b), upd F.2.2.2.1 F.1 (xtkn wa F b), upd F.2.2.2.2.1 F.1 (FP.f2i (FP.fmul (FP.i2f (xtkn wa F b)) (xcharge (price og) (price (good b).toNatClampNeg) (pric b)))), upd F.2.2.2.2.2 b (F.2.2.2.2.2 b - xtkn wa F b))
def xnbF (good left : Nat → Int32) (pric : Nat → UInt32) (rule le : Int32) (n : Nat) (w : Int32) (F : XF) : Option Nat := xnb (fun b => decide (xopen good left F.2.2.2.2.2 le w b)) (fun b f => decide (xbefore rule left pric b f)) n
def xtks (good : Nat → Int32) (pric : Nat → UInt32) (price : Nat → Int32) (wa : Int32) (og : Nat) (F : XF) (o : Option Nat) (go : XF → XF) : XF := match o with
  | none => F
  | some b => go (xft good pric price wa og F b)
def xtk (good left : Nat → Int32) (pric : Nat → UInt32) (price : Nat → Int32) (rule le wa : Int32) (og n : Nat) (w : Int32) : Nat → XF → XF
  | 0, F => F
  | fuel + 1, F => if F.2.1 < wa then xtks good pric price wa og F (xnbF good left pric rule le n w F) (xtk good left pric price rule le wa og n w fuel) else F
section XTK
variable {good left : Nat → Int32} {pric : Nat → UInt32} {price : Nat → Int32} {rule le wa : Int32} {og n : Nat} {w : Int32} {q F0 : XF} {k : Nat}
theorem xtk_full (hq : xtk good left pric price rule le wa og n w (40 - k) q = xtk good left pric price rule le wa og n w 40 F0) (h : 40 ≤ k) : q = xtk good left pric price rule le wa og n w 40 F0 := by
  rw [← hq, show 40 - k = 0 from by omega]
  rfl
theorem xtk_done (hq : xtk good left pric price rule le wa og n w (40 - k) q = xtk good left pric price rule le wa og n w 40 F0) (hk : k ≤ 40) (h : ¬ q.2.1 < wa) : q = xtk good left pric price rule le wa og n w 40 F0 := by
  rw [← hq]
  cases hd : 40 - k with
  | zero => rfl
  | succ d => exact (if_neg h).symm
theorem xtk_none (hq : xtk good left pric price rule le wa og n w (40 - k) q = xtk good left pric price rule le wa og n w 40 F0) (hk : k ≤ 40) (h : q.2.1 < wa) (hn : xnbF good left pric rule le n w q = none) : q = xtk good left pric price rule le wa og n w 40 F0 := by
  rw [← hq]
  cases hd : 40 - k with
  | zero => rfl
  | succ d =>
    show q = if q.2.1 < wa then xtks good pric price wa og q (xnbF good left pric rule le n w q) _ else q
    rw [if_pos h, hn]
    rfl
theorem xtk_some (hq : xtk good left pric price rule le wa og n w (40 - k) q = xtk good left pric price rule le wa og n w 40 F0) (hk : k < 40) (h : q.2.1 < wa) {nb : Nat} (hn : xnbF good left pric rule le n w q = some nb) : xtk good left pric price rule le wa og n w (40 - (k + 1)) (xft good pric price wa og q nb) = xtk good left pric price rule le wa og n w 40 F0 := by
  rw [← hq, show 40 - k = (40 - (k + 1)) + 1 from by omega]
  show _ = if q.2.1 < wa then xtks good pric price wa og q (xnbF good left pric rule le n w q) (xtk good left pric price rule le wa og n w (40 - (k + 1))) else q
  rw [if_pos h, hn]
  rfl
end XTK
def xcb (u : Nat → Bool) : Nat → Nat
  | 0 => 0
  | k + 1 => if u k = true then xcb u k + 1 else xcb u k
theorem xcb_le (u : Nat → Bool) (n : Nat) : xcb u n ≤ n := by
  induction n with
  | zero => exact Nat.le_refl _
  | succ k ih => unfold xcb; split <;> omega
theorem xcb_lt {u : Nat → Bool} {n b : Nat} (hb : b < n) (h : u b = false) : xcb u n < n := by
  induction n with
  | zero => omega
  | succ k ih =>
    have := xcb_le u k
    unfold xcb
    by_cases e : b = k
    · subst e; rw [if_neg (by rw [h]; decide)]; omega
    · have := ih (by omega)
      split <;> omega
theorem xcb_set {u : Nat → Bool} {n b : Nat} (hb : b < n) (h : u b = false) : xcb (fun j => j == b || u j) n = xcb u n + 1 := by
  have low : ∀ m, m ≤ b → xcb (fun j => j == b || u j) m = xcb u m := by
    intro m
    induction m with
    | zero => intro _; rfl
    | succ k ih =>
      intro hk
      have e : (k == b || u k) = u k := by simp [show ¬ k = b from by omega]
      unfold xcb
      rw [ih (by omega)]
      simp only [e]
  induction n with
  | zero => omega
  | succ k ih =>
    by_cases e : b = k
    · subst e
      have l := low b (Nat.le_refl _)
      unfold xcb
      rw [l, if_pos (by simp), if_neg (by rw [h]; decide)]
    · have e2 : (k == b || u k) = u k := by simp [show ¬ k = b from fun q => e q.symm]
      unfold xcb
      rw [ih (by omega)]
      simp only [e2]
      split <;> omega
/-- what a filling keeps: its size counts batches that are used up, as long as units are wanted -/
def xfi (n : Nat) (wa : Int32) (F : XF) : Prop := ∃ u : Nat → Bool, F.1 = xcb u n ∧ (F.2.1 < wa → ∀ b, u b = true → F.2.2.2.2.2 b ≤ 0)
theorem xfi_0 (n : Nat) (wa : Int32) (F : XF) (h : F.1 = 0) : xfi n wa F := by
  refine ⟨fun _ => false, ?_, fun _ b q => by cases q⟩
  rw [h]
  induction n with
  | zero => rfl
  | succ k ih => unfold xcb; rw [if_neg (by decide)]; exact ih
theorem xfi_lt {n : Nat} {wa : Int32} {F : XF} (hn : n ≤ 40) (h : xfi n wa F) (hg : F.2.1 < wa) {b : Nat} (hb : b < n) (hr : ¬ F.2.2.2.2.2 b ≤ 0) : F.1 < 40 := by
  obtain ⟨u, h1, h2⟩ := h
  have hu : u b = false := by
    cases hq : u b with
    | false => rfl
    | true => exact absurd (h2 hg b hq) hr
  have := xcb_lt hb hu
  omega
theorem xfi_le {n : Nat} {wa : Int32} {F : XF} (h : xfi n wa F) : F.1 ≤ n := by
  obtain ⟨u, h1, h2⟩ := h
  rw [h1]
  exact xcb_le u n
theorem xfi_step {good : Nat → Int32} {pric : Nat → UInt32} {price : Nat → Int32} {og : Nat} {n : Nat} {wa : Int32} {F : XF} (h : xfi n wa F) (hg : F.2.1 < wa) {b : Nat} (hb : b < n) (hr : ¬ F.2.2.2.2.2 b ≤ 0) : xfi n wa (xft good pric price wa og F b) := by
  obtain ⟨u, h1, h2⟩ := h
  have hu : u b = false := by
    cases hq : u b with
    | false => rfl
    | true => exact absurd (h2 hg b hq) hr
  refine ⟨fun j => j == b || u j, ?_, ?_⟩
  · show F.1 + 1 = _
    rw [xcb_set hb hu, h1]
  · intro hg2 j hj
    have hg3 : F.2.1 + xtkn wa F b < wa := hg2
    show upd F.2.2.2.2.2 b (F.2.2.2.2.2 b - xtkn wa F b) j ≤ 0
    by_cases e : j = b
    · subst e
      rw [upd_at]
      by_cases ht : F.2.2.2.2.2 j < wa - F.2.1
      · have e3 : xtkn wa F j = F.2.2.2.2.2 j := if_pos ht
        rw [e3, Int32.sub_self]
        decide
      · have e3 : xtkn wa F j = wa - F.2.1 := if_neg ht
        rw [e3, Int32.add_comm, Int32.sub_add_cancel] at hg3
        exact absurd hg3 (Int32.lt_irrefl)
    · rw [upd_ne _ _ e]
      have hu2 : u j = true := by simpa [e] using hj
      exact h2 hg j hu2
def xnn (good : Nat → Int32) (pric : Nat → UInt32) (price : Nat → Int32) (og n : Nat) : Prop := ∀ b, b < n → ∀ t : Int32, vf_n32 (FP.fmul (FP.i2f t) (xcharge (price og) (price (good b).toNatClampNeg) (pric b)))
theorem xfi_xtk {good left : Nat → Int32} {pric : Nat → UInt32} {price : Nat → Int32} {rule le wa : Int32} {og n : Nat} {w : Int32} (hn : n ≤ 40) : ∀ {fuel : Nat} {F : XF}, xfi n wa F → xfi n wa (xtk good left pric price rule le wa og n w fuel F)
  | 0, _, h => h
  | fuel + 1, F, h => by
    show xfi n wa (if F.2.1 < wa then xtks good pric price wa og F (xnbF good left pric rule le n w F) (xtk good left pric price rule le wa og n w fuel) else F)
    split
    · rename_i hg
      cases hb : xnbF good left pric rule le n w F with
      | none => exact h
      | some b => exact xfi_xtk hn (xfi_step h hg (xnb_lt hb) (of_decide_eq_true (xnb_p hb)).2.1)
    · exact h
def xsubs (good left : Nat → Int32) (pric : Nat → UInt32) (price : Nat → Int32) (rule le wa : Int32) (og n : Nat) (list : Nat → Int32) (base : Nat) (F : XF) : Nat → XF
  | 0 => F
  | k + 1 => xtk good left pric price rule le wa og n (list (base + k)) 40 (xsubs good left pric price rule le wa og n list base F k)
def xfu (f g : Nat → UInt32) (n : Nat) : Nat → UInt32 := fun b => if b < n then f b else g b
theorem xfu_0 (f g : Nat → UInt32) : g = xfu f g 0 := by
  funext b
  exact (if_neg (Nat.not_lt_zero b)).symm
theorem xfu_1 (f g : Nat → UInt32) (k : Nat) : vf_upd (xfu f g k) k (f k) = xfu f g (k + 1) := by
  funext b
  unfold vf_upd xfu
  by_cases e : b = k
  · subst e; rw [if_pos rfl, if_pos (Nat.lt_succ_self _)]
  · rw [if_neg e]
    by_cases h : b < k
    · rw [if_pos h, if_pos (by omega)]
    · rw [if_neg h, if_neg (by omega)]
/-- what selling changes: shelf, sold, cents of batches; parts, batches, units, number of takes; the log -/
abbrev XS : Type := (Nat → Int32) × (Nat → Int32) × (Nat → Int32) × (Nat → Int32) × (Nat → Int32) × (Nat → Int32) × Nat × XL
def xsell1 (day : Int32) (n : Nat) (q : XS) (b : Nat) (u c : Int32) : XS :=
  (upd q.1 b (q.1 b - u), upd q.2.1 b (q.2.1 b + u), upd q.2.2.1 b (q.2.2.1 b + c), upd q.2.2.2.1 (n - 1) (q.2.2.2.1 (n - 1) + nI 1), upd q.2.2.2.2.1 q.2.2.2.2.2.2.1 (nI b), upd q.2.2.2.2.2.1 q.2.2.2.2.2.2.1 u, q.2.2.2.2.2.2.1 + 1, xlog q.2.2.2.2.2.2.2 (nI 1) (nI b) u day)
def xsell (day : Int32) (n : Nat) (fb fu fc : Nat → Int32) (q0 : XS) : Nat → XS
  | 0 => q0
  | k + 1 => xsell1 day n (xsell day n fb fu fc q0 k) (fb k).toNatClampNeg (fu k) (fc k)
/-- a contract of a method of the JDK that no entry runs instead -/
theorem xofWF {l : Launch} {y : MethodName} {ws ws' : List Cond} {rm : Room} {Pc : Array Value → State → Prop} {Qc : Array Value → State → Outcome → State → Prop} {mc ms : Nat} {free : Addr → Prop} {cc : ByteArray} {maxL : Nat} {ret : Option FieldType}
    (hy : plainFor y = true) (hw : ws = Cond.code y cc maxL ret :: ws')
    (body : ∀ p e s m args below meth c s₁, BodyLoose p l y (headSpec ws rm) cc maxL ret e s m args below meth c s₁ → c.maxLocals = maxL → Pc args s →
      W p l e (headSpec ws rm).room s m args below meth c s.heap [] 0 0 (MQ below Qc args s mc ms free) (entryFrame m args maxL)) : Met l y ws rm Pc Qc mc ms free := by
  refine MetFree.of_bodySF (code := cc) (maxLocals := maxL) (ret := ret) hy ?_ ?_
  · intro args s m h hn
    obtain ⟨meth, c, h1, h2, h3, h4, h5, h6, -, -⟩ := Cond.code_spec hn (atoms_spec (ws := ws) h _ (by rw [hw]; exact List.mem_cons_self))
    exact ⟨meth, c, h1, h2, h3, h4, h5, h6⟩
  · intro p e s m args below meth c s₁ B hml hP _
    have hh0 : s₁.heap = s.heap := by rw [B.state]; rfl
    obtain ⟨t, a1, o, b1, b2, b3⟩ := body p e s m args below meth c s₁ B hml hP s₁ hh0 (Stand.of_body B)
    exact ⟨t, o, a1, b1, b2, ⟨b3.1, b3.2⟩⟩
section LDW
variable {p : Program} {l : Launch} {e : Env} {R : Room} {s : State} {m : MethodId} {args : Array Value} {below : List Frame} {meth : Method} {c : Code} {H : Heap} {locs : List Loc} {cells slots : Nat} {Q : State → Prop} {pc : Nat} {ls : Array Slot} {rest : List Value} {cc : ByteArray}
theorem lv_ldcwf (hexec : p.tables.exec = Jvm.exec) (hb : c.code = cc) {own : String} {index : Nat} {v : UInt32} (hown : s.vm.findClass own = some m.cls) (hconst : (Jvm.Cond.constantFloat own index v).before args s = true) (hdg : decode cc pc = .ok (.ldc_w index, 3)) (k : W p l e R s m args below meth c H locs cells slots Q (F0 m (pc + 3) ls (.float v :: rest))) : W p l e R s m args below meth c H locs cells slots Q (F0 m pc ls rest) := by
  intro T hT X
  obtain ⟨t, a, b⟩ := k T hT X
  refine ⟨t, ?_, b⟩
  obtain ⟨kC, cf, hk, hcf, hcp⟩ := Cond.constantFloat_spec hown hconst
  obtain ⟨k', hk', he⟩ := X.warmed.alike.2.2 _ _ hk
  have hdg' : decode c.code (F0 m pc ls rest).pc = .ok (.ldc_w index, 3) := by rw [hb]; exact hdg
  jvm_step X.here [hexec, hdg', ldc_w.wp_float (s := T) (f := F0 m pc ls rest) X.here.top hk' (by rw [he]; exact hcf) hcp]
  exact a
end LDW
/-- a number of something of which there are n -/
abbrev xhas (v : Int32) (n : Nat) : Prop := 0 ≤ v.toInt ∧ v.toInt < (n : Int)
theorem xhas_nI {v : Int32} {n : Nat} (h : xhas v n) : ∃ k, k < n ∧ v = nI k := by
  have hv := v.toInt_lt
  refine ⟨v.toInt.toNat, by have := h.1; have := h.2; omega, Int32.toInt_inj.mp ?_⟩
  rw [nI_toInt (by have := h.1; omega)]
  have := h.1
  omega
theorem xhas_of {k n : Nat} (h : k < n) (hn : n < 2 ^ 31) : xhas (nI k) n := by
  unfold xhas
  rw [nI_toInt (by omega)]
  omega
theorem xhas_iff {v : Int32} {n : Nat} (hn : n < 2 ^ 31) : (nI 0 ≤ v ∧ v ≤ nI n - nI 1) ↔ xhas v n := by
  unfold xhas
  by_cases h0 : n = 0
  · subst h0
    have e : (nI 0 - nI 1).toInt = -1 := by decide
    rw [Int32.le_iff_toInt_le, Int32.le_iff_toInt_le, e, nI_toInt (by decide)]
    omega
  · rw [nI_sub (by omega), Int32.le_iff_toInt_le, Int32.le_iff_toInt_le, nI_toInt (by decide), nI_toInt (by omega)]
    omega
theorem xhas_iff4 (v : Int32) : (nI 0 ≤ v ∧ v ≤ nI 3) ↔ xhas v 4 := xhas_iff (n := 4) (by decide)
def xisset (what v : Int32) : Int32 := if what = nI 0 then (if nI 0 ≤ v ∧ v ≤ nI 2 then nI 1 else nI 0) else if what = nI 1 then (if nI 1 ≤ v ∧ v ≤ nI 4 then nI 1 else nI 0) else if what = nI 2 then (if nI 0 ≤ v ∧ v ≤ nI 999 then nI 1 else nI 0) else nI 0
def xplerr (g v : Int32) (gz : Nat) (listed : Nat → Int32) : Int32 := if ¬ xhas g gz then -1 else if v < 0 then -2 else if listed g.toNatClampNeg ≤ v then -5 else nI 0
def xwisherr (g un le : Int32) (gz : Nat) : Int32 := if ¬ xhas g gz then -1 else if ¬ ((nI 1 ≤ un ∧ un ≤ nI 999) ∧ nI 0 ≤ le ∧ le ≤ nI 60) then -2 else nI 0
/-- the world behind a writing call: at the callee's places what it left there, at the others what they held -/
def xfind (k : Nat) (c : Nat × va_E) : List (Nat × (Nat × va_E)) → Nat × va_E
  | [] => c
  | x :: al => cond (Nat.beq x.1 k) x.2 (xfind k c al)
def xupd (al : List (Nat × (Nat × va_E))) : List Nat → va_W → va_W
  | k :: ks, c :: cs => xfind k c al :: xupd al ks cs
  | _, _ => []
theorem xfind_spec (k : Nat) (c : Nat × va_E) : ∀ al : List (Nat × (Nat × va_E)), (k, xfind k c al) ∈ al ∨ ((∀ x, (k, x) ∉ al) ∧ xfind k c al = c)
  | [] => Or.inr ⟨fun _ => List.not_mem_nil, rfl⟩
  | x :: al => by
    unfold xfind
    cases hb : Nat.beq x.1 k with
    | true =>
      have e : x.1 = k := Nat.eq_of_beq_eq_true hb
      refine Or.inl ?_
      show (k, x.2) ∈ x :: al
      rw [← e]
      exact List.mem_cons_self
    | false =>
      have e : ¬ x.1 = k := Nat.ne_of_beq_eq_false hb
      rcases xfind_spec k c al with h | ⟨h1, h2⟩
      · exact Or.inl (List.mem_cons_of_mem _ h)
      · refine Or.inr ⟨fun y hy => ?_, h2⟩
        rcases List.mem_cons.mp hy with q | q
        · exact e (by rw [← q])
        · exact h1 y q
theorem xupd_get (al : List (Nat × (Nat × va_E))) : ∀ (ks : List Nat) (W : va_W) (j : Nat), ks.length = W.length → (xupd al ks W)[j]? = (W[j]?).bind (fun c => (ks[j]?).map (fun k => xfind k c al))
  | [], [], j, _ => by simp [xupd]
  | [], _ :: _, _, h => by simp at h
  | _ :: _, [], _, h => by simp at h
  | k :: ks, c :: cs, 0, _ => by simp [xupd]
  | k :: ks, c :: cs, j + 1, h => by
    have := xupd_get al ks cs j (by simpa using h)
    simpa [xupd] using this
theorem xset_P2 {A : Nat → Prop} {D : va_G} {cl : List vw_C} {W wc w1 : va_W} {H H1 : Heap} {is ks : List Nat} (hP : va_P D cl W H) (hD : va_D A W) (hsub : is.map (fun i => W[i]?) = wc.map some) (hadr : wc.map Prod.fst = w1.map Prod.fst)
    (hk : ∀ q : Nat, q < H.size → ¬ va_B wc q → H1[q]? = H[q]?) (hP1 : va_P D cl w1 H1) (hks : ks = List.range W.length) :
    va_P D cl (xupd (is.zip w1) ks W) H1 ∧ va_D A (xupd (is.zip w1) ks W) := by
  have hlen : w1.length = is.length := by
    have a := congrArg List.length hsub
    have b := congrArg List.length hadr
    simp at a b
    omega
  have at1 : ∀ (k : Nat) (q : Nat × va_E), (xupd (is.zip w1) ks W)[k]? = some q → (∃ j : Nat, w1[j]? = some q ∧ is[j]? = some k) ∨ (k ∉ is ∧ W[k]? = some q) := by
    intro k q hq
    rw [xupd_get _ ks W k (by rw [hks]; simp)] at hq
    cases hw : W[k]? with
    | none => rw [hw] at hq; cases hq
    | some c =>
      have hlt : k < W.length := (List.getElem?_eq_some_iff.mp hw).1
      have hkk : ks[k]? = some k := by rw [hks]; simp [hlt]
      rw [hw] at hq
      simp only [Option.bind_some, hkk, Option.map_some, Option.some.injEq] at hq
      rcases xfind_spec k c (is.zip w1) with h | ⟨h1, h2⟩
      · obtain ⟨j, hj⟩ := List.getElem?_of_mem h
        rw [hq] at hj
        have := List.getElem?_zip_eq_some.mp hj
        exact Or.inl ⟨j, this.2, this.1⟩
      · refine Or.inr ⟨fun hm => ?_, by rw [← hq, h2]⟩
        obtain ⟨j, hj⟩ := List.getElem?_of_mem hm
        have hjl : j < w1.length := by rw [hlen]; exact (List.getElem?_eq_some_iff.mp hj).1
        exact h1 (w1[j]) (List.mem_of_getElem? (i := j) (List.getElem?_zip_eq_some.mpr ⟨hj, List.getElem?_eq_getElem hjl⟩))
  have adr : ∀ (k : Nat) (q : Nat × va_E), (xupd (is.zip w1) ks W)[k]? = some q → ∃ e, W[k]? = some (q.1, e) := by
    intro k q hq
    rcases at1 k q hq with ⟨j, h3, h4⟩ | ⟨-, h3⟩
    · have a := congrArg (fun l => l[j]?) hadr
      simp only [List.getElem?_map, h3, Option.map_some] at a
      cases hw : wc[j]? with
      | none => rw [hw] at a; cases a
      | some x =>
        rw [hw] at a
        have b := congrArg (fun l => l[j]?) hsub
        simp only [List.getElem?_map, h4, Option.map_some, hw] at b
        have e1 : x.1 = q.1 := by simpa using a
        exact ⟨x.2, by rw [← e1]; simpa using b⟩
    · exact ⟨q.2, h3⟩
  refine ⟨fun k q hq => ?_, ⟨fun i j p q hp hq hpq => ?_, fun k q hq => ?_⟩⟩
  · rcases at1 k q hq with ⟨j, h3, -⟩ | ⟨hni, h3⟩
    · exact hP1 j q h3
    · refine (hP k q h3).kept (hk q.1 (hP k q h3).lt ?_)
      rintro ⟨j, e, hj⟩
      have b := congrArg (fun l => l[j]?) hsub
      simp only [List.getElem?_map, hj, Option.map_some] at b
      cases hi : is[j]? with
      | none => rw [hi] at b; cases b
      | some i =>
        rw [hi] at b
        have b2 : W[i]? = some (q.1, e) := by simpa using b
        have c := hD.1 k i q (q.1, e) h3 b2 rfl
        subst c
        exact hni (List.mem_of_getElem? hi)
  · obtain ⟨e1, a1⟩ := adr i p hp
    obtain ⟨e2, a2⟩ := adr j q hq
    exact hD.1 i j _ _ a1 a2 hpq
  · obtain ⟨e1, a1⟩ := adr k q hq
    exact hD.2 k (q.1, e1) a1
section XK2
variable {p : Program} {l : Launch} {e : Env} {R : Room} {s : State} {m : MethodId} {args : Array Value} {below : List Frame} {meth : Method} {c : Code} {H : Heap} {locs : List Loc} {cells slots : Nat} {Q : State → Prop} {pc : Nat} {ls : Array Slot} {rest : List Value} {cc : ByteArray}
variable {D : va_G} {cl : List vw_C} {A : Nat → Prop} {H0 : Heap} {st0 : List Value} {av : Array Value}
theorem xkV2 {wc w1 W0 : va_W} (hr : va_Run p l e R s m args below meth c H locs cells slots 0 0 (F0 m pc ls st0) rest (xWv D cl wc (fun w => w = w1) av) (va_B wc)) (hP : va_P D cl W0 H) (hD : va_D A W0) (hS : va_S A H0 H locs) (is ks : List Nat) (hsub : is.map (fun i => W0[i]?) = wc.map some) (hadr : wc.map Prod.fst = w1.map Prod.fst)
    (n : Nat) (hn0 : W0.length = n) (hks : ks = List.range n)
    (kk : ∀ (H1 : Heap) (locs1 : List Loc), va_P D cl (xupd (is.zip w1) ks W0) H1 → va_D A (xupd (is.zip w1) ks W0) → va_S A H0 H1 locs1 → W p l e R s m args below meth c H1 locs1 cells slots Q (F0 m (pc + 3) ls rest)) : W p l e R s m args below meth c H locs cells slots Q (F0 m pc ls st0) := by
  have hB : ∀ q, va_B wc q → A q := by
    rintro q ⟨k, e, hk⟩
    have a := congrArg (fun l => l[k]?) hsub
    simp only [List.getElem?_map, hk, Option.map_some] at a
    cases hi : is[k]? with
    | none => rw [hi] at a; cases a
    | some i => rw [hi] at a; exact hD.2 i (q, e) (by simpa using a)
  intro T hT X
  obtain ⟨v, st₀, t, T', L, h0, X', hL, e1, e2, ⟨⟨w, hv, hp, hP1⟩, hz, hk⟩, st⟩ := hr T hT X
  cases hv
  cases hp
  rw [h0] at hz hk
  rw [← e1] at hz hk hP1
  obtain ⟨hPn, hDn⟩ := xset_P2 hP hD hsub hadr hk hP1 (hks.trans (by rw [hn0]))
  obtain ⟨t2, a1, b1⟩ := kk T'.heap (locs ++ L) hPn hDn
    ⟨Nat.le_trans hS.1 hz, fun q h1 h2 => by rw [hk q (Nat.lt_of_lt_of_le h1 hS.1) (fun z => h2 (hB q z))]; exact hS.2.1 q h1 h2, fun q hq => by
      rcases List.mem_append.mp hq with h | h
      · exact hS.2.2 q h
      · exact hB _ (hL q h)⟩ T' rfl X'
  exact ⟨t2, st t2 a1, b1⟩
theorem xkI2 {wc w1 W0 : va_W} {x : Int32} (hr : va_Run p l e R s m args below meth c H locs cells slots 0 0 (F0 m pc ls st0) rest (xWi D cl wc (fun r w => r = x ∧ w = w1) av) (va_B wc)) (hP : va_P D cl W0 H) (hD : va_D A W0) (hS : va_S A H0 H locs) (is ks : List Nat) (hsub : is.map (fun i => W0[i]?) = wc.map some) (hadr : wc.map Prod.fst = w1.map Prod.fst)
    (n : Nat) (hn0 : W0.length = n) (hks : ks = List.range n)
    (kk : ∀ (H1 : Heap) (locs1 : List Loc), va_P D cl (xupd (is.zip w1) ks W0) H1 → va_D A (xupd (is.zip w1) ks W0) → va_S A H0 H1 locs1 → W p l e R s m args below meth c H1 locs1 cells slots Q (F0 m (pc + 3) ls (.int x :: rest))) : W p l e R s m args below meth c H locs cells slots Q (F0 m pc ls st0) := by
  have hB : ∀ q, va_B wc q → A q := by
    rintro q ⟨k, e, hk⟩
    have a := congrArg (fun l => l[k]?) hsub
    simp only [List.getElem?_map, hk, Option.map_some] at a
    cases hi : is[k]? with
    | none => rw [hi] at a; cases a
    | some i => rw [hi] at a; exact hD.2 i (q, e) (by simpa using a)
  intro T hT X
  obtain ⟨v, st₀, t, T', L, h0, X', hL, e1, e2, ⟨⟨r, w, hv, hp, hP1⟩, hz, hk⟩, st⟩ := hr T hT X
  cases hv
  obtain ⟨rfl, rfl⟩ := hp
  rw [h0] at hz hk
  rw [← e1] at hz hk hP1
  obtain ⟨hPn, hDn⟩ := xset_P2 hP hD hsub hadr hk hP1 (hks.trans (by rw [hn0]))
  obtain ⟨t2, a1, b1⟩ := kk T'.heap (locs ++ L) hPn hDn
    ⟨Nat.le_trans hS.1 hz, fun q h1 h2 => by rw [hk q (Nat.lt_of_lt_of_le h1 hS.1) (fun z => h2 (hB q z))]; exact hS.2.1 q h1 h2, fun q hq => by
      rcases List.mem_append.mp hq with h | h
      · exact hS.2.2 q h
      · exact hB _ (hL q h)⟩ T' rfl X'
  exact ⟨t2, st t2 a1, b1⟩
end XK2
