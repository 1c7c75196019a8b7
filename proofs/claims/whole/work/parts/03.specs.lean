/-! What the methods answer, in plain functions. -/
def xfmod (a b : Int32) : Int32 := if (a ^^^ b) < 0 then (if a - a / b * b = 0 then a - a / b * b else a - a / b * b + b) else a - a / b * b
def xsum (f : Nat → Int32) : Nat → Int32
  | 0 => nI 0
  | k + 1 => xsum f k + f k
def xsumIf (g : Nat → Int32) (w : Int32) (f : Nat → Int32) : Nat → Int32
  | 0 => nI 0
  | k + 1 => if g k = w then xsumIf g w f k + f k else xsumIf g w f k
def xcnt (g : Nat → Int32) (w : Int32) : Nat → Int32
  | 0 => nI 0
  | k + 1 => if g k = w then xcnt g w k + nI 1 else xcnt g w k
def xage (shelf left : Nat → Int32) (n : Nat) : Nat → Int32 := fun b => if b < n ∧ ¬ shelf b ≤ 0 then left b - nI 1 else left b
theorem xage_0 (shelf left : Nat → Int32) : left = xage shelf left 0 := by
  funext b
  unfold xage
  rw [if_neg (by omega)]
theorem xage_1 {shelf left : Nat → Int32} {k : Nat} (h : ¬ shelf k ≤ 0) : upd (xage shelf left k) k (xage shelf left k k - nI 1) = xage shelf left (k + 1) := by
  funext b
  unfold xage upd
  by_cases e : b = k
  · subst e
    rw [if_pos rfl, if_neg (by omega), if_pos ⟨by omega, h⟩]
  · rw [if_neg e]
    show (if b < k ∧ ¬ shelf b ≤ 0 then left b - nI 1 else left b) = _
    by_cases h2 : b < k ∧ ¬ shelf b ≤ 0
    · rw [if_pos h2, if_pos ⟨by omega, h2.2⟩]
    · rw [if_neg h2, if_neg (fun q => h2 ⟨by omega, q.2⟩)]
theorem xage_2 {shelf left : Nat → Int32} {k : Nat} (h : shelf k ≤ 0) : xage shelf left k = xage shelf left (k + 1) := by
  funext b
  unfold xage
  by_cases h2 : b < k ∧ ¬ shelf b ≤ 0
  · rw [if_pos h2, if_pos ⟨by omega, h2.2⟩]
  · rw [if_neg h2, if_neg]
    intro q
    by_cases e : b = k
    · subst e; exact q.2 h
    · exact h2 ⟨by omega, q.2⟩
/-- a list's row (base b, n entries) with sb put in at place pl -/
def xins (f : Nat → Int32) (b n pl : Nat) (sb : Int32) : Nat → Int32 := fun k => if k = b + pl then sb else if b + pl < k ∧ k ≤ b + n then f (k - 1) else f k
def xshr (f : Nat → Int32) (b n j : Nat) : Nat → Int32 := fun k => if b + j < k ∧ k ≤ b + n then f (k - 1) else f k
theorem xshr_0 (f : Nat → Int32) (b n : Nat) : f = xshr f b n n := by
  funext k
  unfold xshr
  rw [if_neg (by omega)]
theorem xshr_1 {f : Nat → Int32} {b n k : Nat} (h : 0 < k) (hk : k ≤ n) : upd (xshr f b n k) (b + k) (xshr f b n k (b + k - 1)) = xshr f b n (k - 1) := by
  funext j
  unfold upd xshr
  by_cases e : j = b + k
  · subst e
    rw [if_pos rfl, if_neg (by omega), if_pos (by omega)]
  · rw [if_neg e]
    by_cases h2 : b + k < j ∧ j ≤ b + n
    · rw [if_pos h2, if_pos (by omega)]
    · rw [if_neg h2, if_neg (by omega)]
theorem xshr_ins {f : Nat → Int32} {b n pl : Nat} (h : pl ≤ n) {sb : Int32} : upd (xshr f b n pl) (b + pl) sb = xins f b n pl sb := by
  funext j
  unfold upd xshr xins
  rfl
/-- entries from place a on to place e moved one down -/
def xshl (f : Nat → Int32) (b a e : Nat) : Nat → Int32 := fun k => if b + a ≤ k ∧ k < b + e then f (k + 1) else f k
theorem xshl_0 (f : Nat → Int32) (b a : Nat) : f = xshl f b a a := by
  funext k
  unfold xshl
  rw [if_neg (by omega)]
theorem xshl_1 {f : Nat → Int32} {b a k : Nat} (h : a ≤ k) : upd (xshl f b a k) (b + k) (xshl f b a k (b + k + 1)) = xshl f b a (k + 1) := by
  funext j
  unfold upd xshl
  by_cases e : j = b + k
  · subst e
    rw [if_pos rfl, if_neg (by omega), if_pos (by omega)]
  · rw [if_neg e]
    by_cases h2 : b + a ≤ j ∧ j < b + k
    · rw [if_pos h2, if_pos (by omega)]
    · rw [if_neg h2, if_neg (by omega)]
theorem xfmod_place {nx bk : Nat} (h1 : nx < 10) (h2 : bk < 10) : xfmod ((nI nx - nI 1) - nI bk) (nI 10) = nI ((nx + 9 - bk) % 10) := by
  have key : ∀ a, a < 10 → ∀ b, b < 10 → xfmod ((nI a - nI 1) - nI b) (nI 10) = nI ((a + 9 - b) % 10) := by decide +kernel
  exact key nx h1 bk h2
theorem xupd4 (f g : Nat → Int32) : ∀ k, k < 4 → upd (upd (upd (upd f 0 (g 0)) 1 (g 1)) 2 (g 2)) 3 (g 3) k = g k := by
  intro k hk
  rcases (show k = 0 ∨ k = 1 ∨ k = 2 ∨ k = 3 by omega) with rfl | rfl | rfl | rfl <;> rfl
theorem xupd4f (f g : Nat → UInt32) : ∀ k, k < 4 → vf_upd (vf_upd (vf_upd (vf_upd f 0 (g 0)) 1 (g 1)) 2 (g 2)) 3 (g 3) k = g k := by
  intro k hk
  rcases (show k = 0 ∨ k = 1 ∨ k = 2 ∨ k = 3 by omega) with rfl | rfl | rfl | rfl <;> rfl
/-- the stage that so many days left of a life reach, by the shares of the stages 1 to 3 -/
def xreach (s1 s2 s3 dl lf : Int32) : Nat := if s3 * lf < dl * nI 100 then (if s2 * lf < dl * nI 100 then (if s1 * lf < dl * nI 100 then 0 else 1) else 2) else 3
/-- the first n entries are indexes below N -/
def xidx (f : Nat → Int32) (N n : Nat) : Prop := ∀ b, b < n → (f b).toNatClampNeg < N ∧ f b = nI (f b).toNatClampNeg
def xstg (share left life good : Nat → Int32) (b : Nat) : Nat := xreach (share 1) (share 2) (share 3) (left b) (life (good b).toNatClampNeg)
theorem xreach_lt (s1 s2 s3 dl lf : Int32) : xreach s1 s2 s3 dl lf < 4 := by
  unfold xreach
  split
  · split
    · split <;> decide
    · decide
  · decide
theorem xstg_lt (share left life good : Nat → Int32) (b : Nat) : xstg share left life good b < 4 := xreach_lt _ _ _ _ _
/-- a markdown with which no price is without a number -/
def xmd (md : UInt32) : Prop := vf_n32 (FP.fdiv md 1120403456) ∧ vf_n32 (FP.fsub FP.fconst1 (FP.fdiv md 1120403456)) ∧ ∀ p : Int32, vf_n32 (FP.fmul (FP.i2f p) (FP.fsub FP.fconst1 (FP.fdiv md 1120403456)))
def xprice (p : Int32) (md : UInt32) : UInt32 := FP.fmul (FP.i2f p) (FP.fsub FP.fconst1 (FP.fdiv md 1120403456))
def xcntP (P : Nat → Bool) : Nat → Int32
  | 0 => nI 0
  | k + 1 => if P k = true then xcntP P k + nI 1 else xcntP P k
def xsumP (P : Nat → Bool) (f : Nat → Int32) : Nat → Int32
  | 0 => nI 0
  | k + 1 => if P k = true then xsumP P f k + f k else xsumP P f k
/-- the log: size, next place, its four rows -/
abbrev XL : Type := Nat × Nat × (Nat → Int32) × (Nat → Int32) × (Nat → Int32) × (Nat → Int32)
def xlog (L : XL) (k b u d : Int32) : XL := (min (L.1 + 1) 10, (L.2.1 + 1) % 10, upd L.2.2.1 L.2.1 k, upd L.2.2.2.1 L.2.1 b, upd L.2.2.2.2.1 L.2.1 u, upd L.2.2.2.2.2 L.2.1 d)
/-- a shelf, a row that it goes to, the log -/
abbrev XW : Type := (Nat → Int32) × (Nat → Int32) × XL
def xww (kd : Int32) (q : XW) (b : Nat) (u d : Int32) : XW := (upd q.1 b (q.1 b - u), upd q.2.1 b (q.2.1 b + u), xlog q.2.2 kd (nI b) u d)
def xwg (good : Nat → Int32) (w day : Int32) (q0 : XW) : Nat → XW
  | 0 => q0
  | k + 1 => if good k = w ∧ ¬ (xwg good w day q0 k).1 k ≤ 0 then xww (nI 3) (xwg good w day q0 k) k ((xwg good w day q0 k).1 k) day else xwg good w day q0 k
theorem xwg_1 {good : Nat → Int32} {w day : Int32} {q0 q : XW} {k : Nat} (hq : q = xwg good w day q0 k) (h1 : good k = w) (h2 : ¬ q.1 k ≤ 0) : xww (nI 3) q k (q.1 k) day = xwg good w day q0 (k + 1) := by
  subst hq
  exact (if_pos ⟨h1, h2⟩).symm
theorem xwg_2 {good : Nat → Int32} {w day : Int32} {q0 q : XW} {k : Nat} (hq : q = xwg good w day q0 k) (h : ¬ (good k = w ∧ ¬ q.1 k ≤ 0)) : q = xwg good w day q0 (k + 1) := by
  subst hq
  exact (if_neg h).symm
def xexp (left : Nat → Int32) (day : Int32) (q0 : XW) : Nat → Int32 × XW
  | 0 => (nI 0, q0)
  | k + 1 => if ¬ (xexp left day q0 k).2.1 k ≤ 0 ∧ ¬ 0 < left k then ((xexp left day q0 k).1 + (xexp left day q0 k).2.1 k, xww (nI 3) (xexp left day q0 k).2 k ((xexp left day q0 k).2.1 k) day) else xexp left day q0 k
theorem xexp_1 {left : Nat → Int32} {day : Int32} {q0 : XW} {q : Int32 × XW} {k : Nat} (hq : q = xexp left day q0 k) (h1 : ¬ q.2.1 k ≤ 0) (h2 : ¬ 0 < left k) : (q.1 + q.2.1 k, xww (nI 3) q.2 k (q.2.1 k) day) = xexp left day q0 (k + 1) := by
  subst hq
  exact (if_pos ⟨h1, h2⟩).symm
theorem xexp_2 {left : Nat → Int32} {day : Int32} {q0 : XW} {q : Int32 × XW} {k : Nat} (hq : q = xexp left day q0 k) (h : ¬ (¬ q.2.1 k ≤ 0 ∧ ¬ 0 < left k)) : q = xexp left day q0 (k + 1) := by
  subst hq
  exact (if_neg h).symm
theorem xww_log {kd : Int32} {q : XW} {b : Nat} {u d : Int32} : (xww kd q b u d).2.2.1 ≤ 10 ∧ (xww kd q b u d).2.2.2.1 < 10 := ⟨Nat.min_le_right _ _, Nat.mod_lt _ (by decide)⟩
theorem xexp_log {left : Nat → Int32} {day : Int32} {q0 : XW} {ex : Int32 × XW} {n : Nat} (h : ex = xexp left day q0 n) (hL : q0.2.2.1 ≤ 10 ∧ q0.2.2.2.1 < 10) : ex.2.2.2.1 ≤ 10 ∧ ex.2.2.2.2.1 < 10 := by
  subst h
  induction n with
  | zero => exact hL
  | succ k ih =>
    show (ite _ _ _ : Int32 × XW).2.2.2.1 ≤ 10 ∧ (ite _ _ _ : Int32 × XW).2.2.2.2.1 < 10
    split
    · exact xww_log
    · exact ih
def xdon (stg : Nat → Nat) (dst day : Int32) (q0 : Int32 × XW) : Nat → Int32 × XW
  | 0 => q0
  | k + 1 => if ¬ (xdon stg dst day q0 k).1 ≤ 0 ∧ ¬ (xdon stg dst day q0 k).2.1 k ≤ 0 ∧ ¬ nI (stg k) < dst then
      ((xdon stg dst day q0 k).1 - (if (xdon stg dst day q0 k).1 < (xdon stg dst day q0 k).2.1 k then (xdon stg dst day q0 k).1 else (xdon stg dst day q0 k).2.1 k), xww (nI 2) (xdon stg dst day q0 k).2 k (if (xdon stg dst day q0 k).1 < (xdon stg dst day q0 k).2.1 k then (xdon stg dst day q0 k).1 else (xdon stg dst day q0 k).2.1 k) day)
    else xdon stg dst day q0 k
theorem xdon_1 {stg : Nat → Nat} {dst day : Int32} {q0 q : Int32 × XW} {k : Nat} (hq : q = xdon stg dst day q0 k) (h1 : ¬ q.1 ≤ 0) (h2 : ¬ q.2.1 k ≤ 0) (h3 : ¬ nI (stg k) < dst) : (q.1 - (if q.1 < q.2.1 k then q.1 else q.2.1 k), xww (nI 2) q.2 k (if q.1 < q.2.1 k then q.1 else q.2.1 k) day) = xdon stg dst day q0 (k + 1) := by
  subst hq
  exact (if_pos ⟨h1, h2, h3⟩).symm
theorem xdon_2 {stg : Nat → Nat} {dst day : Int32} {q0 q : Int32 × XW} {k : Nat} (hq : q = xdon stg dst day q0 k) (h : ¬ (¬ q.1 ≤ 0 ∧ ¬ q.2.1 k ≤ 0 ∧ ¬ nI (stg k) < dst)) : q = xdon stg dst day q0 (k + 1) := by
  subst hq
  exact (if_neg h).symm
theorem xdon_stop {stg : Nat → Nat} {dst day : Int32} {q0 q : Int32 × XW} {k n : Nat} (hk : k ≤ n) (hq : q = xdon stg dst day q0 k) (c : q.1 ≤ 0) : q = xdon stg dst day q0 n := by
  obtain ⟨d, rfl⟩ := Nat.exists_eq_add_of_le hk
  clear hk
  induction d with
  | zero => exact hq
  | succ d ih => exact xdon_2 ih (fun z => z.1 c)
theorem xdon_log {stg : Nat → Nat} {dst day : Int32} {q0 dx : Int32 × XW} {n : Nat} (h : dx = xdon stg dst day q0 n) (hL : q0.2.2.2.1 ≤ 10 ∧ q0.2.2.2.2.1 < 10) : dx.2.2.2.1 ≤ 10 ∧ dx.2.2.2.2.1 < 10 := by
  subst h
  induction n with
  | zero => exact hL
  | succ k ih =>
    show (ite _ _ _ : Int32 × XW).2.2.2.1 ≤ 10 ∧ (ite _ _ _ : Int32 × XW).2.2.2.2.1 < 10
    split
    · exact xww_log
    · exact ih
/-- expired, the day, days left, the shelf, wasted by expiring, given, the log -/
abbrev XP : Type := Int32 × Int32 × (Nat → Int32) × (Nat → Int32) × (Nat → Int32) × (Nat → Int32) × XL
def xdayE (n : Nat) (q : XP) : Int32 × XW := xexp (xage q.2.2.2.1 q.2.2.1 n) (q.2.1 + nI 1) (q.2.2.2.1, q.2.2.2.2.1, q.2.2.2.2.2.2) n
def xdayD (n : Nat) (good life share : Nat → Int32) (dst mx : Int32) (q : XP) : Int32 × XW := xdon (xstg share (xage q.2.2.2.1 q.2.2.1 n) life good) dst (q.2.1 + nI 1) (mx, (xdayE n q).2.1, q.2.2.2.2.2.1, (xdayE n q).2.2.2) n
def xday (n : Nat) (good life share : Nat → Int32) (dst mx : Int32) (q : XP) : XP := (q.1 + (xdayE n q).1, q.2.1 + nI 1, xage q.2.2.2.1 q.2.2.1 n, (xdayD n good life share dst mx q).2.1, (xdayE n q).2.2.1, (xdayD n good life share dst mx q).2.2.1, (xdayD n good life share dst mx q).2.2.2)
def xpass (n : Nat) (good life share : Nat → Int32) (dst mx : Int32) (q0 : XP) : Nat → XP
  | 0 => q0
  | k + 1 => xday n good life share dst mx (xpass n good life share dst mx q0 k)
theorem xpass_1 {n : Nat} {good life share : Nat → Int32} {dst mx : Int32} {q0 q : XP} {k : Nat} {ex dx : Int32 × XW} (hq : q = xpass n good life share dst mx q0 k) (hex : ex = xexp (xage q.2.2.2.1 q.2.2.1 n) (q.2.1 + nI 1) (q.2.2.2.1, q.2.2.2.2.1, q.2.2.2.2.2.2) n) (hdx : dx = xdon (xstg share (xage q.2.2.2.1 q.2.2.1 n) life good) dst (q.2.1 + nI 1) (mx, ex.2.1, q.2.2.2.2.2.1, ex.2.2.2) n) : (q.1 + ex.1, q.2.1 + nI 1, xage q.2.2.2.1 q.2.2.1 n, dx.2.1, ex.2.2.1, dx.2.2.1, dx.2.2.2) = xpass n good life share dst mx q0 (k + 1) := by
  subst hdx
  subst hex
  subst hq
  rfl
/-- a row of floats by their bits -/
def xfl (f : Nat → Int32) : Nat → UInt32 := fun k => (f k).toUInt32
def xf1 (x : Int32) : UInt32 := x.toUInt32
/-- what a state holds, by the number of the field: goods 0-4, batches 5-15, orders 16-29, stages 30-31, log 32-37, settings 38, rebate 39, day 40 -/
def xmk (a0 : Int32) (a1 a2 a3 a4 : Nat → Int32) (a5 : Int32) (a6 a7 a8 a9 a10 a11 a12 a13 a14 a15 : Nat → Int32) (a16 a17 : Int32) (a18 a19 a20 a21 a22 a23 a24 a25 a26 a27 a28 a29 a30 a31 : Nat → Int32) (a32 a33 : Int32) (a34 a35 a36 a37 a38 : Nat → Int32) (a39 a40 : Int32) : Nat → Nat → Int32 := fun j => match j with
  | 0 => fun _ => a0
  | 1 => a1
  | 2 => a2
  | 3 => a3
  | 4 => a4
  | 5 => fun _ => a5
  | 6 => a6
  | 7 => a7
  | 8 => a8
  | 9 => a9
  | 10 => a10
  | 11 => a11
  | 12 => a12
  | 13 => a13
  | 14 => a14
  | 15 => a15
  | 16 => fun _ => a16
  | 17 => fun _ => a17
  | 18 => a18
  | 19 => a19
  | 20 => a20
  | 21 => a21
  | 22 => a22
  | 23 => a23
  | 24 => a24
  | 25 => a25
  | 26 => a26
  | 27 => a27
  | 28 => a28
  | 29 => a29
  | 30 => a30
  | 31 => a31
  | 32 => fun _ => a32
  | 33 => fun _ => a33
  | 34 => a34
  | 35 => a35
  | 36 => a36
  | 37 => a37
  | 38 => a38
  | 39 => fun _ => a39
  | _ => fun _ => a40
def xupS (S : Nat → Nat → Nat → Int32) (t : Nat) (T : Nat → Nat → Int32) : Nat → Nat → Nat → Int32 := fun i => if i = t then T else S i
abbrev xopen (good left rest : Nat → Int32) (le w : Int32) (b : Nat) : Prop := good b = w ∧ ¬ rest b ≤ 0 ∧ ¬ left b < le
abbrev xbefore (rule : Int32) (left : Nat → Int32) (pric : Nat → UInt32) (o f : Nat) : Prop := if rule = nI 1 then left f < left o else if rule = nI 2 then Op.cmpValue (FP.fcmp (pric o) (pric f)) .g < 0 else left o < left f
def xon (o : Option Nat) : Int32 := match o with
  | none => -1
  | some b => nI b
/-- the first open batch by the rule, among the first so many -/
def xpick (bf : Nat → Nat → Bool) (k : Nat) (o : Option Nat) : Option Nat := match o with
  | none => some k
  | some f => if bf k f = true then some k else some f
def xnb (P : Nat → Bool) (bf : Nat → Nat → Bool) : Nat → Option Nat
  | 0 => none
  | k + 1 => if P k = true then xpick bf k (xnb P bf k) else xnb P bf k
theorem xnb_0 {P : Nat → Bool} {bf : Nat → Nat → Bool} {k : Nat} {o : Option Nat} (h : o = xnb P bf k) (hp : P k = false) : o = xnb P bf (k + 1) := by
  rw [h]
  exact (if_neg (by rw [hp]; decide)).symm
theorem xnb_1 {P : Nat → Bool} {bf : Nat → Nat → Bool} {k : Nat} (h : none = xnb P bf k) (hp : P k = true) : some k = xnb P bf (k + 1) := by
  show some k = if P k = true then xpick bf k (xnb P bf k) else xnb P bf k
  rw [if_pos hp, ← h]
  rfl
theorem xnb_2 {P : Nat → Bool} {bf : Nat → Nat → Bool} {k f : Nat} (h : some f = xnb P bf k) (hp : P k = true) (hb : bf k f = true) : some k = xnb P bf (k + 1) := by
  show some k = if P k = true then xpick bf k (xnb P bf k) else xnb P bf k
  rw [if_pos hp, ← h]
  exact (if_pos hb).symm
theorem xnb_3 {P : Nat → Bool} {bf : Nat → Nat → Bool} {k f : Nat} (h : some f = xnb P bf k) (hp : P k = true) (hb : bf k f = false) : some f = xnb P bf (k + 1) := by
  show some f = if P k = true then xpick bf k (xnb P bf k) else xnb P bf k
  rw [if_pos hp, ← h]
  exact (if_neg (by rw [hb]; decide)).symm
def xcharge (most its : Int32) (pr : UInt32) : UInt32 := if most < its ∧ 0 < Op.cmpValue (FP.fcmp pr (FP.i2f most)) .l then FP.i2f most else pr
/-- a rebate with which no due is without a number -/
def xrb (rb : UInt32) : Prop := ∀ x : Int32, vf_n32 (FP.fmul (FP.i2f x) rb) ∧ vf_n32 (FP.fdiv (FP.fmul (FP.i2f x) rb) 1120403456)
def xdue (sum : Int32) (rb : UInt32) : Int32 := sum - FP.f2i (FP.fdiv (FP.fmul (FP.i2f sum) rb) 1120403456)
