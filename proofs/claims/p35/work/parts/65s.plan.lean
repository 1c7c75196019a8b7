/-! What the reference plans for an order. -/
/-- planned so far: parts, units, substitutes, used batches, rows of the parts -/
abbrev ZF : Type := Nat × Int32 × Int32 × (Nat → Int32) × (Nat → Int32) × (Nat → Int32) × (Nat → Int32)
def znb (z : Nat → Int32) (le w : Int32) (bz : Nat) (us : Nat → Int32) : Option Nat := xnb (fun b => decide (zopen z us le w b)) (fun b f => decide (zsooner z b f)) bz
def ztake (z : Nat → Int32) (un : Int32) (F : ZF) (b : Nat) : Int32 := if zB z b 3 < un - F.2.1 then zB z b 3 else un - F.2.1
def zstep (z : Nat → Int32) (un w : Int32) (gk : Nat) (F : ZF) (b : Nat) : ZF := (F.1 + 1, F.2.1 + ztake z un F b, F.2.2.1 + (if w = nI gk then nI 0 else ztake z un F b), upd F.2.2.2.1 b (nI 1), upd F.2.2.2.2.1 F.1 (nI b), upd F.2.2.2.2.2.1 F.1 (ztake z un F b), upd F.2.2.2.2.2.2 F.1 (zcents z b (ztake z un F b) gk))
def ztk (z : Nat → Int32) (le un w : Int32) (gk bz : Nat) : Nat → ZF → ZF
  | 0, F => F
  | f + 1, F => match znb z le w bz F.2.2.2.1 with
    | none => F
    | some b => if un ≤ F.2.1 then F else ztk z le un w gk bz f (zstep z un w gk F b)
/-- how many are used -/
def zcu (us : Nat → Int32) : Nat → Nat
  | 0 => 0
  | k + 1 => zcu us k + (if us k = 0 then 0 else 1)
theorem zcu_le (us : Nat → Int32) : ∀ n, zcu us n ≤ n
  | 0 => Nat.le_refl _
  | k + 1 => by
    have := zcu_le us k
    show zcu us k + (if us k = 0 then 0 else 1) ≤ k + 1
    split <;> omega
theorem zcu_upd {us : Nat → Int32} {b : Nat} (h : us b = 0) : ∀ n, zcu (upd us b (nI 1)) n = zcu us n + (if b < n then 1 else 0)
  | 0 => by rw [if_neg (Nat.not_lt_zero b)]; rfl
  | k + 1 => by
    have ih := zcu_upd h k
    show zcu (upd us b (nI 1)) k + (if upd us b (nI 1) k = 0 then 0 else 1) = zcu us k + (if us k = 0 then 0 else 1) + (if b < k + 1 then 1 else 0)
    rw [ih]
    by_cases e : k = b
    · subst e
      rw [upd_at, if_neg (by decide : ¬ nI 1 = 0), if_pos h, if_neg (Nat.lt_irrefl k), if_pos (Nat.lt_succ_self k)]
    · rw [upd_ne _ _ e]
      by_cases hb : b < k
      · rw [if_pos hb, if_pos (show b < k + 1 by omega)]
        omega
      · rw [if_neg hb, if_neg (show ¬ b < k + 1 by omega)]
        omega
theorem zcu_lt {us : Nat → Int32} {b n : Nat} (h : us b = 0) (hb : b < n) : zcu us n < n := by
  have h1 := zcu_upd h n
  have h2 := zcu_le (upd us b (nI 1)) n
  rw [if_pos hb] at h1
  omega
theorem zcu_0 {us : Nat → Int32} : ∀ n, (∀ k, k < n → us k = 0) → zcu us n = 0
  | 0, _ => rfl
  | k + 1, h => by
    show zcu us k + (if us k = 0 then 0 else 1) = 0
    rw [zcu_0 k (fun j hj => h j (by omega)), if_pos (h k (by omega))]
theorem ztk_none {z : Nat → Int32} {le un w : Int32} {gk bz : Nat} {q E : ZF} (h : znb z le w bz q.2.2.2.1 = none) (hc : q.1 ≤ 40) (hq : ztk z le un w gk bz (41 - q.1) q = E) : q = E := by
  rw [← hq, show 41 - q.1 = (40 - q.1) + 1 by omega]
  unfold ztk
  rw [h]
theorem ztk_done {z : Nat → Int32} {le un w : Int32} {gk bz b : Nat} {q E : ZF} (h : znb z le w bz q.2.2.2.1 = some b) (hg : un ≤ q.2.1) (hc : q.1 ≤ 40) (hq : ztk z le un w gk bz (41 - q.1) q = E) : q = E := by
  rw [← hq, show 41 - q.1 = (40 - q.1) + 1 by omega]
  unfold ztk
  rw [h]
  exact (if_pos hg).symm
theorem ztk_some {z : Nat → Int32} {le un w : Int32} {gk bz b : Nat} {q E : ZF} (h : znb z le w bz q.2.2.2.1 = some b) (hg : ¬ un ≤ q.2.1) (hc : q.1 ≤ 40) (hq : ztk z le un w gk bz (41 - q.1) q = E) : ztk z le un w gk bz (41 - (q.1 + 1)) (zstep z un w gk q b) = E := by
  rw [← hq, show 41 - q.1 = (40 - q.1) + 1 by omega, show 41 - (q.1 + 1) = 40 - q.1 by omega]
  show _ = ztk z le un w gk bz (40 - q.1 + 1) q
  conv => rhs; unfold ztk
  rw [h]
  exact (if_neg hg).symm
theorem ztk_cu {z : Nat → Int32} {le un w : Int32} {gk bz : Nat} : ∀ (f : Nat) (F : ZF), zcu F.2.2.2.1 bz = F.1 → zcu (ztk z le un w gk bz f F).2.2.2.1 bz = (ztk z le un w gk bz f F).1
  | 0, _, h => h
  | f + 1, F, h => by
    unfold ztk
    cases hb : znb z le w bz F.2.2.2.1 with
    | none => exact h
    | some b =>
      show zcu (ite _ _ _ : ZF).2.2.2.1 bz = (ite _ _ _ : ZF).1
      split
      · exact h
      · have hlt := xnb_lt hb
        have ho := of_decide_eq_true (xnb_p hb)
        refine ztk_cu f _ ?_
        show zcu (upd F.2.2.2.1 b (nI 1)) bz = F.1 + 1
        rw [zcu_upd ho.1, if_pos hlt, h]
def zfill (us : Nat → Int32) (n : Nat) : Nat → Int32 := fun b => if b < n then nI 0 else us b
theorem zfill_0 (us : Nat → Int32) : us = zfill us 0 := by
  funext b
  exact (if_neg (Nat.not_lt_zero b)).symm
theorem zfill_1 (us : Nat → Int32) (k : Nat) : upd (zfill us k) k (nI 0) = zfill us (k + 1) := by
  funext b
  unfold upd zfill
  by_cases e : b = k
  · subst e; rw [if_pos rfl, if_pos (Nat.lt_succ_self _)]
  · rw [if_neg e]
    by_cases h : b < k
    · rw [if_pos h, if_pos (by omega)]
    · rw [if_neg h, if_neg (by omega)]
theorem zfill_cu (us : Nat → Int32) {bz : Nat} (h : bz ≤ 40) : zcu (zfill us 40) bz = 0 := zcu_0 bz fun k hk => if_pos (by omega)
def zsubs (z : Nat → Int32) (le un : Int32) (gk bz : Nat) (F : ZF) : Nat → ZF
  | 0 => F
  | k + 1 => ztk z le un (zG z gk (3 + k)) gk bz (41 - (zsubs z le un gk bz F k).1) (zsubs z le un gk bz F k)
theorem zsubs_cu {z : Nat → Int32} {le un : Int32} {gk bz : Nat} {F : ZF} (h : zcu F.2.2.2.1 bz = F.1) : ∀ k, zcu (zsubs z le un gk bz F k).2.2.2.1 bz = (zsubs z le un gk bz F k).1
  | 0 => h
  | k + 1 => ztk_cu _ _ (zsubs_cu h k)
def zplan (z : Nat → Int32) (le un sb : Int32) (gk bz lm : Nat) (us pb pu pc : Nat → Int32) : ZF := zsubs z le un gk bz (ztk z le un (nI gk) gk bz 41 (0, nI 0, nI 0, zfill us 40, pb, pu, pc)) (if sb = 0 then 0 else lm)
/-- selling: the row behind one part of the plan, and behind the first k -/
def zsold (z : Nat → Int32) (tk b : Nat) (u c : Int32) : Nat → Int32 := znote (upd (upd (upd (zadd (zadd (zadd z b 3 (-u)) b 4 u) b 9 c) (794 + 2 * tk) (nI b)) (794 + 2 * tk + 1) u) 8 (nI (tk + 1))) (nI 1) (nI b) u
def zsell (z : Nat → Int32) (tk : Nat) (pb pu pc : Nat → Int32) : Nat → Nat → Int32
  | 0 => z
  | k + 1 => zsold (zsell z tk pb pu pc k) (tk + k) (pb k).toNatClampNeg (pu k) (pc k)
theorem zsold_8 {z : Nat → Int32} {tk b : Nat} {u c : Int32} : zsold z tk b u c 8 = nI (tk + 1) := by
  unfold zsold
  rw [znote_at (by decide) (by decide), upd_at]
theorem zsell_8 {z : Nat → Int32} {tk : Nat} {pb pu pc : Nat → Int32} (h : z 8 = nI tk) : ∀ k, zsell z tk pb pu pc k 8 = nI (tk + k)
  | 0 => h
  | _ + 1 => zsold_8
/-- an order's row -/
def zord (z : Nat → Int32) (oz gk : Nat) (un le sb got sub due : Int32) (tk pm : Nat) : Nat → Int32 := upd (upd (upd (upd (upd (upd (upd (upd (upd (upd (upd z 3 (nI (oz + 1))) (494 + 10 * oz + 0) (nI gk)) (494 + 10 * oz + 1) un) (494 + 10 * oz + 2) got) (494 + 10 * oz + 3) sub) (494 + 10 * oz + 4) le) (494 + 10 * oz + 5) (if sb = 0 then nI 0 else nI 1)) (494 + 10 * oz + 6) due) (494 + 10 * oz + 7) (z 0)) (494 + 10 * oz + 8) (nI tk)) (494 + 10 * oz + 9) (nI pm)
