/-! What both tell: sums and counts. -/
theorem xad0 (x : Int32) : x + nI 0 = x := Int32.add_zero x
theorem eSumIf {g f z : Nat → Int32} {w : Nat} {v : Int32} : ∀ {n : Nat}, (∀ k, k < n → g k = zB z k 0 ∧ f k = zB z k w) → xsumIf g v f n = zsumIf z w v n
  | 0, _ => rfl
  | n + 1, h => by
    show (if g n = v then xsumIf g v f n + f n else xsumIf g v f n) = zsumIf z w v n + (if zB z n 0 = v then zB z n w else nI 0)
    rw [eSumIf (fun k hk => h k (by omega)), (h n (by omega)).1, (h n (by omega)).2]
    split
    · rfl
    · exact (xad0 _).symm
theorem eCntIf {g z : Nat → Int32} {v : Int32} : ∀ {n : Nat}, (∀ k, k < n → g k = zB z k 0) → xcnt g v n = zcntIf z v n
  | 0, _ => rfl
  | n + 1, h => by
    show (if g n = v then xcnt g v n + nI 1 else xcnt g v n) = zcntIf z v n + (if zB z n 0 = v then nI 1 else nI 0)
    rw [eCntIf (fun k hk => h k (by omega)), h n (by omega)]
    split
    · rfl
    · exact (xad0 _).symm
theorem eSumOf {g f z : Nat → Int32} {w : Nat} {v : Int32} (hv : v ≠ -5) : ∀ {n : Nat}, (∀ k, k < n → g k = zB z k 0 ∧ f k = zB z k w) → xsumIf g v f n = zsumOf z w v n
  | 0, _ => rfl
  | n + 1, h => by
    show (if g n = v then xsumIf g v f n + f n else xsumIf g v f n) = zsumOf z w v n + (if v = -5 ∨ zB z n 0 = v then zB z n w else nI 0)
    rw [eSumOf hv (fun k hk => h k (by omega)), (h n (by omega)).1, (h n (by omega)).2]
    by_cases hc : zB z n 0 = v
    · rw [if_pos hc, if_pos (Or.inr hc)]
    · rw [if_neg hc, if_neg (fun q => q.elim hv hc)]
      exact (xad0 _).symm
theorem eSum {f z : Nat → Int32} {w : Nat} : ∀ {n : Nat}, (∀ k, k < n → f k = zB z k w) → xsum f n = zsumOf z w (-5) n
  | 0, _ => rfl
  | n + 1, h => by
    show xsum f n + f n = zsumOf z w (-5) n + (if (-5 : Int32) = -5 ∨ zB z n 0 = -5 then zB z n w else nI 0)
    rw [eSum (fun k hk => h k (by omega)), h n (by omega), if_pos (Or.inl rfl)]
theorem eOgIf {g f z : Nat → Int32} {v : Int32} : ∀ {n : Nat}, (∀ k, k < n → g k = zO z k 0 ∧ f k = zO z k 2) → xsumIf g v f n = zogIf z v n
  | 0, _ => rfl
  | n + 1, h => by
    show (if g n = v then xsumIf g v f n + f n else xsumIf g v f n) = zogIf z v n + (if zO z n 0 = v then zO z n 2 else nI 0)
    rw [eOgIf (fun k hk => h k (by omega)), (h n (by omega)).1, (h n (by omega)).2]
    split
    · rfl
    · exact (xad0 _).symm
theorem eAllw {a b c z : Nat → Int32} : ∀ {n : Nat}, (∀ k, k < n → a k = zB z k 6 ∧ b k = zB z k 7 ∧ c k = zB z k 8) → (xsum a n + xsum b n) + xsum c n = zallw z n
  | 0, _ => rfl
  | n + 1, h => by
    show ((xsum a n + a n) + (xsum b n + b n)) + (xsum c n + c n) = zallw z n + ((zB z n 6 + zB z n 7) + zB z n 8)
    obtain ⟨e1, e2, e3⟩ := h n (by omega)
    rw [← eAllw (fun k hk => h k (by omega)), e1, e2, e3]
    ac_rfl
theorem eOpen {a b z : Nat → Int32} : ∀ {n : Nat}, (∀ k, k < n → a k = zO z k 1 ∧ b k = zO z k 2) → xsum a n - xsum b n = zoo z (nI 11) n
  | 0, _ => by
    show nI 0 - nI 0 = nI 0
    decide
  | n + 1, h => by
    show (xsum a n + a n) - (xsum b n + b n) = zoo z (nI 11) n + (if nI 11 = nI 11 then zO z n 1 - zO z n 2 else _)
    obtain ⟨e1, e2⟩ := h n (by omega)
    rw [← eOpen (fun k hk => h k (by omega)), e1, e2, if_pos rfl]
    simp only [Int32.sub_eq_add_neg, Int32.neg_add]
    ac_rfl
theorem eNone {b z : Nat → Int32} : ∀ {n : Nat}, (∀ k, k < n → b k = zO z k 2) → xcnt b 0 n = zoo z (nI 12) n
  | 0, _ => rfl
  | n + 1, h => by
    show (if b n = 0 then xcnt b 0 n + nI 1 else xcnt b 0 n) = zoo z (nI 12) n + (if nI 12 = nI 11 then _ else if nI 12 = nI 12 then (if zO z n 2 = 0 then nI 1 else nI 0) else _)
    rw [if_neg (show ¬ nI 12 = nI 11 by decide), if_pos (rfl : nI 12 = nI 12), eNone (fun k hk => h k (by omega)), h n (by omega)]
    split
    · rfl
    · exact (xad0 _).symm
theorem eDue {b z : Nat → Int32} : ∀ {n : Nat}, (∀ k, k < n → b k = zO z k 6) → xsum b n = zoo z (nI 13) n
  | 0, _ => rfl
  | n + 1, h => by
    show xsum b n + b n = zoo z (nI 13) n + (if nI 13 = nI 11 then _ else if nI 13 = nI 12 then _ else zO z n 6)
    rw [if_neg (show ¬ nI 13 = nI 11 by decide), if_neg (show ¬ nI 13 = nI 12 by decide), eDue (fun k hk => h k (by omega)), h n (by omega)]
theorem eCntS {shelf z : Nat → Int32} {st : Nat → Nat} {sn : Nat} : ∀ {n : Nat}, (∀ k, k < n → shelf k = zB z k 3 ∧ st k = zstg z k) → xcntP (fun b => decide (¬ shelf b ≤ 0 ∧ st b = sn)) n = zcntS z sn n
  | 0, _ => rfl
  | n + 1, h => by
    show (if decide (¬ shelf n ≤ 0 ∧ st n = sn) = true then xcntP (fun b => decide (¬ shelf b ≤ 0 ∧ st b = sn)) n + nI 1 else xcntP (fun b => decide (¬ shelf b ≤ 0 ∧ st b = sn)) n) = zcntS z sn n + (if ¬ zB z n 3 ≤ 0 ∧ zstg z n = sn then nI 1 else nI 0)
    rw [eCntS (fun k hk => h k (by omega)), (h n (by omega)).1, (h n (by omega)).2]
    by_cases hc : ¬ zB z n 3 ≤ 0 ∧ zstg z n = sn
    · rw [if_pos hc, if_pos (decide_eq_true hc)]
    · rw [if_neg hc, if_neg (fun q => hc (of_decide_eq_true q))]
      exact (xad0 _).symm
theorem eSumS {shelf z : Nat → Int32} {st : Nat → Nat} {sn : Nat} : ∀ {n : Nat}, (∀ k, k < n → shelf k = zB z k 3 ∧ st k = zstg z k) → xsumP (fun b => decide (¬ shelf b ≤ 0 ∧ st b = sn)) shelf n = zsumS z sn n
  | 0, _ => rfl
  | n + 1, h => by
    show (if decide (¬ shelf n ≤ 0 ∧ st n = sn) = true then xsumP (fun b => decide (¬ shelf b ≤ 0 ∧ st b = sn)) shelf n + shelf n else xsumP (fun b => decide (¬ shelf b ≤ 0 ∧ st b = sn)) shelf n) = zsumS z sn n + (if ¬ zB z n 3 ≤ 0 ∧ zstg z n = sn then zB z n 3 else nI 0)
    rw [eSumS (fun k hk => h k (by omega)), (h n (by omega)).1, (h n (by omega)).2]
    by_cases hc : ¬ zB z n 3 ≤ 0 ∧ zstg z n = sn
    · rw [if_pos hc, if_pos (decide_eq_true hc)]
    · rw [if_neg hc, if_neg (fun q => hc (of_decide_eq_true q))]
      exact (xad0 _).symm
