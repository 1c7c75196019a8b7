/-! What both tell. -/
theorem eGoodBad {wh a0 a1 a2 a3 a4 a5 a6 : Int32} (h : ¬ (nI 0 ≤ wh ∧ wh ≤ nI 6)) : tGood wh a0 a1 a2 a3 a4 a5 a6 = -2 := by
  unfold tGood
  rw [if_neg (fun q : wh = nI 0 => h (by rw [q]; decide)), if_neg (fun q : wh = nI 1 => h (by rw [q]; decide)), if_neg (fun q : wh = nI 2 => h (by rw [q]; decide)), if_neg (fun q : wh = nI 3 => h (by rw [q]; decide)), if_neg (fun q : wh = nI 4 => h (by rw [q]; decide)), if_neg (fun q : wh = nI 5 => h (by rw [q]; decide)), if_neg (fun q : wh = nI 6 => h (by rw [q]; decide))]
theorem eBatchBad {wh a0 a1 a2 a3 a4 a5 a6 a7 a8 a9 a10 a11 : Int32} (h : ¬ (nI 0 ≤ wh ∧ wh ≤ nI 11)) : tBatch wh a0 a1 a2 a3 a4 a5 a6 a7 a8 a9 a10 a11 = -2 := by
  unfold tBatch
  rw [if_neg (fun q : wh = nI 0 => h (by rw [q]; decide)), if_neg (fun q : wh = nI 1 => h (by rw [q]; decide)), if_neg (fun q : wh = nI 2 => h (by rw [q]; decide)), if_neg (fun q : wh = nI 3 => h (by rw [q]; decide)), if_neg (fun q : wh = nI 4 => h (by rw [q]; decide)), if_neg (fun q : wh = nI 5 => h (by rw [q]; decide)), if_neg (fun q : wh = nI 6 => h (by rw [q]; decide)), if_neg (fun q : wh = nI 7 => h (by rw [q]; decide)), if_neg (fun q : wh = nI 8 => h (by rw [q]; decide)), if_neg (fun q : wh = nI 9 => h (by rw [q]; decide)), if_neg (fun q : wh = nI 10 => h (by rw [q]; decide)), if_neg (fun q : wh = nI 11 => h (by rw [q]; decide))]
theorem eOrderBad {wh a0 a1 a2 a3 a4 a5 a6 a7 a8 : Int32} (h : ¬ (nI 0 ≤ wh ∧ wh ≤ nI 8)) : tOrder wh a0 a1 a2 a3 a4 a5 a6 a7 a8 = -2 := by
  unfold tOrder
  rw [if_neg (fun q : wh = nI 0 => h (by rw [q]; decide)), if_neg (fun q : wh = nI 1 => h (by rw [q]; decide)), if_neg (fun q : wh = nI 2 => h (by rw [q]; decide)), if_neg (fun q : wh = nI 3 => h (by rw [q]; decide)), if_neg (fun q : wh = nI 4 => h (by rw [q]; decide)), if_neg (fun q : wh = nI 5 => h (by rw [q]; decide)), if_neg (fun q : wh = nI 6 => h (by rw [q]; decide)), if_neg (fun q : wh = nI 7 => h (by rw [q]; decide)), if_neg (fun q : wh = nI 8 => h (by rw [q]; decide))]
theorem eStageBad {wh a0 a1 a2 : Int32} (h : ¬ (nI 0 ≤ wh ∧ wh ≤ nI 2)) : tStage wh a0 a1 a2 = -2 := by
  unfold tStage
  rw [if_neg (fun q : wh = nI 0 => h (by rw [q]; decide)), if_neg (fun q : wh = nI 1 => h (by rw [q]; decide)), if_neg (fun q : wh = nI 2 => h (by rw [q]; decide))]
theorem eCountBad {wh a0 a1 a2 a3 a4 a5 a6 a7 a8 a9 a10 a11 a12 a13 a14 a15 a16 a17 a18 : Int32} (h : ¬ (nI 0 ≤ wh ∧ wh ≤ nI 18)) : tCount wh a0 a1 a2 a3 a4 a5 a6 a7 a8 a9 a10 a11 a12 a13 a14 a15 a16 a17 a18 = -2 := by
  unfold tCount
  rw [if_neg (fun q : wh = nI 0 => h (by rw [q]; decide)), if_neg (fun q : wh = nI 1 => h (by rw [q]; decide)), if_neg (fun q : wh = nI 2 => h (by rw [q]; decide)), if_neg (fun q : wh = nI 3 => h (by rw [q]; decide)), if_neg (fun q : wh = nI 4 => h (by rw [q]; decide)), if_neg (fun q : wh = nI 5 => h (by rw [q]; decide)), if_neg (fun q : wh = nI 6 => h (by rw [q]; decide)), if_neg (fun q : wh = nI 7 => h (by rw [q]; decide)), if_neg (fun q : wh = nI 8 => h (by rw [q]; decide)), if_neg (fun q : wh = nI 9 => h (by rw [q]; decide)), if_neg (fun q : wh = nI 10 => h (by rw [q]; decide)), if_neg (fun q : wh = nI 11 => h (by rw [q]; decide)), if_neg (fun q : wh = nI 12 => h (by rw [q]; decide)), if_neg (fun q : wh = nI 13 => h (by rw [q]; decide)), if_neg (fun q : wh = nI 14 => h (by rw [q]; decide)), if_neg (fun q : wh = nI 15 => h (by rw [q]; decide)), if_neg (fun q : wh = nI 16 => h (by rw [q]; decide)), if_neg (fun q : wh = nI 17 => h (by rw [q]; decide)), if_neg (fun q : wh = nI 18 => h (by rw [q]; decide))]
theorem qGood {lo gz bz oz tk lz nx : Nat} {T : Nat → Nat → Int32} {z : Nat → Int32} (h : RelN lo gz bz oz tk lz nx T z) {kg wn : Nat} (hk : kg < gz) (hw : wn ≤ 6) : tGood (nI wn) (T 1 kg) (T 2 kg) (T 3 kg) (xsumIf (T 6) (nI kg) (T 9) bz) (xcnt (T 6) (nI kg) bz) (xsumIf (T 6) (nI kg) (T 10) bz) (xsumIf (T 18) (nI kg) (T 20) oz) = mGood wn (zG z kg wn) (zsumIf z 3 (nI kg) bz) (zcntIf z (nI kg) bz) (zsumOf z 4 (nI kg) bz) (zogIf z (nI kg) oz) := by
  have hgz := h.1.1.1
  obtain ⟨g1, g2, -, lm, -, -, g3, g4, -⟩ := h.2.1 kg (by omega)
  rcases (show wn = 0 ∨ wn = 1 ∨ wn = 2 ∨ wn = 3 ∨ wn = 4 ∨ wn = 5 ∨ wn = 6 by omega) with rfl | rfl | rfl | rfl | rfl | rfl | rfl
  · exact g1
  · exact g2
  · exact g3.trans g4.symm
  · exact eSumIf (fun k hk => ⟨(h.2.2.1 k (by have := h.1.1.2.1; omega)).1.1, (h.2.2.1 k (by have := h.1.1.2.1; omega)).1.2.2.2.1⟩)
  · exact eCntIf (fun k hk => (h.2.2.1 k (by have := h.1.1.2.1; omega)).1.1)
  · exact eSumOf (by
      intro q
      have := congrArg Int32.toInt q
      rw [nI_toInt (by omega)] at this
      have e : (-5 : Int32).toInt = -5 := by decide
      omega) (fun k hk => ⟨(h.2.2.1 k (by have := h.1.1.2.1; omega)).1.1, (h.2.2.1 k (by have := h.1.1.2.1; omega)).1.2.2.2.2⟩)
  · exact eOgIf (fun k hk => ⟨(h.2.2.2.1 k (by have := h.1.1.2.2.1; omega)).1.1, (h.2.2.2.1 k (by have := h.1.1.2.2.1; omega)).1.2.2.1⟩)
theorem qBatch {lo gz bz oz tk lz nx : Nat} {T : Nat → Nat → Int32} {z : Nat → Int32} (h : RelN lo gz bz oz tk lz nx T z) {kb wn : Nat} (hk : kb < bz) (hw : wn ≤ 11) : tBatch (nI wn) (T 6 kb) (T 7 kb) (T 8 kb) (T 9 kb) (T 10 kb) (T 11 kb) ((T 13 kb + T 14 kb) + T 15 kb) (T 13 kb) (T 14 kb) (T 15 kb) (nI (xstg (T 30) (T 8) (T 2) (T 6) kb)) (T 12 kb) = mBatch wn (zB z kb wn) ((zB z kb 6 + zB z kb 7) + zB z kb 8) (zB z kb (6 + wn - 7)) (nI (zstg z kb)) (zB z kb 9) := by
  have hbz := h.1.1.2.1
  obtain ⟨⟨b1, b2, b3, b4, b5⟩, ⟨b6, b7, b8, b9, b10⟩, -⟩ := h.2.2.1 kb (by omega)
  rcases (show wn = 0 ∨ wn = 1 ∨ wn = 2 ∨ wn = 3 ∨ wn = 4 ∨ wn = 5 ∨ wn = 6 ∨ wn = 7 ∨ wn = 8 ∨ wn = 9 ∨ wn = 10 ∨ wn = 11 by omega) with rfl | rfl | rfl | rfl | rfl | rfl | rfl | rfl | rfl | rfl | rfl | rfl
  · exact b1
  · exact b2
  · exact b3
  · exact b4
  · exact b5
  · exact b6
  · show (T 13 kb + T 14 kb) + T 15 kb = (zB z kb 6 + zB z kb 7) + zB z kb 8
    rw [b7, b8, b9]
  · exact b7
  · exact b8
  · exact b9
  · show nI (xstg (T 30) (T 8) (T 2) (T 6) kb) = nI (zstg z kb)
    rw [rStgEq h hk]
  · exact b10
theorem qOrder {lo gz bz oz tk lz nx : Nat} {T : Nat → Nat → Int32} {z : Nat → Int32} (h : RelN lo gz bz oz tk lz nx T z) {ko wn : Nat} (hk : ko < oz) (hw : wn ≤ 8) : tOrder (nI wn) (T 18 ko) (T 19 ko) (T 20 ko) (T 21 ko) (T 22 ko) (T 23 ko) (T 24 ko) (T 25 ko) (T 26 ko) = mOrder wn (zO z ko wn) (zO z ko 9) (zO z ko 6) (zO z ko 7) := by
  have hoz := h.1.1.2.2.1
  obtain ⟨⟨b1, b2, b3, b4, b5⟩, ⟨b6, b7, b8, b9, b10⟩, -⟩ := h.2.2.2.1 ko (by omega)
  rcases (show wn = 0 ∨ wn = 1 ∨ wn = 2 ∨ wn = 3 ∨ wn = 4 ∨ wn = 5 ∨ wn = 6 ∨ wn = 7 ∨ wn = 8 by omega) with rfl | rfl | rfl | rfl | rfl | rfl | rfl | rfl | rfl
  · exact b1
  · exact b2
  · exact b3
  · exact b4
  · exact b5
  · exact b6
  · exact b7
  · exact b8
  · exact b9
theorem qEvent {lo gz bz oz tk lz nx : Nat} {T : Nat → Nat → Int32} {z : Nat → Int32} (h : RelN lo gz bz oz tk lz nx T z) {bk wn : Nat} (hk : bk < lz) (hw : wn ≤ 3) : tEvent (nI wn) (T 34 ((nx + 9 - bk) % 10)) (T 35 ((nx + 9 - bk) % 10)) (T 36 ((nx + 9 - bk) % 10)) (T 37 ((nx + 9 - bk) % 10)) = z (962 + 4 * bk + wn) := by
  have hlz := h.1.1.2.2.2.1
  obtain ⟨b1, b2, b3, b4⟩ := h.2.2.2.2.2.2.1 bk (by omega)
  rcases (show wn = 0 ∨ wn = 1 ∨ wn = 2 ∨ wn = 3 by omega) with rfl | rfl | rfl | rfl
  · exact b1
  · exact b2
  · exact b3
  · exact b4
theorem qStage {lo gz bz oz tk lz nx : Nat} {T : Nat → Nat → Int32} {z : Nat → Int32} (h : RelN lo gz bz oz tk lz nx T z) {sn wn : Nat} (hs : sn < 4) (hw : wn ≤ 2) : tStage (nI wn) (T 30 sn) (xcntP (fun b => decide (¬ T 9 b ≤ 0 ∧ xstg (T 30) (T 8) (T 2) (T 6) b = sn)) bz) (xsumP (fun b => decide (¬ T 9 b ≤ 0 ∧ xstg (T 30) (T 8) (T 2) (T 6) b = sn)) (T 9) bz) = if wn = 0 then z (954 + sn) else if wn = 1 then zcntS z sn bz else zsumS z sn bz := by
  rcases (show wn = 0 ∨ wn = 1 ∨ wn = 2 by omega) with rfl | rfl | rfl
  · exact (h.2.2.2.2.2.1 sn hs).1
  · exact eCntS (fun k hk => ⟨(h.2.2.1 k (by have := h.1.1.2.1; omega)).1.2.2.2.1, rStgEq h hk⟩)
  · exact eSumS (fun k hk => ⟨(h.2.2.1 k (by have := h.1.1.2.1; omega)).1.2.2.2.1, rStgEq h hk⟩)
theorem qCount {lo gz bz oz tk lz nx : Nat} {T : Nat → Nat → Int32} {z : Nat → Int32} (h : RelN lo gz bz oz tk lz nx T z) {wn pm tl : Nat} (hw : wn ≤ 18) : tCount (nI wn) (T 40 0) (nI gz) (nI bz) (nI oz) (xsum (T 9) bz) (xsum (T 10) bz) (xsum (T 11) bz) ((xsum (T 13) bz + xsum (T 14) bz) + xsum (T 15) bz) (xsum (T 13) bz) (xsum (T 14) bz) (xsum (T 15) bz) (xsum (T 19) oz - xsum (T 20) oz) (xcnt (T 20) 0 oz) (xsum (T 25) oz) (T 38 0) (T 38 1) (T 38 2) (nI pm) (nI tl) = mCount wn (z wn) (zsumOf z (3 + wn - 4) (-5) bz) (zallw z bz) (zsumOf z (6 + wn - 8) (-5) bz) (zoo z (nI wn) oz) (z (4 + wn - 14)) (nI pm) (nI tl) := by
  obtain ⟨a1, a2, a3, a4, a5, a6, a7⟩ := h.1.2.2.1
  rcases (show wn = 0 ∨ wn = 1 ∨ wn = 2 ∨ wn = 3 ∨ wn = 4 ∨ wn = 5 ∨ wn = 6 ∨ wn = 7 ∨ wn = 8 ∨ wn = 9 ∨ wn = 10 ∨ wn = 11 ∨ wn = 12 ∨ wn = 13 ∨ wn = 14 ∨ wn = 15 ∨ wn = 16 ∨ wn = 17 ∨ wn = 18 by omega) with rfl | rfl | rfl | rfl | rfl | rfl | rfl | rfl | rfl | rfl | rfl | rfl | rfl | rfl | rfl | rfl | rfl | rfl | rfl
  · exact a6
  · exact a1.symm
  · exact a2.symm
  · exact a3.symm
  · exact eSum (fun k hk => (h.2.2.1 k (by have := h.1.1.2.1; omega)).1.2.2.2.1)
  · exact eSum (fun k hk => (h.2.2.1 k (by have := h.1.1.2.1; omega)).1.2.2.2.2)
  · exact eSum (fun k hk => (h.2.2.1 k (by have := h.1.1.2.1; omega)).2.1.1)
  · exact eAllw (fun k hk => ⟨(h.2.2.1 k (by have := h.1.1.2.1; omega)).2.1.2.1, (h.2.2.1 k (by have := h.1.1.2.1; omega)).2.1.2.2.1, (h.2.2.1 k (by have := h.1.1.2.1; omega)).2.1.2.2.2.1⟩)
  · exact eSum (fun k hk => (h.2.2.1 k (by have := h.1.1.2.1; omega)).2.1.2.1)
  · exact eSum (fun k hk => (h.2.2.1 k (by have := h.1.1.2.1; omega)).2.1.2.2.1)
  · exact eSum (fun k hk => (h.2.2.1 k (by have := h.1.1.2.1; omega)).2.1.2.2.2.1)
  · exact eOpen (fun k hk => ⟨(h.2.2.2.1 k (by have := h.1.1.2.2.1; omega)).1.2.1, (h.2.2.2.1 k (by have := h.1.1.2.2.1; omega)).1.2.2.1⟩)
  · exact eNone (fun k hk => (h.2.2.2.1 k (by have := h.1.1.2.2.1; omega)).1.2.2.1)
  · exact eDue (fun k hk => (h.2.2.2.1 k (by have := h.1.1.2.2.1; omega)).2.1.2.2.1)
  · exact h.2.2.2.2.2.2.2 0 (by omega)
  · exact h.2.2.2.2.2.2.2 1 (by omega)
  · exact h.2.2.2.2.2.2.2 2 (by omega)
  · rfl
  · rfl
