/-! What the store answers, over a state told apart. -/
section TOLD
variable {n bz oz tk lz nx dy : Nat} (l : Launch) (dC : Nat → ClassId) (dI : Nat → Nat → Nat) (z : XK) {M : XM} {T : Nat → Nat → Int32}
theorem t_good0 (e : mT M = T) (h : Iv n bz oz tk lz nx dy (T)) {g : Nat} (hg : g < n) : zX l (dC, dI) z yX9_good wsX9_good [.int (nI g), .int (nI 0)] M M (T 1 g) := by
  subst e
  exact k_good0 l dC dI z h hg
theorem t_good1 (e : mT M = T) (h : Iv n bz oz tk lz nx dy (T)) {g : Nat} (hg : g < n) : zX l (dC, dI) z yX9_good wsX9_good [.int (nI g), .int (nI 1)] M M (T 2 g) := by
  subst e
  exact k_good1 l dC dI z h hg
theorem t_good2 (e : mT M = T) (h : Iv n bz oz tk lz nx dy (T)) {g : Nat} (hg : g < n) : zX l (dC, dI) z yX9_good wsX9_good [.int (nI g), .int (nI 2)] M M (T 3 g) := by
  subst e
  exact k_good2 l dC dI z h hg
theorem t_good3 (e : mT M = T) (h : Iv n bz oz tk lz nx dy (T)) {g : Nat} (hg : g < n) : zX l (dC, dI) z yX9_good wsX9_good [.int (nI g), .int (nI 3)] M M (xsumIf (T 6) (nI g) (T 9) bz) := by
  subst e
  exact k_good3 l dC dI z h hg
theorem t_good5 (e : mT M = T) (h : Iv n bz oz tk lz nx dy (T)) {g : Nat} (hg : g < n) : zX l (dC, dI) z yX9_good wsX9_good [.int (nI g), .int (nI 5)] M M (xsumIf (T 6) (nI g) (T 10) bz) := by
  subst e
  exact k_good5 l dC dI z h hg
theorem t_good6 (e : mT M = T) (h : Iv n bz oz tk lz nx dy (T)) {g : Nat} (hg : g < n) : zX l (dC, dI) z yX9_good wsX9_good [.int (nI g), .int (nI 6)] M M (xsumIf (T 18) (nI g) (T 20) oz) := by
  subst e
  exact k_good6 l dC dI z h hg
theorem t_batch0 (e : mT M = T) (h : Iv n bz oz tk lz nx dy (T)) {b : Nat} (hb : b < bz) : zX l (dC, dI) z yX9_batch wsX9_batch [.int (nI b), .int (nI 0)] M M (T 6 b) := by
  subst e
  exact k_batch0 l dC dI z h hb
theorem t_batch1 (e : mT M = T) (h : Iv n bz oz tk lz nx dy (T)) {b : Nat} (hb : b < bz) : zX l (dC, dI) z yX9_batch wsX9_batch [.int (nI b), .int (nI 1)] M M (T 7 b) := by
  subst e
  exact k_batch1 l dC dI z h hb
theorem t_batch2 (e : mT M = T) (h : Iv n bz oz tk lz nx dy (T)) {b : Nat} (hb : b < bz) : zX l (dC, dI) z yX9_batch wsX9_batch [.int (nI b), .int (nI 2)] M M (T 8 b) := by
  subst e
  exact k_batch2 l dC dI z h hb
theorem t_batch3 (e : mT M = T) (h : Iv n bz oz tk lz nx dy (T)) {b : Nat} (hb : b < bz) : zX l (dC, dI) z yX9_batch wsX9_batch [.int (nI b), .int (nI 3)] M M (T 9 b) := by
  subst e
  exact k_batch3 l dC dI z h hb
theorem t_batch4 (e : mT M = T) (h : Iv n bz oz tk lz nx dy (T)) {b : Nat} (hb : b < bz) : zX l (dC, dI) z yX9_batch wsX9_batch [.int (nI b), .int (nI 4)] M M (T 10 b) := by
  subst e
  exact k_batch4 l dC dI z h hb
theorem t_batch5 (e : mT M = T) (h : Iv n bz oz tk lz nx dy (T)) {b : Nat} (hb : b < bz) : zX l (dC, dI) z yX9_batch wsX9_batch [.int (nI b), .int (nI 5)] M M (T 11 b) := by
  subst e
  exact k_batch5 l dC dI z h hb
theorem t_batch6 (e : mT M = T) (h : Iv n bz oz tk lz nx dy (T)) {b : Nat} (hb : b < bz) : zX l (dC, dI) z yX9_batch wsX9_batch [.int (nI b), .int (nI 6)] M M (T 13 b + T 14 b + T 15 b) := by
  subst e
  exact k_batch6 l dC dI z h hb
theorem t_batch7 (e : mT M = T) (h : Iv n bz oz tk lz nx dy (T)) {b : Nat} (hb : b < bz) : zX l (dC, dI) z yX9_batch wsX9_batch [.int (nI b), .int (nI 7)] M M (T 13 b) := by
  subst e
  exact k_batch7 l dC dI z h hb
theorem t_batch8 (e : mT M = T) (h : Iv n bz oz tk lz nx dy (T)) {b : Nat} (hb : b < bz) : zX l (dC, dI) z yX9_batch wsX9_batch [.int (nI b), .int (nI 8)] M M (T 14 b) := by
  subst e
  exact k_batch8 l dC dI z h hb
theorem t_batch9 (e : mT M = T) (h : Iv n bz oz tk lz nx dy (T)) {b : Nat} (hb : b < bz) : zX l (dC, dI) z yX9_batch wsX9_batch [.int (nI b), .int (nI 9)] M M (T 15 b) := by
  subst e
  exact k_batch9 l dC dI z h hb
theorem t_batch10 (e : mT M = T) (h : Iv n bz oz tk lz nx dy (T)) {b : Nat} (hb : b < bz) : zX l (dC, dI) z yX9_batch wsX9_batch [.int (nI b), .int (nI 10)] M M (nI (xstg (T 30) (T 8) (T 2) (T 6) b)) := by
  subst e
  exact k_batch10 l dC dI z h hb
theorem t_batch11 (e : mT M = T) (h : Iv n bz oz tk lz nx dy (T)) {b : Nat} (hb : b < bz) : zX l (dC, dI) z yX9_batch wsX9_batch [.int (nI b), .int (nI 11)] M M (T 12 b) := by
  subst e
  exact k_batch11 l dC dI z h hb
theorem t_count0 (e : mT M = T) (h : Iv n bz oz tk lz nx dy (T)) {L : List (Nat → Nat → Int32)} (hH : mH M L) : zX l (dC, dI) z yX9_count wsX9_count [.int (nI 0)] M M (nI dy) := by
  subst e
  exact k_count0 l dC dI z h hH
theorem t_count2 (e : mT M = T) (h : Iv n bz oz tk lz nx dy (T)) {L : List (Nat → Nat → Int32)} (hH : mH M L) : zX l (dC, dI) z yX9_count wsX9_count [.int (nI 2)] M M (nI bz) := by
  subst e
  exact k_count2 l dC dI z h hH
theorem t_count3 (e : mT M = T) (h : Iv n bz oz tk lz nx dy (T)) {L : List (Nat → Nat → Int32)} (hH : mH M L) : zX l (dC, dI) z yX9_count wsX9_count [.int (nI 3)] M M (nI oz) := by
  subst e
  exact k_count3 l dC dI z h hH
theorem t_count4 (e : mT M = T) (h : Iv n bz oz tk lz nx dy (T)) {L : List (Nat → Nat → Int32)} (hH : mH M L) : zX l (dC, dI) z yX9_count wsX9_count [.int (nI 4)] M M (xsum (T 9) bz) := by
  subst e
  exact k_count4 l dC dI z h hH
theorem t_count5 (e : mT M = T) (h : Iv n bz oz tk lz nx dy (T)) {L : List (Nat → Nat → Int32)} (hH : mH M L) : zX l (dC, dI) z yX9_count wsX9_count [.int (nI 5)] M M (xsum (T 10) bz) := by
  subst e
  exact k_count5 l dC dI z h hH
theorem t_count6 (e : mT M = T) (h : Iv n bz oz tk lz nx dy (T)) {L : List (Nat → Nat → Int32)} (hH : mH M L) : zX l (dC, dI) z yX9_count wsX9_count [.int (nI 6)] M M (xsum (T 11) bz) := by
  subst e
  exact k_count6 l dC dI z h hH
theorem t_count7 (e : mT M = T) (h : Iv n bz oz tk lz nx dy (T)) {L : List (Nat → Nat → Int32)} (hH : mH M L) : zX l (dC, dI) z yX9_count wsX9_count [.int (nI 7)] M M (xsum (T 13) bz + xsum (T 14) bz + xsum (T 15) bz) := by
  subst e
  exact k_count7 l dC dI z h hH
theorem t_count8 (e : mT M = T) (h : Iv n bz oz tk lz nx dy (T)) {L : List (Nat → Nat → Int32)} (hH : mH M L) : zX l (dC, dI) z yX9_count wsX9_count [.int (nI 8)] M M (xsum (T 13) bz) := by
  subst e
  exact k_count8 l dC dI z h hH
theorem t_count13 (e : mT M = T) (h : Iv n bz oz tk lz nx dy (T)) {L : List (Nat → Nat → Int32)} (hH : mH M L) : zX l (dC, dI) z yX9_count wsX9_count [.int (nI 13)] M M (xsum (T 25) oz) := by
  subst e
  exact k_count13 l dC dI z h hH
theorem t_count16 (e : mT M = T) (h : Iv n bz oz tk lz nx dy (T)) {L : List (Nat → Nat → Int32)} (hH : mH M L) : zX l (dC, dI) z yX9_count wsX9_count [.int (nI 16)] M M (T 38 2) := by
  subst e
  exact k_count16 l dC dI z h hH
theorem t_stage0 (e : mT M = T) (h : Iv n bz oz tk lz nx dy (T)) {s : Nat} (hs : s < 4) : zX l (dC, dI) z yX9_stage wsX9_stage [.int (nI s), .int (nI 0)] M M (T 30 s) := by
  subst e
  exact k_stage0 l dC dI z h hs
theorem t_stage2 (e : mT M = T) (h : Iv n bz oz tk lz nx dy (T)) {s : Nat} (hs : s < 4) : zX l (dC, dI) z yX9_stage wsX9_stage [.int (nI s), .int (nI 2)] M M (xsumP (fun b => decide (¬ (T 9) b ≤ 0 ∧ xstg (T 30) (T 8) (T 2) (T 6) b = s)) (T 9) bz) := by
  subst e
  exact k_stage2 l dC dI z h hs
theorem t_order0 (e : mT M = T) (h : Iv n bz oz tk lz nx dy (T)) {o : Nat} (ho : o < oz) : zX l (dC, dI) z yX9_orderTold wsX9_orderTold [.int (nI o), .int (nI 0)] M M (T 18 o) := by
  subst e
  exact k_order0 l dC dI z h ho
theorem t_order1 (e : mT M = T) (h : Iv n bz oz tk lz nx dy (T)) {o : Nat} (ho : o < oz) : zX l (dC, dI) z yX9_orderTold wsX9_orderTold [.int (nI o), .int (nI 1)] M M (T 19 o) := by
  subst e
  exact k_order1 l dC dI z h ho
theorem t_order2 (e : mT M = T) (h : Iv n bz oz tk lz nx dy (T)) {o : Nat} (ho : o < oz) : zX l (dC, dI) z yX9_orderTold wsX9_orderTold [.int (nI o), .int (nI 2)] M M (T 20 o) := by
  subst e
  exact k_order2 l dC dI z h ho
theorem t_order3 (e : mT M = T) (h : Iv n bz oz tk lz nx dy (T)) {o : Nat} (ho : o < oz) : zX l (dC, dI) z yX9_orderTold wsX9_orderTold [.int (nI o), .int (nI 3)] M M (T 21 o) := by
  subst e
  exact k_order3 l dC dI z h ho
theorem t_order4 (e : mT M = T) (h : Iv n bz oz tk lz nx dy (T)) {o : Nat} (ho : o < oz) : zX l (dC, dI) z yX9_orderTold wsX9_orderTold [.int (nI o), .int (nI 4)] M M (T 22 o) := by
  subst e
  exact k_order4 l dC dI z h ho
theorem t_order6 (e : mT M = T) (h : Iv n bz oz tk lz nx dy (T)) {o : Nat} (ho : o < oz) : zX l (dC, dI) z yX9_orderTold wsX9_orderTold [.int (nI o), .int (nI 6)] M M (T 24 o) := by
  subst e
  exact k_order6 l dC dI z h ho
theorem t_order7 (e : mT M = T) (h : Iv n bz oz tk lz nx dy (T)) {o : Nat} (ho : o < oz) : zX l (dC, dI) z yX9_orderTold wsX9_orderTold [.int (nI o), .int (nI 7)] M M (T 25 o) := by
  subst e
  exact k_order7 l dC dI z h ho
theorem t_order8 (e : mT M = T) (h : Iv n bz oz tk lz nx dy (T)) {o : Nat} (ho : o < oz) : zX l (dC, dI) z yX9_orderTold wsX9_orderTold [.int (nI o), .int (nI 8)] M M (T 26 o) := by
  subst e
  exact k_order8 l dC dI z h ho
theorem t_taken0 (e : mT M = T) (h : Iv n bz oz tk lz nx dy (T)) {o ft pt p : Nat} (ho : o < oz) (hf : T 27 o = nI ft) (hp : T 24 o = nI pt) (hs : ft + pt ≤ 70) (hlt : p < pt) : zX l (dC, dI) z yX9_taken wsX9_taken [.int (nI o), .int (nI p), .int (nI 0)] M M (T 28 (ft + p)) := by
  subst e
  exact k_taken0 l dC dI z h ho hf hp hs hlt
theorem t_taken1 (e : mT M = T) (h : Iv n bz oz tk lz nx dy (T)) {o ft pt p : Nat} (ho : o < oz) (hf : T 27 o = nI ft) (hp : T 24 o = nI pt) (hs : ft + pt ≤ 70) (hlt : p < pt) : zX l (dC, dI) z yX9_taken wsX9_taken [.int (nI o), .int (nI p), .int (nI 1)] M M (T 29 (ft + p)) := by
  subst e
  exact k_taken1 l dC dI z h ho hf hp hs hlt
theorem t_takenN (e : mT M = T) (h : Iv n bz oz tk lz nx dy (T)) {o pt : Nat} (ho : o < oz) (hp : T 24 o = nI pt) (hs : pt ≤ 70) : zX l (dC, dI) z yX9_taken wsX9_taken [.int (nI o), .int (nI pt), .int (nI 0)] M M (-5) := by
  subst e
  exact k_takenN l dC dI z h ho hp hs
theorem t_event0 (e : mT M = T) (h : Iv n bz oz tk lz nx dy (T)) (h1 : 1 ≤ lz) : zX l (dC, dI) z yX9_event wsX9_event [.int (nI 0), .int (nI 0)] M M (T 34 ((nx + 9) % 10)) := by
  subst e
  exact k_event0 l dC dI z h h1
theorem t_event1 (e : mT M = T) (h : Iv n bz oz tk lz nx dy (T)) (h1 : 1 ≤ lz) : zX l (dC, dI) z yX9_event wsX9_event [.int (nI 0), .int (nI 1)] M M (T 35 ((nx + 9) % 10)) := by
  subst e
  exact k_event1 l dC dI z h h1
theorem t_event2 (e : mT M = T) (h : Iv n bz oz tk lz nx dy (T)) (h1 : 1 ≤ lz) : zX l (dC, dI) z yX9_event wsX9_event [.int (nI 0), .int (nI 2)] M M (T 36 ((nx + 9) % 10)) := by
  subst e
  exact k_event2 l dC dI z h h1
theorem t_sub (e : mT M = T) (h : Iv n bz oz tk lz nx dy (T)) {g lm p : Nat} (hg : g < n) (hl : T 3 g = nI lm) (hlm : lm ≤ 4) (hp : p < lm) : zX l (dC, dI) z yX9_substitute wsX9_substitute [.int (nI g), .int (nI p)] M M (T 4 (g * 4 + p)) := by
  subst e
  exact k_sub l dC dI z h hg hl hlm hp
theorem t_price (e : mT M = T) (h : Iv n bz oz tk lz nx dy (T)) {b : Nat} (hb : b < bz) : zXf l (dC, dI) z yX9_unitPrice wsX9_unitPrice [.int (nI b)] M (xpr (T) b) := by
  subst e
  exact k_price l dC dI z h hb
theorem t_md (e : mT M = T) {s : Nat} (hs : s < 4) : zXf l (dC, dI) z yX9_markdown wsX9_markdown [.int (nI s)] M (xf1 (T 31 s)) := by
  subst e
  exact k_md l dC dI z hs
end TOLD
